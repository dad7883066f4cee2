/-! ===== what holds between the calls of the law ===== -/
/-- the machine at the law's entry -/
def LX (p : Program) (s : State) (m : MethodId) (meth : Method) (c : Code) (b L : Nat) (xv : Nat → Int32) (D : va_G) (kI kB : ClassId) : Prop := p.tables.exec = Jvm.exec ∧ c.code = code ∧ meth.sig.returnType = ret ∧ c.maxLocals = 4 ∧ s.vm.findClass RL = some m.cls ∧ (∀ w ∈ wsL_law, w.before #[Value.ref b] s = true) ∧ va_X b L xv s s.heap ∧ b < s.heap.size ∧ meth.locks = false ∧ gK D kI kB s ∧ L ≤ 2048
/-- the law goes on from pc to its end -/
def LG (p : Program) (l : Launch) (e : Env) (s : State) (m : MethodId) (below : List Frame) (meth : Method) (c : Code) (b o5 hm i : Nat) (D : va_G) (kI kB : ClassId) (Q : State → Prop) (pcL : Nat) : Prop := ∀ (pp : Nat) (q1 : Nat) (q2 : Nat) (o : Nat) (h : Nat) (a0 : Nat) (a1 : Nat) (a2 : Nat) (a3 : Nat) (a4 : Nat) (a5 : Nat) (a6 : Nat) (a7 : Nat) (a8 : Nat) (a9 : Nat) (b0 : Nat) (b1 : Nat) (b2 : Nat) (b3 : Nat) (b4 : Nat) (b5 : Nat) (b6 : Nat) (th : Nat) (t0 : Nat) (t1 : Nat) (t2 : Nat) (t3 : Nat) (t4 : Nat) (t5 : Nat) (t6 : Nat) (pa : Nat) (ps : Nat) (im : Nat) (i0 : Nat) (i1 : Nat) (i2 : Nat) (m0 : Nat) (m1 : Nat) (m3 : Nat) (m4 : Nat) (m8a : Nat) (m9 : Nat) (m10 : Nat) (m13 : Nat) (m14 : Nat) (m15 : Nat) (m16 : Nat) (sd : Int) (st : Bool) (jb : Int) (cn : Nat) (pc : Nat) (hc : Nat) (lc : Nat) (tn : Nat) (ua : Nat) (um : Nat) (F : Nat → Int) (G : Nat → Int) (FI_ : Nat → Int) (CH_ : Nat → Int) (SO : Nat → Int) (EO : Nat → Int) (RO : Nat → Int) (DA : Nat → Bool) (TW : Nat → Int) (SZ : Nat → Int) (RM : Nat → Int) (BT : Nat → Int) (LT : Nat → Int) (RT : Nat → Int) (RR : Nat → Bool) (NU : Nat → Int) (PG : Nat → Int) (HG : Nat → Int) (TO : Nat → Int) (TF : Nat → Int) (TC : Nat → Int) (TS : Nat → Int) (TE : Nat → Int) (TR : Nat → Int) (TD : Nat → Bool) (TT : Nat → Int) (U : Nat → Int) (KP : Nat → Int) (KS : Nat → Int) (KB : Nat → Bool) (dMm : Int) (lMm : Int) (hMm : Int) (FM : Nat → Int) (GM : Nat → Int) (NUm : Nat → Int) (QUm : Nat → Int) (DFm : Nat → Int) (LFm : Nat → Int) (HAm : Nat → Int) (UMm : Nat → Int) (KBm : Nat → Bool) (KPm : Nat → Int) (KSm : Nat → Int) (P : Nat → Nat) (H : Heap) (locs : List Loc) (ls : Array Slot), va_P D gC [(o5, .inr (5, [.ref pp, .ref o, .ref th, .ref pa, .ref im, .int (zI sd), .int (bI st)])), (pp, .inr (3, [.ref q1, .ref q2, .int (zI jb)])), (q1, .inl (kI, 16, .inl (aZ F))), (q2, .inl (kI, 16, .inl (aZ G))), (o, .inr (1, [.ref h, .ref a0, .ref a1, .ref a2, .ref a3, .ref a4, .ref a5, .ref a6, .ref a7, .ref a8, .ref a9, .int (zI (pc : Int)), .int (zI (hc : Int)), .int (zI (lc : Int))])), (h, .inr (4, [.ref b0, .ref b1, .ref b2, .ref b3, .ref b4, .ref b5, .ref b6, .int (zI (cn : Int))])), (b0, .inl (kI, 17, .inl (aZ FI_))), (b1, .inl (kI, 16, .inl (aZ CH_))), (b2, .inl (kI, 256, .inl (aZ SO))), (b3, .inl (kI, 256, .inl (aZ EO))), (b4, .inl (kI, 256, .inl (aZ RO))), (b5, .inl (kB, 256, .inl (aB DA))), (b6, .inl (kI, 256, .inl (aZ TW))), (a0, .inl (kI, 256, .inl (aZ SZ))), (a1, .inl (kI, 256, .inl (aZ RM))), (a2, .inl (kI, 256, .inl (aZ BT))), (a3, .inl (kI, 256, .inl (aZ LT))), (a4, .inl (kI, 256, .inl (aZ RT))), (a5, .inl (kB, 256, .inl (aB RR))), (a6, .inl (kI, 256, .inl (aZ NU))), (a7, .inl (kI, 256, .inl (aZ PG))), (a8, .inl (kI, 256, .inl (aZ HG))), (a9, .inl (kI, 8, .inl (aZ TO))), (th, .inr (4, [.ref t0, .ref t1, .ref t2, .ref t3, .ref t4, .ref t5, .ref t6, .int (zI (tn : Int))])), (t0, .inl (kI, 17, .inl (aZ TF))), (t1, .inl (kI, 16, .inl (aZ TC))), (t2, .inl (kI, 256, .inl (aZ TS))), (t3, .inl (kI, 256, .inl (aZ TE))), (t4, .inl (kI, 256, .inl (aZ TR))), (t5, .inl (kB, 256, .inl (aB TD))), (t6, .inl (kI, 256, .inl (aZ TT))), (pa, .inr (2, [.ref ps, .int (zI (ua : Int)), .int (zI (um : Int))])), (ps, .inl (kI, 510, .inl (aZ U))), (im, .inr (0, [.ref i0, .ref i1, .ref i2])), (i0, .inl (kI, 34, .inl (aZ KP))), (i1, .inl (kI, 2, .inl (aZ KS))), (i2, .inl (kB, 2, .inl (aB KB))), (hm, .inr (6, [.ref m0, .ref m1, .int (zI sd), .ref m3, .ref m4, .int (zI dMm), .int (zI lMm), .int (zI hMm), .ref m8a, .ref m9, .ref m10, .int (zI (um : Int)), .int (zI (ua : Int)), .ref m13, .ref m14, .ref m15, .ref m16])), (m0, .inl (kI, 17, .inl (aZ FM))), (m1, .inl (kI, 17, .inl (aZ GM))), (m3, .inl (kI, 256, .inl (aZ NUm))), (m4, .inl (kI, 256, .inl (aZ QUm))), (m8a, .inl (kI, 128, .inl (aZ DFm))), (m9, .inl (kI, 128, .inl (aZ LFm))), (m10, .inl (kI, 128, .inl (aZ HAm))), (m13, .inl (kI, 510, .inl (aZ UMm))), (m14, .inl (kB, 2, .inl (aB KBm))), (m15, .inl (kI, 34, .inl (aZ KPm))), (m16, .inl (kI, 2, .inl (aZ KSm)))] H → va_D (fun q : Nat => s.heap.size ≤ q) [(o5, .inr (5, [.ref pp, .ref o, .ref th, .ref pa, .ref im, .int (zI sd), .int (bI st)])), (pp, .inr (3, [.ref q1, .ref q2, .int (zI jb)])), (q1, .inl (kI, 16, .inl (aZ F))), (q2, .inl (kI, 16, .inl (aZ G))), (o, .inr (1, [.ref h, .ref a0, .ref a1, .ref a2, .ref a3, .ref a4, .ref a5, .ref a6, .ref a7, .ref a8, .ref a9, .int (zI (pc : Int)), .int (zI (hc : Int)), .int (zI (lc : Int))])), (h, .inr (4, [.ref b0, .ref b1, .ref b2, .ref b3, .ref b4, .ref b5, .ref b6, .int (zI (cn : Int))])), (b0, .inl (kI, 17, .inl (aZ FI_))), (b1, .inl (kI, 16, .inl (aZ CH_))), (b2, .inl (kI, 256, .inl (aZ SO))), (b3, .inl (kI, 256, .inl (aZ EO))), (b4, .inl (kI, 256, .inl (aZ RO))), (b5, .inl (kB, 256, .inl (aB DA))), (b6, .inl (kI, 256, .inl (aZ TW))), (a0, .inl (kI, 256, .inl (aZ SZ))), (a1, .inl (kI, 256, .inl (aZ RM))), (a2, .inl (kI, 256, .inl (aZ BT))), (a3, .inl (kI, 256, .inl (aZ LT))), (a4, .inl (kI, 256, .inl (aZ RT))), (a5, .inl (kB, 256, .inl (aB RR))), (a6, .inl (kI, 256, .inl (aZ NU))), (a7, .inl (kI, 256, .inl (aZ PG))), (a8, .inl (kI, 256, .inl (aZ HG))), (a9, .inl (kI, 8, .inl (aZ TO))), (th, .inr (4, [.ref t0, .ref t1, .ref t2, .ref t3, .ref t4, .ref t5, .ref t6, .int (zI (tn : Int))])), (t0, .inl (kI, 17, .inl (aZ TF))), (t1, .inl (kI, 16, .inl (aZ TC))), (t2, .inl (kI, 256, .inl (aZ TS))), (t3, .inl (kI, 256, .inl (aZ TE))), (t4, .inl (kI, 256, .inl (aZ TR))), (t5, .inl (kB, 256, .inl (aB TD))), (t6, .inl (kI, 256, .inl (aZ TT))), (pa, .inr (2, [.ref ps, .int (zI (ua : Int)), .int (zI (um : Int))])), (ps, .inl (kI, 510, .inl (aZ U))), (im, .inr (0, [.ref i0, .ref i1, .ref i2])), (i0, .inl (kI, 34, .inl (aZ KP))), (i1, .inl (kI, 2, .inl (aZ KS))), (i2, .inl (kB, 2, .inl (aB KB))), (hm, .inr (6, [.ref m0, .ref m1, .int (zI sd), .ref m3, .ref m4, .int (zI dMm), .int (zI lMm), .int (zI hMm), .ref m8a, .ref m9, .ref m10, .int (zI (um : Int)), .int (zI (ua : Int)), .ref m13, .ref m14, .ref m15, .ref m16])), (m0, .inl (kI, 17, .inl (aZ FM))), (m1, .inl (kI, 17, .inl (aZ GM))), (m3, .inl (kI, 256, .inl (aZ NUm))), (m4, .inl (kI, 256, .inl (aZ QUm))), (m8a, .inl (kI, 128, .inl (aZ DFm))), (m9, .inl (kI, 128, .inl (aZ LFm))), (m10, .inl (kI, 128, .inl (aZ HAm))), (m13, .inl (kI, 510, .inl (aZ UMm))), (m14, .inl (kB, 2, .inl (aB KBm))), (m15, .inl (kI, 34, .inl (aZ KPm))), (m16, .inl (kI, 2, .inl (aZ KSm)))] → va_S (fun q : Nat => s.heap.size ≤ q) s.heap H locs → lv_has ls 4 [(0, .ref b), (1, .ref o5), (2, .ref hm), (3, .int (zI (i : Int)))] → (Pic F P) → (Pic FM P) → (FM 16 = jb) → (0 ≤ jb ∧ jb ≤ 65535) → (st = false → VaI P (decide (jb = 8)) FI_ CH_ SO EO RO DA TW cn SZ RM BT LT RT RR NU PG HG pc hc lc) → (ua < 30) → (um ≤ 30) → (0 ≤ sd ∧ sd ≤ 2147483647) → (∀ k, k < 510 → U k = UMm k) → (∀ k, k < 510 → 0 ≤ U k ∧ U k ≤ 65535) → (∀ k, k < 34 → KP k = KPm k) → (∀ k, k < 34 → 0 ≤ KP k ∧ KP k ≤ 65535) → (∀ k, k < 2 → KS k = KSm k) → (∀ k, k < 2 → 0 ≤ KS k ∧ KS k ≤ 2147483647) → (∀ k, k < 2 → KB k = KBm k) → W p l e room_1 s m #[Value.ref b] below meth c H locs 49 7059 Q (F0 m pcL ls [])
theorem rd_ex (v : Int32) : ∃ r : Int, v = zI r ∧ -2147483648 ≤ r ∧ r ≤ 2147483647 := ⟨v.toInt, (zI_self v).symm, Int32.le_toInt _, Int.le_of_lt_add_one (Int32.toInt_lt _)⟩
section LL
variable {p : Program} {l : Launch} {e_ : Env} {R : Room} {s : State} {m : MethodId} {args : Array Value} {below : List Frame} {meth : Method} {c : Code} {H H0 : Heap} {locs : List Loc} {cells slots : Nat} {Q : State → Prop}
variable {cc : ByteArray} {pc : Nat} {ls : Array Slot} {rest : List Value} {A : Nat → Prop}
theorem l_ld (hx : p.tables.exec = Jvm.exec) (hb : c.code = cc) {b L : Nat} {xv : Nat → Int32} (hX : va_X b L xv s H0) (hbl : b < H0.size) (hbA : ¬ A b) (hS : va_S A H0 H locs) (hL : L ≤ 2048) {z r : Int} (j : Nat) (e : z = (j : Int)) (hj : j < L) (hr : xv j = zI r) (hdg : decode cc pc = .ok (.iaload, 1))
    (kk : W p l e_ R s m args below meth c H locs cells slots Q (F0 m (pc + 1) ls (.int (zI r) :: rest))) : W p l e_ R s m args below meth c H locs cells slots Q (F0 m pc ls (.int (zI z) :: .ref b :: rest)) := by
  subst e
  have h1 := zI_cl j (by omega)
  refine va_sld hx hb hX hbl hbA hS (by rw [zI_nat]; exact vp_in_nI hj (by omega)) hdg ?_
  rw [h1, hr]
  exact kk
end LL

theorem push_cgN {n : Nat} {U U2 F F2 : Nat → Int} {a : Nat} (hU : ∀ k, k < n → U k = U2 k) (hF : ∀ k, k < 17 → F k = F2 k) : ∀ k, k < n → pushN U F a 17 k = pushN U2 F2 a 17 k := by
  intro k hk
  unfold pushN
  by_cases q : 17 * a ≤ k ∧ k < 17 * a + 17
  · rw [if_pos q, if_pos q]; exact hF _ (by omega)
  · rw [if_neg q, if_neg q]; exact hU k hk
theorem push_bd {n : Nat} {U F : Nat → Int} {a : Nat} (hU : ∀ k, k < n → 0 ≤ U k ∧ U k ≤ 65535) (hF : ∀ k, k < 17 → 0 ≤ F k ∧ F k ≤ 65535) : ∀ k, k < n → 0 ≤ pushN U F a 17 k ∧ pushN U F a 17 k ≤ 65535 := by
  intro k hk
  unfold pushN
  by_cases q : 17 * a ≤ k ∧ k < 17 * a + 17
  · rw [if_pos q]; exact hF _ (by omega)
  · rw [if_neg q]; exact hU k hk
theorem row17 {F FM : Nat → Int} {P : Nat → Nat} {jb : Int} (hF : Pic F P) (hFM : Pic FM P) (h16 : FM 16 = jb) : ∀ k, k < 17 → uZ F 16 jb k = FM k := by
  intro k hk
  by_cases q : k < 16
  · rw [uZ_n _ _ (by omega), (hF k q).1, (hFM k q).1]
  · rw [show k = 16 by omega, uZ_s, h16]
theorem row17b {F : Nat → Int} {P : Nat → Nat} {jb : Int} (hF : Pic F P) (hjb : 0 ≤ jb ∧ jb ≤ 65535) : ∀ k, k < 17 → 0 ≤ uZ F 16 jb k ∧ uZ F 16 jb k ≤ 65535 := by
  intro k hk
  by_cases q : k < 16
  · have := hF k q
    rw [uZ_n _ _ (by omega)]; omega
  · rw [show k = 16 by omega, uZ_s]; exact hjb
theorem lw_push {n : Nat} {F FM U UM U1 UM1 : Nat → Int} {P : Nat → Nat} {jb : Int} {a : Nat} (hF : Pic F P) (hFM : Pic FM P) (h16 : FM 16 = jb) (hU : ∀ k, k < n → U k = UM k) (h1 : ∀ k, k < n → U1 k = pushN U (uZ F 16 jb) a 17 k) (h2 : ∀ k, k < n → UM1 k = pushN UM FM a 17 k) : ∀ k, k < n → U1 k = UM1 k := by
  intro k hk
  rw [h1 k hk, h2 k hk]
  exact push_cgN hU (row17 hF hFM h16) k hk
theorem lw_pushb {n : Nat} {F U U1 : Nat → Int} {P : Nat → Nat} {jb : Int} {a : Nat} (hF : Pic F P) (hjb : 0 ≤ jb ∧ jb ≤ 65535) (hU : ∀ k, k < n → 0 ≤ U k ∧ U k ≤ 65535) (h1 : ∀ k, k < n → U1 k = pushN U (uZ F 16 jb) a 17 k) : ∀ k, k < n → 0 ≤ U1 k ∧ U1 k ≤ 65535 := by
  intro k hk
  rw [h1 k hk]
  exact push_bd hU (row17b hF hjb) k hk
theorem pic_dk {F1 F2 : Nat → Int} {T1 T2 : Nat → Nat} {f : Nat → Bool} (h1 : Pic F1 T1) (h2 : Pic F2 T2) (d1 : ∀ x, x < 256 → dk T1 x = f x) (d2 : ∀ x, x < 256 → dk T2 x = f x) : Pic F2 T1 := by
  refine h2.congr (fun k hk => ?_)
  refine nat_ext16 (h2 k hk).2 (h1 k hk).2 (fun i hi => ?_)
  have a := d1 (16 * k + i) (by omega)
  have b := d2 (16 * k + i) (by omega)
  rw [dk_row hi] at a b
  rw [a, b]
theorem toP_cg {U UM : Nat → Int} {a : Nat} (h : ∀ k, k < 510 → U k = UM k) (ha : a + 17 ≤ 510) : ∀ k, k < 16 → toP UM a k = toP U a k := by
  intro k hk
  unfold toP
  rw [h _ (by omega)]
theorem dots_cg {P P2 : Nat → Nat} (h : ∀ k, k < 16 → P k = P2 k) : dots P = dots P2 := fb_sm_cong (fun k hk => by rw [h k hk])
theorem dU_cg {U UM : Nat → Int} {P : Nat → Nat} {jb : Int} {v a : Nat} (h : ∀ k, k < 510 → U k = UM k) : ∀ n k, k < 510 → dU U P jb v a n k = dU UM P jb v a n k
  | 0 => h
  | n + 1 => push_cgN (dU_cg h n) (fun _ _ => rfl)
theorem fl1_lt {P : Nat → Nat} {x : Nat} (hx : x < 256) (h : ∀ k, k < 16 → P k < 65536) : ∀ k, k < 16 → fl1 P x k < 65536 := by
  intro k hk
  unfold fl1 uN
  by_cases q : k = x / 16
  · rw [if_pos q]; exact xor_le (h _ (by omega)) (bit_lt x)
  · rw [if_neg q]; exact h k hk
theorem dP_lt {P : Nat → Nat} {v : Nat} (h : ∀ k, k < 16 → P k < 65536) : ∀ n k, k < 16 → dP P v n k < 65536
  | 0 => h
  | n + 1 => fl1_lt (plc_lt _) (dP_lt h n)
theorem dU_bd {U : Nat → Int} {P : Nat → Nat} {jb : Int} {v a : Nat} (hU : ∀ k, k < 510 → 0 ≤ U k ∧ U k ≤ 65535) (hP : ∀ k, k < 16 → P k < 65536) (hjb : 0 ≤ jb ∧ jb ≤ 65535) : ∀ n k, k < 510 → 0 ≤ dU U P jb v a n k ∧ dU U P jb v a n k ≤ 65535
  | 0 => hU
  | n + 1 => push_bd (dU_bd hU hP hjb n) (fun k hk => by
      unfold rowsF
      by_cases q : k < 16
      · have := dP_lt (v := v) hP n k q
        rw [if_pos q]; omega
      · rw [if_neg q]; exact hjb)
theorem nv_st {Z : Prop} : true = false → Z := fun z => absurd z (by decide)
