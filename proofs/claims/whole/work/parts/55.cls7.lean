/-- the next run of a group -/
def nxF (TW : Nat → Int) (n g : Nat) : Nat → Nat → Nat
  | 0, k => k
  | f + 1, k => if k < n ∧ ¬ TW k = (g : Int) then nxF TW n g f (k + 1) else k
def nxG (TW : Nat → Int) (n g k : Nat) : Nat := nxF TW n g (n - k) k
theorem nxG_end {TW : Nat → Int} {n g k : Nat} (h : n ≤ k) : k = nxG TW n g k := by unfold nxG; rw [show n - k = 0 by omega]; rfl
theorem nxG_yes {TW : Nat → Int} {n g k : Nat} (h : k < n) (e : TW k = (g : Int)) : k = nxG TW n g k := by unfold nxG; rw [show n - k = (n - k - 1) + 1 by omega, nxF, if_neg (fun z => z.2 e)]
theorem nxG_no {TW : Nat → Int} {n g k : Nat} (h : k < n) (e : ¬ TW k = (g : Int)) : nxG TW n g k = nxG TW n g (k + 1) := by
  unfold nxG
  rw [show n - k = (n - (k + 1)) + 1 by omega, nxF, if_pos ⟨h, e⟩]
theorem FlI.run_no {P T : Nat → Nat} {m8 : Bool} {R i : Nat} (hi : i < sR P 256) (hn : ¬ rp P m8 (spl P i) = R) (h : FlI P T (fun x => cb (rp P m8 x = R)) (spl P i)) : FlI P T (fun x => cb (rp P m8 x = R)) (epl P i + 1) := by
  have hge := epl_ge hi
  intro x hx
  rw [h x hx]
  by_cases q : spl P i ≤ x ∧ x ≤ epl P i
  · have := run_rp (m8 := m8) (k := x - spl P i) hi (by omega)
    rw [show spl P i + (x - spl P i) = x by omega] at this
    have hc : cb (rp P m8 x = R) = false := cb_f.mpr (by rw [this]; exact hn)
    dsimp only
    rw [hc, Bool.and_false, Bool.and_false]
  · rw [show decide (x < spl P i) = decide (x < epl P i + 1) from decide_eq_decide.mpr (by omega)]
theorem FlI.run_yes {P T : Nat → Nat} {m8 : Bool} {R i : Nat} (hi : i < sR P 256) (hn : rp P m8 (spl P i) = R) (h : FlI P T (fun x => cb (rp P m8 x = R)) (spl P i)) : FlI P (uN T (spl P i / 16) (T (spl P i / 16) ^^^ colN (spl P i % 16) (epl P i % 16))) (fun x => cb (rp P m8 x = R)) (epl P i + 1) := by
  have hge := epl_ge hi
  have hrw := run_row hi
  intro x hx
  have e : dk (uN T (spl P i / 16) (T (spl P i / 16) ^^^ colN (spl P i % 16) (epl P i % 16))) x = (dk T x ^^ decide (spl P i ≤ x ∧ x ≤ epl P i)) := by
    unfold dk uN
    by_cases q : x / 16 = spl P i / 16
    · rw [if_pos q, Nat.testBit_xor, q, col_tb (by omega), ← Bool.decide_and]
      congr 1
      exact decide_eq_decide.mpr (by omega)
    · rw [if_neg q, decide_eq_false (by omega), Bool.xor_false]
  rw [e, h x hx]
  by_cases q : spl P i ≤ x ∧ x ≤ epl P i
  · have := run_rp (m8 := m8) (k := x - spl P i) hi (by omega)
    rw [show spl P i + (x - spl P i) = x by omega] at this
    have hc : cb (rp P m8 x = R) = true := cb_t.mpr (by rw [this]; exact hn)
    dsimp only
    rw [hc, decide_eq_true q, decide_eq_false (show ¬ x < spl P i by omega), decide_eq_true (show x < epl P i + 1 by omega)]
    cases dk P x <;> rfl
  · rw [decide_eq_false q, Bool.xor_false, show decide (x < spl P i) = decide (x < epl P i + 1) from decide_eq_decide.mpr (by omega)]
set_option maxRecDepth 20000 in
theorem in_X1_isTouched_X1 : ∀ w ∈ u_ws RX1 TX1 14, w ∈ wsX1_isTouched := by decide +kernel
set_option maxRecDepth 20000 in
theorem in_X1_joinsAt_X1 : ∀ w ∈ u_ws RX1 TX1 14, w ∈ wsX1_joinsAt := by decide +kernel
set_option maxRecDepth 20000 in
theorem in_X1_flipDotsOf_X1 : ∀ w ∈ u_ws RX1 TX1 14, w ∈ wsX1_flipDotsOf := by decide +kernel
set_option maxRecDepth 20000 in
theorem in_X1_flipDotsOf_X4 : ∀ w ∈ u_ws RX4 TX4 8, w ∈ wsX1_flipDotsOf := by decide +kernel
set_option maxRecDepth 20000 in
theorem in_X1_nextOfGroup_X1 : ∀ w ∈ u_ws RX1 TX1 14, w ∈ wsX1_nextOfGroup := by decide +kernel
set_option maxRecDepth 20000 in
theorem in_X1_nextOfGroup_X4 : ∀ w ∈ u_ws RX4 TX4 8, w ∈ wsX1_nextOfGroup := by decide +kernel
theorem hd_X1_isTouched : yX1_isTouched.cls = RX1 ∧ yX1_isTouched.cls ≠ "java/lang/invoke/MethodHandle" ∧ yX1_isTouched.cls ≠ "java/lang/invoke/VarHandle" ∧ (parseMethodDescriptor yX1_isTouched.desc).map (fun d => d.parameters.length) = some 2 := by decide +kernel
theorem hd_X3_flip : yX3_flip.cls = RX3 ∧ yX3_flip.cls ≠ "java/lang/invoke/MethodHandle" ∧ yX3_flip.cls ≠ "java/lang/invoke/VarHandle" ∧ (parseMethodDescriptor yX3_flip.desc).map (fun d => d.parameters.length) = some 2 := by decide +kernel
set_option maxHeartbeats 4000000 in
set_option maxRecDepth 100000 in
theorem c_X1_isTouched (l : Launch) (D : va_G) (kI kB : ClassId) (o : Nat) (h : Nat) (a0 : Nat) (a1 : Nat) (a2 : Nat) (a3 : Nat) (a4 : Nat) (a5 : Nat) (a6 : Nat) (a7 : Nat) (a8 : Nat) (a9 : Nat) (pc : Nat) (hc : Nat) (lc : Nat) (TO : Nat → Int) (p : Int) (t : Nat) (rp_ : -2147483648 ≤ p ∧ p ≤ 2147483647) (ht : t ≤ 8) (hb : ∀ s, s < t → 0 ≤ TO s ∧ TO s ≤ 255) : gI l yX1_isTouched wsX1_isTouched ({ frames := 0, cells := 0, slots := 0, locals := 0 } : Room) D kI kB [.ref o, .int (zI p), .int (zI (t : Int))] [(o, .inr (1, [.ref h, .ref a0, .ref a1, .ref a2, .ref a3, .ref a4, .ref a5, .ref a6, .ref a7, .ref a8, .ref a9, .int (zI (pc : Int)), .int (zI (hc : Int)), .int (zI (lc : Int))])), (a9, .inl (kI, 8, .inl (aZ TO)))] (bI (cb (toE TO t p))) := by
  refine g_start (cc := cX1_isTouched) (maxL := 4) (ret := (some .boolean)) (by decide) rfl (Nat.le_of_ble_eq_true rfl) ?_
  intro xp xe xs xm xbl xmt xc xX xB xR xM xT xO xL xN wP wD wK ls wl
  have wS : va_S (fun _ => False) xs.heap xs.heap [] := va_S.rf
  have wl : lv_has ls 4 [(0, .ref o), (1, .int (zI p)), (2, .int (zI (t : Int)))] := wl
  generalize hQ : MQ xbl _ _ xs 0 0 _ = xQ
  refine z_iconst xX xB dX1_isTouched_0 ?_
  refine lv_istore_n (lv' := [(3, .int (zI 0)), (0, .ref o), (1, .int (zI p)), (2, .int (zI (t : Int)))]) xX xB dX1_isTouched_1 rfl wl (by decide) rfl (fun ls wl => ?_)
  have K : ∀ n_ : Nat, ∀ (s : Nat), t - s < n_ → (s ≤ t) → (∀ u, u < s → ¬ TO u = p) → ∀ (H : Heap) (locs : List Loc) (ls : Array Slot), va_P D gC [(o, .inr (1, [.ref h, .ref a0, .ref a1, .ref a2, .ref a3, .ref a4, .ref a5, .ref a6, .ref a7, .ref a8, .ref a9, .int (zI (pc : Int)), .int (zI (hc : Int)), .int (zI (lc : Int))])), (a9, .inl (kI, 8, .inl (aZ TO)))] H → va_S (fun _ => False) xs.heap H locs → lv_has ls 4 [(0, .ref o), (1, .int (zI p)), (2, .int (zI (t : Int))), (3, .int (zI (s : Int)))] → W xp l xe ({ frames := 0, cells := 0, slots := 0, locals := 0 } : Room) xs xm (List.toArray [.ref o, .int (zI p), .int (zI (t : Int))]) xbl xmt xc H locs 0 0 xQ (F0 xm 2 ls []) := by
    intro n_
    induction n_ with
    | zero =>
      intro s hme
      exact absurd hme (Nat.not_lt_zero _)
    | succ n_ ihK =>
      intro s hme hs hu H locs ls wP wS wl
      refine lv_iload_n xX xB dX1_isTouched_2 rfl (lv_at wl 3 rfl) ?_
      refine lv_iload_n xX xB dX1_isTouched_3 rfl (lv_at wl 2 rfl) ?_
      refine z_icmp_ge (tgt := 34) xX xB dX1_isTouched_4 (by decide) (by omega) (by omega) (fun h4 => ?_) (fun h4 => ?_)
      · skip
        refine z_iconst xX xB dX1_isTouched_34 ?_
        refine lv_ri (y := bI false) rfl ?_
        subst hQ
        exact g_zret xX xB xR xL wS dX1_isTouched_35 (cb_f.mpr (fun ⟨u, u1, u2⟩ => hu u (by omega) u2)).symm
      · skip
        refine lv_iload_n xX xB dX1_isTouched_7 rfl (lv_at wl 3 rfl) ?_
        refine lv_aload_n xX xB dX1_isTouched_8 rfl (lv_at wl 0 rfl) ?_
        refine va_get (D := D) (ci := 1) (v := .ref a9) (C := RX1) (T := TX1) (N := 14) xX xB xT in_X1_isTouched_X1 xO wK.1 wP 0 rfl rfl 10 (by decide) (xT _ (List.mem_of_getElem? (i := 1) rfl)) (fun _ h9 => h9) rfl dX1_isTouched_9 ?_
        refine z_alen xX xB wK wP 1 rfl dX1_isTouched_12 ?_
        refine z_icmp_ge (tgt := 34) xX xB dX1_isTouched_13 (by decide) (by omega) (by omega) (fun h13 => ?_) (fun h13 => ?_)
        · exact absurd h13 (by omega)
        · skip
          refine lv_aload_n xX xB dX1_isTouched_16 rfl (lv_at wl 0 rfl) ?_
          refine va_get (D := D) (ci := 1) (v := .ref a9) (C := RX1) (T := TX1) (N := 14) xX xB xT in_X1_isTouched_X1 xO wK.1 wP 0 rfl rfl 10 (by decide) (xT _ (List.mem_of_getElem? (i := 1) rfl)) (fun _ h9 => h9) rfl dX1_isTouched_17 ?_
          refine lv_iload_n xX xB dX1_isTouched_20 rfl (lv_at wl 3 rfl) ?_
          refine z_iald xX xB wK wP 1 rfl s rfl (by omega) (Nat.le_of_ble_eq_true rfl) dX1_isTouched_21 ?_
          refine lv_iload_n xX xB dX1_isTouched_22 rfl (lv_at wl 1 rfl) ?_
          refine z_icmp_ne (tgt := 28) xX xB dX1_isTouched_23 (by decide) (by have := hb s (by omega); omega) (by omega) (fun h23 => ?_) (fun h23 => ?_)
          · skip
            refine lv_iinc (v := zI ((s : Int) + 1)) (lv' := [(3, .int (zI ((s : Int) + 1))), (0, .ref o), (1, .int (zI p)), (2, .int (zI (t : Int)))]) xX xB dX1_isTouched_28 wl (k := 3) rfl (zI_add _ _) (by decide) rfl (fun ls wl => ?_)
            refine lv_goto (tgt := 2) xX xB dX1_isTouched_31 (by decide) ?_
            exact ihK (s + 1) (by omega) (by omega) (fun u h => by by_cases q : u = s; (rw [q]; exact h23); exact hu u (by omega)) _ _ _ wP wS (lv_sub wl [1, 2, 3, 0] rfl)
          · skip
            refine z_iconst xX xB dX1_isTouched_26 ?_
            refine lv_ri (y := bI true) rfl ?_
            subst hQ
            exact g_zret xX xB xR xL wS dX1_isTouched_27 (cb_t.mpr ⟨s, by omega, h23⟩).symm
  exact K _ 0 (Nat.lt_succ_self _) (by omega) (fun u h => absurd h (Nat.not_lt_zero u)) _ _ _ wP wS (lv_sub wl [1, 2, 3, 0] rfl)

set_option maxHeartbeats 4000000 in
set_option maxRecDepth 100000 in
theorem c_X1_joinsAt (l : Launch) (D : va_G) (kI kB : ClassId) (o : Nat) (h : Nat) (a0 : Nat) (a1 : Nat) (a2 : Nat) (a3 : Nat) (a4 : Nat) (a5 : Nat) (a6 : Nat) (a7 : Nat) (a8 : Nat) (a9 : Nat) (pc : Nat) (hc : Nat) (lc : Nat) (b0 : Nat) (b1 : Nat) (b2 : Nat) (b3 : Nat) (b4 : Nat) (b5 : Nat) (b6 : Nat) (cn : Nat) (FI_ : Nat → Int) (CH_ : Nat → Int) (SO : Nat → Int) (EO : Nat → Int) (RO : Nat → Int) (DA : Nat → Bool) (TW : Nat → Int) (NU : Nat → Int) (PG : Nat → Int) (HG : Nat → Int) (P : Nat → Nat) (m8 : Bool) (TO : Nat → Int) (ro : Nat) (co : Nat) (hO : RunsOK P m8 FI_ CH_ SO EO RO DA TW) (hN : NuI P m8 256 NU PG HG pc hc lc) (hro : ro < 16) (hco : co < 16) (hx0 : dk P (16 * ro + co) = false) : gM l yX1_joinsAt wsX1_joinsAt ({ frames := 4, cells := 0, slots := 0, locals := 88 } : Room) D kI kB [.ref o, .int (zI (ro : Int)), .int (zI (co : Int)), .int (bI m8)] [(o, .inr (1, [.ref h, .ref a0, .ref a1, .ref a2, .ref a3, .ref a4, .ref a5, .ref a6, .ref a7, .ref a8, .ref a9, .int (zI (pc : Int)), .int (zI (hc : Int)), .int (zI (lc : Int))])), (h, .inr (4, [.ref b0, .ref b1, .ref b2, .ref b3, .ref b4, .ref b5, .ref b6, .int (zI (cn : Int))])), (b0, .inl (kI, 17, .inl (aZ FI_))), (b1, .inl (kI, 16, .inl (aZ CH_))), (b2, .inl (kI, 256, .inl (aZ SO))), (b3, .inl (kI, 256, .inl (aZ EO))), (b4, .inl (kI, 256, .inl (aZ RO))), (b5, .inl (kB, 256, .inl (aB DA))), (b6, .inl (kI, 256, .inl (aZ TW))), (a6, .inl (kI, 256, .inl (aZ NU))), (a7, .inl (kI, 256, .inl (aZ PG))), (a8, .inl (kI, 256, .inl (aZ HG))), (a9, .inl (kI, 8, .inl (aZ TO)))] (fun (TO1 : Nat → Int) => [(o, .inr (1, [.ref h, .ref a0, .ref a1, .ref a2, .ref a3, .ref a4, .ref a5, .ref a6, .ref a7, .ref a8, .ref a9, .int (zI (pc : Int)), .int (zI (hc : Int)), .int (zI (lc : Int))])), (h, .inr (4, [.ref b0, .ref b1, .ref b2, .ref b3, .ref b4, .ref b5, .ref b6, .int (zI (cn : Int))])), (b0, .inl (kI, 17, .inl (aZ FI_))), (b1, .inl (kI, 16, .inl (aZ CH_))), (b2, .inl (kI, 256, .inl (aZ SO))), (b3, .inl (kI, 256, .inl (aZ EO))), (b4, .inl (kI, 256, .inl (aZ RO))), (b5, .inl (kB, 256, .inl (aB DA))), (b6, .inl (kI, 256, .inl (aZ TW))), (a6, .inl (kI, 256, .inl (aZ NU))), (a7, .inl (kI, 256, .inl (aZ PG))), (a8, .inl (kI, 256, .inl (aZ HG))), (a9, .inl (kI, 8, .inl (aZ TO1)))]) (fun (r : Int32) (TO1 : Nat → Int) => r = zI ((fb_ct (fun v => cb (pnE P m8 ro co 9 v)) (cD P m8 256) : Nat) : Int) ∧ True) := by
  refine g_start (cc := cX1_joinsAt) (maxL := 9) (ret := (some .int)) (by decide) rfl (Nat.le_of_ble_eq_true rfl) ?_
  intro xp xe xs xm xbl xmt xc xX xB xR xM xT xO xL xN wP wD wK ls wl
  have wS : va_S (gA [(o, .inr (1, [.ref h, .ref a0, .ref a1, .ref a2, .ref a3, .ref a4, .ref a5, .ref a6, .ref a7, .ref a8, .ref a9, .int (zI (pc : Int)), .int (zI (hc : Int)), .int (zI (lc : Int))])), (h, .inr (4, [.ref b0, .ref b1, .ref b2, .ref b3, .ref b4, .ref b5, .ref b6, .int (zI (cn : Int))])), (b0, .inl (kI, 17, .inl (aZ FI_))), (b1, .inl (kI, 16, .inl (aZ CH_))), (b2, .inl (kI, 256, .inl (aZ SO))), (b3, .inl (kI, 256, .inl (aZ EO))), (b4, .inl (kI, 256, .inl (aZ RO))), (b5, .inl (kB, 256, .inl (aB DA))), (b6, .inl (kI, 256, .inl (aZ TW))), (a6, .inl (kI, 256, .inl (aZ NU))), (a7, .inl (kI, 256, .inl (aZ PG))), (a8, .inl (kI, 256, .inl (aZ HG))), (a9, .inl (kI, 8, .inl (aZ TO)))]) xs.heap xs.heap [] := va_S.rf
  have wl : lv_has ls 9 [(0, .ref o), (1, .int (zI (ro : Int))), (2, .int (zI (co : Int))), (3, .int (bI m8))] := wl
  generalize hQ : MQ xbl _ _ xs 0 0 _ = xQ
  refine z_iconst xX xB dX1_joinsAt_0 ?_
  refine lv_istore (lv' := [(4, .int (zI 0)), (0, .ref o), (1, .int (zI (ro : Int))), (2, .int (zI (co : Int))), (3, .int (bI m8))]) xX xB dX1_joinsAt_1 wl (by decide) rfl (fun ls wl => ?_)
  refine lv_iload_n xX xB dX1_joinsAt_3 rfl (lv_at wl 2 rfl) ?_
  refine z_iconst xX xB dX1_joinsAt_4 ?_
  refine z_isub xX xB dX1_joinsAt_5 ?_
  refine lv_istore (lv' := [(5, .int (zI ((ro : Int) - 1))), (4, .int (zI 0)), (0, .ref o), (1, .int (zI (ro : Int))), (2, .int (zI (co : Int))), (3, .int (bI m8))]) xX xB dX1_joinsAt_6 wl (by decide) rfl (fun ls wl => ?_)
  have K : ∀ n_ : Nat, ∀ (yy : Int) (dy : Nat) (t : Nat) (TO1 : Nat → Int), 3 - dy < n_ → (yy = (ro : Int) - 1 + (dy : Int)) → (dy ≤ 3) → (TcI P m8 ro co TO1 t (3 * dy)) → ∀ (H : Heap) (locs : List Loc) (ls : Array Slot), va_P D gC [(o, .inr (1, [.ref h, .ref a0, .ref a1, .ref a2, .ref a3, .ref a4, .ref a5, .ref a6, .ref a7, .ref a8, .ref a9, .int (zI (pc : Int)), .int (zI (hc : Int)), .int (zI (lc : Int))])), (h, .inr (4, [.ref b0, .ref b1, .ref b2, .ref b3, .ref b4, .ref b5, .ref b6, .int (zI (cn : Int))])), (b0, .inl (kI, 17, .inl (aZ FI_))), (b1, .inl (kI, 16, .inl (aZ CH_))), (b2, .inl (kI, 256, .inl (aZ SO))), (b3, .inl (kI, 256, .inl (aZ EO))), (b4, .inl (kI, 256, .inl (aZ RO))), (b5, .inl (kB, 256, .inl (aB DA))), (b6, .inl (kI, 256, .inl (aZ TW))), (a6, .inl (kI, 256, .inl (aZ NU))), (a7, .inl (kI, 256, .inl (aZ PG))), (a8, .inl (kI, 256, .inl (aZ HG))), (a9, .inl (kI, 8, .inl (aZ TO1)))] H → va_D (gA [(o, .inr (1, [.ref h, .ref a0, .ref a1, .ref a2, .ref a3, .ref a4, .ref a5, .ref a6, .ref a7, .ref a8, .ref a9, .int (zI (pc : Int)), .int (zI (hc : Int)), .int (zI (lc : Int))])), (h, .inr (4, [.ref b0, .ref b1, .ref b2, .ref b3, .ref b4, .ref b5, .ref b6, .int (zI (cn : Int))])), (b0, .inl (kI, 17, .inl (aZ FI_))), (b1, .inl (kI, 16, .inl (aZ CH_))), (b2, .inl (kI, 256, .inl (aZ SO))), (b3, .inl (kI, 256, .inl (aZ EO))), (b4, .inl (kI, 256, .inl (aZ RO))), (b5, .inl (kB, 256, .inl (aB DA))), (b6, .inl (kI, 256, .inl (aZ TW))), (a6, .inl (kI, 256, .inl (aZ NU))), (a7, .inl (kI, 256, .inl (aZ PG))), (a8, .inl (kI, 256, .inl (aZ HG))), (a9, .inl (kI, 8, .inl (aZ TO)))]) [(o, .inr (1, [.ref h, .ref a0, .ref a1, .ref a2, .ref a3, .ref a4, .ref a5, .ref a6, .ref a7, .ref a8, .ref a9, .int (zI (pc : Int)), .int (zI (hc : Int)), .int (zI (lc : Int))])), (h, .inr (4, [.ref b0, .ref b1, .ref b2, .ref b3, .ref b4, .ref b5, .ref b6, .int (zI (cn : Int))])), (b0, .inl (kI, 17, .inl (aZ FI_))), (b1, .inl (kI, 16, .inl (aZ CH_))), (b2, .inl (kI, 256, .inl (aZ SO))), (b3, .inl (kI, 256, .inl (aZ EO))), (b4, .inl (kI, 256, .inl (aZ RO))), (b5, .inl (kB, 256, .inl (aB DA))), (b6, .inl (kI, 256, .inl (aZ TW))), (a6, .inl (kI, 256, .inl (aZ NU))), (a7, .inl (kI, 256, .inl (aZ PG))), (a8, .inl (kI, 256, .inl (aZ HG))), (a9, .inl (kI, 8, .inl (aZ TO1)))] → va_S (gA [(o, .inr (1, [.ref h, .ref a0, .ref a1, .ref a2, .ref a3, .ref a4, .ref a5, .ref a6, .ref a7, .ref a8, .ref a9, .int (zI (pc : Int)), .int (zI (hc : Int)), .int (zI (lc : Int))])), (h, .inr (4, [.ref b0, .ref b1, .ref b2, .ref b3, .ref b4, .ref b5, .ref b6, .int (zI (cn : Int))])), (b0, .inl (kI, 17, .inl (aZ FI_))), (b1, .inl (kI, 16, .inl (aZ CH_))), (b2, .inl (kI, 256, .inl (aZ SO))), (b3, .inl (kI, 256, .inl (aZ EO))), (b4, .inl (kI, 256, .inl (aZ RO))), (b5, .inl (kB, 256, .inl (aB DA))), (b6, .inl (kI, 256, .inl (aZ TW))), (a6, .inl (kI, 256, .inl (aZ NU))), (a7, .inl (kI, 256, .inl (aZ PG))), (a8, .inl (kI, 256, .inl (aZ HG))), (a9, .inl (kI, 8, .inl (aZ TO)))]) xs.heap H locs → lv_has ls 9 [(0, .ref o), (1, .int (zI (ro : Int))), (2, .int (zI (co : Int))), (3, .int (bI m8)), (4, .int (zI (t : Int))), (5, .int (zI yy))] → W xp l xe ({ frames := 4, cells := 0, slots := 0, locals := 88 } : Room) xs xm (List.toArray [.ref o, .int (zI (ro : Int)), .int (zI (co : Int)), .int (bI m8)]) xbl xmt xc H locs 0 0 xQ (F0 xm 8 ls []) := by
    intro n_
    induction n_ with
    | zero =>
      intro yy dy t TO1 hme
      exact absurd hme (Nat.not_lt_zero _)
    | succ n_ ihK =>
      intro yy dy t TO1 hme hyy hdy hT H locs ls wP wD wS wl
      refine lv_iload xX xB dX1_joinsAt_8 (lv_at wl 5 rfl) ?_
      refine lv_iload_n xX xB dX1_joinsAt_10 rfl (lv_at wl 1 rfl) ?_
      refine z_iconst xX xB dX1_joinsAt_11 ?_
      refine z_iadd xX xB dX1_joinsAt_12 ?_
      refine z_icmp_gt (tgt := 122) xX xB dX1_joinsAt_13 (by decide) (by omega) (by omega) (fun h13 => ?_) (fun h13 => ?_)
      · skip
        refine lv_iload xX xB dX1_joinsAt_122 (lv_at wl 4 rfl) ?_
        subst hQ
        exact g_mret TO1 xX xB xR xL wP wS dX1_joinsAt_124 ⟨congrArg (fun z : Nat => zI (z : Int)) (by have := hT.1; rw [show 3 * dy = 9 by omega] at this; exact this), trivial⟩
      · skip
        refine lv_iload_n xX xB dX1_joinsAt_16 rfl (lv_at wl 2 rfl) ?_
        refine z_iconst xX xB dX1_joinsAt_17 ?_
        refine z_isub xX xB dX1_joinsAt_18 ?_
        refine lv_istore (lv' := [(6, .int (zI ((co : Int) - 1))), (0, .ref o), (1, .int (zI (ro : Int))), (2, .int (zI (co : Int))), (3, .int (bI m8)), (4, .int (zI (t : Int))), (5, .int (zI yy))]) xX xB dX1_joinsAt_19 wl (by decide) rfl (fun ls wl => ?_)
        have M : ∀ n_ : Nat, ∀ (xx : Int) (dx : Nat) (t : Nat) (TO1 : Nat → Int), 3 - dx < n_ → (xx = (co : Int) - 1 + (dx : Int)) → (dx ≤ 3) → (TcI P m8 ro co TO1 t (3 * dy + dx)) → ∀ (H : Heap) (locs : List Loc) (ls : Array Slot), va_P D gC [(o, .inr (1, [.ref h, .ref a0, .ref a1, .ref a2, .ref a3, .ref a4, .ref a5, .ref a6, .ref a7, .ref a8, .ref a9, .int (zI (pc : Int)), .int (zI (hc : Int)), .int (zI (lc : Int))])), (h, .inr (4, [.ref b0, .ref b1, .ref b2, .ref b3, .ref b4, .ref b5, .ref b6, .int (zI (cn : Int))])), (b0, .inl (kI, 17, .inl (aZ FI_))), (b1, .inl (kI, 16, .inl (aZ CH_))), (b2, .inl (kI, 256, .inl (aZ SO))), (b3, .inl (kI, 256, .inl (aZ EO))), (b4, .inl (kI, 256, .inl (aZ RO))), (b5, .inl (kB, 256, .inl (aB DA))), (b6, .inl (kI, 256, .inl (aZ TW))), (a6, .inl (kI, 256, .inl (aZ NU))), (a7, .inl (kI, 256, .inl (aZ PG))), (a8, .inl (kI, 256, .inl (aZ HG))), (a9, .inl (kI, 8, .inl (aZ TO1)))] H → va_D (gA [(o, .inr (1, [.ref h, .ref a0, .ref a1, .ref a2, .ref a3, .ref a4, .ref a5, .ref a6, .ref a7, .ref a8, .ref a9, .int (zI (pc : Int)), .int (zI (hc : Int)), .int (zI (lc : Int))])), (h, .inr (4, [.ref b0, .ref b1, .ref b2, .ref b3, .ref b4, .ref b5, .ref b6, .int (zI (cn : Int))])), (b0, .inl (kI, 17, .inl (aZ FI_))), (b1, .inl (kI, 16, .inl (aZ CH_))), (b2, .inl (kI, 256, .inl (aZ SO))), (b3, .inl (kI, 256, .inl (aZ EO))), (b4, .inl (kI, 256, .inl (aZ RO))), (b5, .inl (kB, 256, .inl (aB DA))), (b6, .inl (kI, 256, .inl (aZ TW))), (a6, .inl (kI, 256, .inl (aZ NU))), (a7, .inl (kI, 256, .inl (aZ PG))), (a8, .inl (kI, 256, .inl (aZ HG))), (a9, .inl (kI, 8, .inl (aZ TO)))]) [(o, .inr (1, [.ref h, .ref a0, .ref a1, .ref a2, .ref a3, .ref a4, .ref a5, .ref a6, .ref a7, .ref a8, .ref a9, .int (zI (pc : Int)), .int (zI (hc : Int)), .int (zI (lc : Int))])), (h, .inr (4, [.ref b0, .ref b1, .ref b2, .ref b3, .ref b4, .ref b5, .ref b6, .int (zI (cn : Int))])), (b0, .inl (kI, 17, .inl (aZ FI_))), (b1, .inl (kI, 16, .inl (aZ CH_))), (b2, .inl (kI, 256, .inl (aZ SO))), (b3, .inl (kI, 256, .inl (aZ EO))), (b4, .inl (kI, 256, .inl (aZ RO))), (b5, .inl (kB, 256, .inl (aB DA))), (b6, .inl (kI, 256, .inl (aZ TW))), (a6, .inl (kI, 256, .inl (aZ NU))), (a7, .inl (kI, 256, .inl (aZ PG))), (a8, .inl (kI, 256, .inl (aZ HG))), (a9, .inl (kI, 8, .inl (aZ TO1)))] → va_S (gA [(o, .inr (1, [.ref h, .ref a0, .ref a1, .ref a2, .ref a3, .ref a4, .ref a5, .ref a6, .ref a7, .ref a8, .ref a9, .int (zI (pc : Int)), .int (zI (hc : Int)), .int (zI (lc : Int))])), (h, .inr (4, [.ref b0, .ref b1, .ref b2, .ref b3, .ref b4, .ref b5, .ref b6, .int (zI (cn : Int))])), (b0, .inl (kI, 17, .inl (aZ FI_))), (b1, .inl (kI, 16, .inl (aZ CH_))), (b2, .inl (kI, 256, .inl (aZ SO))), (b3, .inl (kI, 256, .inl (aZ EO))), (b4, .inl (kI, 256, .inl (aZ RO))), (b5, .inl (kB, 256, .inl (aB DA))), (b6, .inl (kI, 256, .inl (aZ TW))), (a6, .inl (kI, 256, .inl (aZ NU))), (a7, .inl (kI, 256, .inl (aZ PG))), (a8, .inl (kI, 256, .inl (aZ HG))), (a9, .inl (kI, 8, .inl (aZ TO)))]) xs.heap H locs → lv_has ls 9 [(0, .ref o), (1, .int (zI (ro : Int))), (2, .int (zI (co : Int))), (3, .int (bI m8)), (4, .int (zI (t : Int))), (5, .int (zI yy)), (6, .int (zI xx))] → W xp l xe ({ frames := 4, cells := 0, slots := 0, locals := 88 } : Room) xs xm (List.toArray [.ref o, .int (zI (ro : Int)), .int (zI (co : Int)), .int (bI m8)]) xbl xmt xc H locs 0 0 xQ (F0 xm 21 ls []) := by
          intro n_
          induction n_ with
          | zero =>
            intro xx dx t TO1 hme
            exact absurd hme (Nat.not_lt_zero _)
          | succ n_ ihM =>
            intro xx dx t TO1 hme hxx hdx hT H locs ls wP wD wS wl
            have jd : dx < 3 → (3 * dy + dx) / 3 = dy := by omega
            have jm : dx < 3 → (3 * dy + dx) % 3 = dx := by omega
            refine lv_iload xX xB dX1_joinsAt_21 (lv_at wl 6 rfl) ?_
            refine lv_iload_n xX xB dX1_joinsAt_23 rfl (lv_at wl 2 rfl) ?_
            refine z_iconst xX xB dX1_joinsAt_24 ?_
            refine z_iadd xX xB dX1_joinsAt_25 ?_
            refine z_icmp_gt (tgt := 116) xX xB dX1_joinsAt_26 (by decide) (by omega) (by omega) (fun h26 => ?_) (fun h26 => ?_)
            · skip
              refine lv_iinc (v := zI (yy + 1)) (lv' := [(5, .int (zI (yy + 1))), (0, .ref o), (1, .int (zI (ro : Int))), (2, .int (zI (co : Int))), (3, .int (bI m8)), (4, .int (zI (t : Int))), (6, .int (zI xx))]) xX xB dX1_joinsAt_116 wl (k := 5) rfl (zI_add _ _) (by decide) rfl (fun ls wl => ?_)
              refine lv_goto (tgt := 8) xX xB dX1_joinsAt_119 (by decide) ?_
              exact ihK (yy + 1) (dy + 1) t TO1 (by omega) (by omega) (by omega) (by rw [show 3 * (dy + 1) = 3 * dy + dx by omega]; exact hT) _ _ _ wP wD wS (lv_sub wl [1, 2, 3, 4, 5, 0] rfl)
            · skip
              have J11 : ∀ (nr : Bool), (nr = (m8 || decide (dy = 1) || decide (dx = 1))) → ∀ (H : Heap) (locs : List Loc) (ls : Array Slot), va_P D gC [(o, .inr (1, [.ref h, .ref a0, .ref a1, .ref a2, .ref a3, .ref a4, .ref a5, .ref a6, .ref a7, .ref a8, .ref a9, .int (zI (pc : Int)), .int (zI (hc : Int)), .int (zI (lc : Int))])), (h, .inr (4, [.ref b0, .ref b1, .ref b2, .ref b3, .ref b4, .ref b5, .ref b6, .int (zI (cn : Int))])), (b0, .inl (kI, 17, .inl (aZ FI_))), (b1, .inl (kI, 16, .inl (aZ CH_))), (b2, .inl (kI, 256, .inl (aZ SO))), (b3, .inl (kI, 256, .inl (aZ EO))), (b4, .inl (kI, 256, .inl (aZ RO))), (b5, .inl (kB, 256, .inl (aB DA))), (b6, .inl (kI, 256, .inl (aZ TW))), (a6, .inl (kI, 256, .inl (aZ NU))), (a7, .inl (kI, 256, .inl (aZ PG))), (a8, .inl (kI, 256, .inl (aZ HG))), (a9, .inl (kI, 8, .inl (aZ TO1)))] H → va_D (gA [(o, .inr (1, [.ref h, .ref a0, .ref a1, .ref a2, .ref a3, .ref a4, .ref a5, .ref a6, .ref a7, .ref a8, .ref a9, .int (zI (pc : Int)), .int (zI (hc : Int)), .int (zI (lc : Int))])), (h, .inr (4, [.ref b0, .ref b1, .ref b2, .ref b3, .ref b4, .ref b5, .ref b6, .int (zI (cn : Int))])), (b0, .inl (kI, 17, .inl (aZ FI_))), (b1, .inl (kI, 16, .inl (aZ CH_))), (b2, .inl (kI, 256, .inl (aZ SO))), (b3, .inl (kI, 256, .inl (aZ EO))), (b4, .inl (kI, 256, .inl (aZ RO))), (b5, .inl (kB, 256, .inl (aB DA))), (b6, .inl (kI, 256, .inl (aZ TW))), (a6, .inl (kI, 256, .inl (aZ NU))), (a7, .inl (kI, 256, .inl (aZ PG))), (a8, .inl (kI, 256, .inl (aZ HG))), (a9, .inl (kI, 8, .inl (aZ TO)))]) [(o, .inr (1, [.ref h, .ref a0, .ref a1, .ref a2, .ref a3, .ref a4, .ref a5, .ref a6, .ref a7, .ref a8, .ref a9, .int (zI (pc : Int)), .int (zI (hc : Int)), .int (zI (lc : Int))])), (h, .inr (4, [.ref b0, .ref b1, .ref b2, .ref b3, .ref b4, .ref b5, .ref b6, .int (zI (cn : Int))])), (b0, .inl (kI, 17, .inl (aZ FI_))), (b1, .inl (kI, 16, .inl (aZ CH_))), (b2, .inl (kI, 256, .inl (aZ SO))), (b3, .inl (kI, 256, .inl (aZ EO))), (b4, .inl (kI, 256, .inl (aZ RO))), (b5, .inl (kB, 256, .inl (aB DA))), (b6, .inl (kI, 256, .inl (aZ TW))), (a6, .inl (kI, 256, .inl (aZ NU))), (a7, .inl (kI, 256, .inl (aZ PG))), (a8, .inl (kI, 256, .inl (aZ HG))), (a9, .inl (kI, 8, .inl (aZ TO1)))] → va_S (gA [(o, .inr (1, [.ref h, .ref a0, .ref a1, .ref a2, .ref a3, .ref a4, .ref a5, .ref a6, .ref a7, .ref a8, .ref a9, .int (zI (pc : Int)), .int (zI (hc : Int)), .int (zI (lc : Int))])), (h, .inr (4, [.ref b0, .ref b1, .ref b2, .ref b3, .ref b4, .ref b5, .ref b6, .int (zI (cn : Int))])), (b0, .inl (kI, 17, .inl (aZ FI_))), (b1, .inl (kI, 16, .inl (aZ CH_))), (b2, .inl (kI, 256, .inl (aZ SO))), (b3, .inl (kI, 256, .inl (aZ EO))), (b4, .inl (kI, 256, .inl (aZ RO))), (b5, .inl (kB, 256, .inl (aB DA))), (b6, .inl (kI, 256, .inl (aZ TW))), (a6, .inl (kI, 256, .inl (aZ NU))), (a7, .inl (kI, 256, .inl (aZ PG))), (a8, .inl (kI, 256, .inl (aZ HG))), (a9, .inl (kI, 8, .inl (aZ TO)))]) xs.heap H locs → lv_has ls 9 [(0, .ref o), (1, .int (zI (ro : Int))), (2, .int (zI (co : Int))), (3, .int (bI m8)), (4, .int (zI (t : Int))), (5, .int (zI yy)), (6, .int (zI xx))] → W xp l xe ({ frames := 4, cells := 0, slots := 0, locals := 88 } : Room) xs xm (List.toArray [.ref o, .int (zI (ro : Int)), .int (zI (co : Int)), .int (bI m8)]) xbl xmt xc H locs 0 0 xQ (F0 xm 50 ls [.int (bI nr)]) := by
                intro nr hnr H locs ls wP wD wS wl
                refine lv_istore (lv' := [(7, .int (bI nr)), (0, .ref o), (1, .int (zI (ro : Int))), (2, .int (zI (co : Int))), (3, .int (bI m8)), (4, .int (zI (t : Int))), (5, .int (zI yy)), (6, .int (zI xx))]) xX xB dX1_joinsAt_50 wl (by decide) rfl (fun ls wl => ?_)
                have J22 : ∀ (pv : Int), (pv = pnF P m8 ro co (3 * dy + dx)) → ∀ (H : Heap) (locs : List Loc) (ls : Array Slot), va_P D gC [(o, .inr (1, [.ref h, .ref a0, .ref a1, .ref a2, .ref a3, .ref a4, .ref a5, .ref a6, .ref a7, .ref a8, .ref a9, .int (zI (pc : Int)), .int (zI (hc : Int)), .int (zI (lc : Int))])), (h, .inr (4, [.ref b0, .ref b1, .ref b2, .ref b3, .ref b4, .ref b5, .ref b6, .int (zI (cn : Int))])), (b0, .inl (kI, 17, .inl (aZ FI_))), (b1, .inl (kI, 16, .inl (aZ CH_))), (b2, .inl (kI, 256, .inl (aZ SO))), (b3, .inl (kI, 256, .inl (aZ EO))), (b4, .inl (kI, 256, .inl (aZ RO))), (b5, .inl (kB, 256, .inl (aB DA))), (b6, .inl (kI, 256, .inl (aZ TW))), (a6, .inl (kI, 256, .inl (aZ NU))), (a7, .inl (kI, 256, .inl (aZ PG))), (a8, .inl (kI, 256, .inl (aZ HG))), (a9, .inl (kI, 8, .inl (aZ TO1)))] H → va_D (gA [(o, .inr (1, [.ref h, .ref a0, .ref a1, .ref a2, .ref a3, .ref a4, .ref a5, .ref a6, .ref a7, .ref a8, .ref a9, .int (zI (pc : Int)), .int (zI (hc : Int)), .int (zI (lc : Int))])), (h, .inr (4, [.ref b0, .ref b1, .ref b2, .ref b3, .ref b4, .ref b5, .ref b6, .int (zI (cn : Int))])), (b0, .inl (kI, 17, .inl (aZ FI_))), (b1, .inl (kI, 16, .inl (aZ CH_))), (b2, .inl (kI, 256, .inl (aZ SO))), (b3, .inl (kI, 256, .inl (aZ EO))), (b4, .inl (kI, 256, .inl (aZ RO))), (b5, .inl (kB, 256, .inl (aB DA))), (b6, .inl (kI, 256, .inl (aZ TW))), (a6, .inl (kI, 256, .inl (aZ NU))), (a7, .inl (kI, 256, .inl (aZ PG))), (a8, .inl (kI, 256, .inl (aZ HG))), (a9, .inl (kI, 8, .inl (aZ TO)))]) [(o, .inr (1, [.ref h, .ref a0, .ref a1, .ref a2, .ref a3, .ref a4, .ref a5, .ref a6, .ref a7, .ref a8, .ref a9, .int (zI (pc : Int)), .int (zI (hc : Int)), .int (zI (lc : Int))])), (h, .inr (4, [.ref b0, .ref b1, .ref b2, .ref b3, .ref b4, .ref b5, .ref b6, .int (zI (cn : Int))])), (b0, .inl (kI, 17, .inl (aZ FI_))), (b1, .inl (kI, 16, .inl (aZ CH_))), (b2, .inl (kI, 256, .inl (aZ SO))), (b3, .inl (kI, 256, .inl (aZ EO))), (b4, .inl (kI, 256, .inl (aZ RO))), (b5, .inl (kB, 256, .inl (aB DA))), (b6, .inl (kI, 256, .inl (aZ TW))), (a6, .inl (kI, 256, .inl (aZ NU))), (a7, .inl (kI, 256, .inl (aZ PG))), (a8, .inl (kI, 256, .inl (aZ HG))), (a9, .inl (kI, 8, .inl (aZ TO1)))] → va_S (gA [(o, .inr (1, [.ref h, .ref a0, .ref a1, .ref a2, .ref a3, .ref a4, .ref a5, .ref a6, .ref a7, .ref a8, .ref a9, .int (zI (pc : Int)), .int (zI (hc : Int)), .int (zI (lc : Int))])), (h, .inr (4, [.ref b0, .ref b1, .ref b2, .ref b3, .ref b4, .ref b5, .ref b6, .int (zI (cn : Int))])), (b0, .inl (kI, 17, .inl (aZ FI_))), (b1, .inl (kI, 16, .inl (aZ CH_))), (b2, .inl (kI, 256, .inl (aZ SO))), (b3, .inl (kI, 256, .inl (aZ EO))), (b4, .inl (kI, 256, .inl (aZ RO))), (b5, .inl (kB, 256, .inl (aB DA))), (b6, .inl (kI, 256, .inl (aZ TW))), (a6, .inl (kI, 256, .inl (aZ NU))), (a7, .inl (kI, 256, .inl (aZ PG))), (a8, .inl (kI, 256, .inl (aZ HG))), (a9, .inl (kI, 8, .inl (aZ TO)))]) xs.heap H locs → lv_has ls 9 [(7, .int (bI nr)), (0, .ref o), (1, .int (zI (ro : Int))), (2, .int (zI (co : Int))), (3, .int (bI m8)), (4, .int (zI (t : Int))), (5, .int (zI yy)), (6, .int (zI xx))] → W xp l xe ({ frames := 4, cells := 0, slots := 0, locals := 88 } : Room) xs xm (List.toArray [.ref o, .int (zI (ro : Int)), .int (zI (co : Int)), .int (bI m8)]) xbl xmt xc H locs 0 0 xQ (F0 xm 69 ls [.int (zI pv)]) := by
                  intro pv hpv H locs ls wP wD wS wl
                  have hpr : -1 ≤ pv ∧ pv ≤ 128 := by have := cD_128 (P := P) (m8 := m8); rcases pnF_t (P := P) (m8 := m8) ro co (3 * dy + dx) with q | ⟨v, q1, q2⟩ <;> omega
                  refine lv_istore (lv' := [(8, .int (zI pv)), (7, .int (bI nr)), (0, .ref o), (1, .int (zI (ro : Int))), (2, .int (zI (co : Int))), (3, .int (bI m8)), (4, .int (zI (t : Int))), (5, .int (zI yy)), (6, .int (zI xx))]) xX xB dX1_joinsAt_69 wl (by decide) rfl (fun ls wl => ?_)
                  have J33 : ∀ (t2 : Nat) (TO2 : Nat → Int), (TcI P m8 ro co TO2 t2 (3 * dy + dx + 1)) → ∀ (H : Heap) (locs : List Loc) (ls : Array Slot), va_P D gC [(o, .inr (1, [.ref h, .ref a0, .ref a1, .ref a2, .ref a3, .ref a4, .ref a5, .ref a6, .ref a7, .ref a8, .ref a9, .int (zI (pc : Int)), .int (zI (hc : Int)), .int (zI (lc : Int))])), (h, .inr (4, [.ref b0, .ref b1, .ref b2, .ref b3, .ref b4, .ref b5, .ref b6, .int (zI (cn : Int))])), (b0, .inl (kI, 17, .inl (aZ FI_))), (b1, .inl (kI, 16, .inl (aZ CH_))), (b2, .inl (kI, 256, .inl (aZ SO))), (b3, .inl (kI, 256, .inl (aZ EO))), (b4, .inl (kI, 256, .inl (aZ RO))), (b5, .inl (kB, 256, .inl (aB DA))), (b6, .inl (kI, 256, .inl (aZ TW))), (a6, .inl (kI, 256, .inl (aZ NU))), (a7, .inl (kI, 256, .inl (aZ PG))), (a8, .inl (kI, 256, .inl (aZ HG))), (a9, .inl (kI, 8, .inl (aZ TO2)))] H → va_D (gA [(o, .inr (1, [.ref h, .ref a0, .ref a1, .ref a2, .ref a3, .ref a4, .ref a5, .ref a6, .ref a7, .ref a8, .ref a9, .int (zI (pc : Int)), .int (zI (hc : Int)), .int (zI (lc : Int))])), (h, .inr (4, [.ref b0, .ref b1, .ref b2, .ref b3, .ref b4, .ref b5, .ref b6, .int (zI (cn : Int))])), (b0, .inl (kI, 17, .inl (aZ FI_))), (b1, .inl (kI, 16, .inl (aZ CH_))), (b2, .inl (kI, 256, .inl (aZ SO))), (b3, .inl (kI, 256, .inl (aZ EO))), (b4, .inl (kI, 256, .inl (aZ RO))), (b5, .inl (kB, 256, .inl (aB DA))), (b6, .inl (kI, 256, .inl (aZ TW))), (a6, .inl (kI, 256, .inl (aZ NU))), (a7, .inl (kI, 256, .inl (aZ PG))), (a8, .inl (kI, 256, .inl (aZ HG))), (a9, .inl (kI, 8, .inl (aZ TO)))]) [(o, .inr (1, [.ref h, .ref a0, .ref a1, .ref a2, .ref a3, .ref a4, .ref a5, .ref a6, .ref a7, .ref a8, .ref a9, .int (zI (pc : Int)), .int (zI (hc : Int)), .int (zI (lc : Int))])), (h, .inr (4, [.ref b0, .ref b1, .ref b2, .ref b3, .ref b4, .ref b5, .ref b6, .int (zI (cn : Int))])), (b0, .inl (kI, 17, .inl (aZ FI_))), (b1, .inl (kI, 16, .inl (aZ CH_))), (b2, .inl (kI, 256, .inl (aZ SO))), (b3, .inl (kI, 256, .inl (aZ EO))), (b4, .inl (kI, 256, .inl (aZ RO))), (b5, .inl (kB, 256, .inl (aB DA))), (b6, .inl (kI, 256, .inl (aZ TW))), (a6, .inl (kI, 256, .inl (aZ NU))), (a7, .inl (kI, 256, .inl (aZ PG))), (a8, .inl (kI, 256, .inl (aZ HG))), (a9, .inl (kI, 8, .inl (aZ TO2)))] → va_S (gA [(o, .inr (1, [.ref h, .ref a0, .ref a1, .ref a2, .ref a3, .ref a4, .ref a5, .ref a6, .ref a7, .ref a8, .ref a9, .int (zI (pc : Int)), .int (zI (hc : Int)), .int (zI (lc : Int))])), (h, .inr (4, [.ref b0, .ref b1, .ref b2, .ref b3, .ref b4, .ref b5, .ref b6, .int (zI (cn : Int))])), (b0, .inl (kI, 17, .inl (aZ FI_))), (b1, .inl (kI, 16, .inl (aZ CH_))), (b2, .inl (kI, 256, .inl (aZ SO))), (b3, .inl (kI, 256, .inl (aZ EO))), (b4, .inl (kI, 256, .inl (aZ RO))), (b5, .inl (kB, 256, .inl (aB DA))), (b6, .inl (kI, 256, .inl (aZ TW))), (a6, .inl (kI, 256, .inl (aZ NU))), (a7, .inl (kI, 256, .inl (aZ PG))), (a8, .inl (kI, 256, .inl (aZ HG))), (a9, .inl (kI, 8, .inl (aZ TO)))]) xs.heap H locs → lv_has ls 9 [(0, .ref o), (1, .int (zI (ro : Int))), (2, .int (zI (co : Int))), (3, .int (bI m8)), (4, .int (zI (t2 : Int))), (5, .int (zI yy)), (6, .int (zI xx))] → W xp l xe ({ frames := 4, cells := 0, slots := 0, locals := 88 } : Room) xs xm (List.toArray [.ref o, .int (zI (ro : Int)), .int (zI (co : Int)), .int (bI m8)]) xbl xmt xc H locs 0 0 xQ (F0 xm 110 ls []) := by
                    intro t2 TO2 hT2 H locs ls wP wD wS wl
                    refine lv_iinc (v := zI (xx + 1)) (lv' := [(6, .int (zI (xx + 1))), (0, .ref o), (1, .int (zI (ro : Int))), (2, .int (zI (co : Int))), (3, .int (bI m8)), (4, .int (zI (t2 : Int))), (5, .int (zI yy))]) xX xB dX1_joinsAt_110 wl (k := 6) rfl (zI_add _ _) (by decide) rfl (fun ls wl => ?_)
                    refine lv_goto (tgt := 21) xX xB dX1_joinsAt_113 (by decide) ?_
                    exact ihM (xx + 1) (dx + 1) t2 TO2 (by omega) (by omega) (by omega) (by rw [← Nat.add_assoc]; exact hT2) _ _ _ wP wD wS (lv_sub wl [1, 2, 3, 4, 5, 6, 0] rfl)
                  refine lv_iload xX xB dX1_joinsAt_71 (lv_at wl 0 rfl) ?_
                  refine z_iconst xX xB dX1_joinsAt_73 ?_
                  refine z_icmp_eq (tgt := 110) xX xB dX1_joinsAt_74 (by decide) (by have := hpr; omega) (by omega) (fun h74 => ?_) (fun h74 => ?_)
                  · skip
                    exact J33 t TO1 (hT.same (Or.inl (by rw [← hpv]; exact h74)) (fun e => by rw [e]; exact pnF_4 hro hco hx0)) _ _ _ wP wD wS (lv_sub wl [2, 3, 4, 5, 6, 7, 8] rfl)
                  · skip
                    refine lv_iload xX xB dX1_joinsAt_77 (lv_at wl 6 rfl) ?_
                    refine lv_aload_n xX xB dX1_joinsAt_79 rfl (lv_at wl 2 rfl) ?_
                    refine va_get (D := D) (ci := 1) (v := .ref a9) (C := RX1) (T := TX1) (N := 14) xX xB xT in_X1_joinsAt_X1 xO wK.1 wP 0 rfl rfl 10 (by decide) (xT _ (List.mem_of_getElem? (i := 1) rfl)) (fun _ h9 => h9) rfl dX1_joinsAt_80 ?_
                    refine z_alen xX xB wK wP 12 rfl dX1_joinsAt_83 ?_
                    refine z_icmp_ge (tgt := 110) xX xB dX1_joinsAt_84 (by decide) (by have := hT.2.2.2.1; omega) (by omega) (fun h84 => ?_) (fun h84 => ?_)
                    · exact absurd h84 (by have a := hT.2.2.2.1; have b := hT.2.2.2.2; have e4 : ¬ 3 * dy + dx = 4 := (fun e => h74 (by rw [hpv, e]; exact pnF_4 hro hco hx0)); omega)
                    · skip
                      refine lv_aload_n xX xB dX1_joinsAt_87 rfl (lv_at wl 2 rfl) ?_
                      refine lv_iload xX xB dX1_joinsAt_88 (lv_at wl 0 rfl) ?_
                      refine lv_iload xX xB dX1_joinsAt_90 (lv_at wl 6 rfl) ?_
                      refine g_pure (va_runV (As := [.int (zI pv), .int (zI (t : Int))]) (rest := []) ⟨xX, xB, xM, xO, xT⟩ (c_X1_isTouched l D kI kB o h a0 a1 a2 a3 a4 a5 a6 a7 a8 a9 pc hc lc TO1 pv t (by have := hpr; omega) (by have := hT.2.2.2; omega) hT.2.2.1) (cwV 2 xT gX1_joinsAt_X1_isTouched rfl rfl rfl hd_X1_isTouched ⟨Nat.le_of_ble_eq_true rfl, Nat.le_of_ble_eq_true rfl⟩) (g_preV (ci := 1) (q0 := 0) wP wD wK [0, 12] (by decide) rfl rfl rfl) rfl rfl wl.1 rfl (lv_room (Nat.le_of_ble_eq_true rfl)) dX1_joinsAt_92 ⟨Nat.le_of_ble_eq_true rfl, Nat.le_of_ble_eq_true rfl⟩) wP wS (fun H locs wP wS => ?_)
                      refine b_if_ne (tgt := 110) xX xB dX1_joinsAt_95 (by decide) (fun h95 => ?_) (fun h95 => ?_)
                      · skip
                        exact J33 t TO1 (hT.same (Or.inr (by rw [← hpv]; exact cb_t.mp h95)) (fun e => by rw [e]; exact pnF_4 hro hco hx0)) _ _ _ wP wD wS (lv_sub wl [2, 3, 4, 5, 6, 7, 8] rfl)
                      · skip
                        refine lv_aload_n xX xB dX1_joinsAt_98 rfl (lv_at wl 2 rfl) ?_
                        refine va_get (D := D) (ci := 1) (v := .ref a9) (C := RX1) (T := TX1) (N := 14) xX xB xT in_X1_joinsAt_X1 xO wK.1 wP 0 rfl rfl 10 (by decide) (xT _ (List.mem_of_getElem? (i := 1) rfl)) (fun _ h9 => h9) rfl dX1_joinsAt_99 ?_
                        refine lv_iload xX xB dX1_joinsAt_102 (lv_at wl 6 rfl) ?_
                        refine lv_iload xX xB dX1_joinsAt_104 (lv_at wl 0 rfl) ?_
                        refine z_iast xX xB wK wP wD wS 12 rfl t rfl (by omega) (Nat.le_of_ble_eq_true rfl) dX1_joinsAt_106 (fun H locs wP wD wS => ?_)
                        have wP : va_P D gC [(o, .inr (1, [.ref h, .ref a0, .ref a1, .ref a2, .ref a3, .ref a4, .ref a5, .ref a6, .ref a7, .ref a8, .ref a9, .int (zI (pc : Int)), .int (zI (hc : Int)), .int (zI (lc : Int))])), (h, .inr (4, [.ref b0, .ref b1, .ref b2, .ref b3, .ref b4, .ref b5, .ref b6, .int (zI (cn : Int))])), (b0, .inl (kI, 17, .inl (aZ FI_))), (b1, .inl (kI, 16, .inl (aZ CH_))), (b2, .inl (kI, 256, .inl (aZ SO))), (b3, .inl (kI, 256, .inl (aZ EO))), (b4, .inl (kI, 256, .inl (aZ RO))), (b5, .inl (kB, 256, .inl (aB DA))), (b6, .inl (kI, 256, .inl (aZ TW))), (a6, .inl (kI, 256, .inl (aZ NU))), (a7, .inl (kI, 256, .inl (aZ PG))), (a8, .inl (kI, 256, .inl (aZ HG))), (a9, .inl (kI, 8, .inl (aZ (uZ TO1 t pv))))] H := wP
                        have wD : va_D (gA [(o, .inr (1, [.ref h, .ref a0, .ref a1, .ref a2, .ref a3, .ref a4, .ref a5, .ref a6, .ref a7, .ref a8, .ref a9, .int (zI (pc : Int)), .int (zI (hc : Int)), .int (zI (lc : Int))])), (h, .inr (4, [.ref b0, .ref b1, .ref b2, .ref b3, .ref b4, .ref b5, .ref b6, .int (zI (cn : Int))])), (b0, .inl (kI, 17, .inl (aZ FI_))), (b1, .inl (kI, 16, .inl (aZ CH_))), (b2, .inl (kI, 256, .inl (aZ SO))), (b3, .inl (kI, 256, .inl (aZ EO))), (b4, .inl (kI, 256, .inl (aZ RO))), (b5, .inl (kB, 256, .inl (aB DA))), (b6, .inl (kI, 256, .inl (aZ TW))), (a6, .inl (kI, 256, .inl (aZ NU))), (a7, .inl (kI, 256, .inl (aZ PG))), (a8, .inl (kI, 256, .inl (aZ HG))), (a9, .inl (kI, 8, .inl (aZ TO)))]) [(o, .inr (1, [.ref h, .ref a0, .ref a1, .ref a2, .ref a3, .ref a4, .ref a5, .ref a6, .ref a7, .ref a8, .ref a9, .int (zI (pc : Int)), .int (zI (hc : Int)), .int (zI (lc : Int))])), (h, .inr (4, [.ref b0, .ref b1, .ref b2, .ref b3, .ref b4, .ref b5, .ref b6, .int (zI (cn : Int))])), (b0, .inl (kI, 17, .inl (aZ FI_))), (b1, .inl (kI, 16, .inl (aZ CH_))), (b2, .inl (kI, 256, .inl (aZ SO))), (b3, .inl (kI, 256, .inl (aZ EO))), (b4, .inl (kI, 256, .inl (aZ RO))), (b5, .inl (kB, 256, .inl (aB DA))), (b6, .inl (kI, 256, .inl (aZ TW))), (a6, .inl (kI, 256, .inl (aZ NU))), (a7, .inl (kI, 256, .inl (aZ PG))), (a8, .inl (kI, 256, .inl (aZ HG))), (a9, .inl (kI, 8, .inl (aZ (uZ TO1 t pv))))] := wD
                        refine lv_iinc (v := zI ((t : Int) + 1)) (lv' := [(4, .int (zI ((t : Int) + 1))), (8, .int (zI pv)), (7, .int (bI nr)), (0, .ref o), (1, .int (zI (ro : Int))), (2, .int (zI (co : Int))), (3, .int (bI m8)), (5, .int (zI yy)), (6, .int (zI xx))]) xX xB dX1_joinsAt_107 wl (k := 6) rfl (zI_add _ _) (by decide) rfl (fun ls wl => ?_)
                        obtain ⟨v, hv1, hv2⟩ := (pnF_t (P := P) (m8 := m8) ro co (3 * dy + dx)).resolve_left (by rw [← hpv]; exact h74)
                        have hv3 : v ≤ 255 := by have := cD_128 (P := P) (m8 := m8); omega
                        rw [hpv, hv2] at h95 wP wD
                        exact J33 (t + 1) (uZ TO1 t (v : Int)) (hT.more hv1 hv2 (cb_f.mp h95) (fun e => by rw [e, pnF_4 hro hco hx0] at hv2; omega) hv3) _ _ _ wP wD wS (lv_sub wl [3, 4, 5, 6, 0, 7, 8] rfl)
                refine lv_iload xX xB dX1_joinsAt_52 (lv_at wl 0 rfl) ?_
                refine b_if_eq (tgt := 68) xX xB dX1_joinsAt_54 (by decide) (fun h54 => ?_) (fun h54 => ?_)
                · skip
                  refine z_iconst xX xB dX1_joinsAt_68 ?_
                  exact J22 (-1) (by unfold pnF; rw [jd (by omega), jm (by omega), if_neg (by rw [← hnr, h54]; decide)]) _ _ _ wP wD wS (lv_sub wl [0, 1, 2, 3, 4, 5, 6, 7] rfl)
                · skip
                  refine lv_aload_n xX xB dX1_joinsAt_57 rfl (lv_at wl 1 rfl) ?_
                  refine lv_iload xX xB dX1_joinsAt_58 (lv_at wl 6 rfl) ?_
                  refine lv_iload xX xB dX1_joinsAt_60 (lv_at wl 7 rfl) ?_
                  refine g_pure (va_runV (As := [.int (zI yy), .int (zI xx)]) (rest := []) ⟨xX, xB, xM, xO, xT⟩ (c_X1_partAt l D kI kB o h a0 a1 a2 a3 a4 a5 a6 a7 a8 a9 pc hc lc b0 b1 b2 b3 b4 b5 b6 cn FI_ CH_ SO EO RO DA TW NU PG HG P m8 yy xx hO hN (by omega) (by omega)) (cwV 2 xT gX1_joinsAt_X1_partAt rfl rfl rfl hd_X1_partAt ⟨Nat.le_of_ble_eq_true rfl, Nat.le_of_ble_eq_true rfl⟩) (g_preV (ci := 1) (q0 := 0) wP wD wK [0, 1, 2, 3, 4, 5, 6, 7, 8, 9, 10, 11] (by decide) rfl rfl rfl) rfl rfl wl.1 rfl (lv_room (Nat.le_of_ble_eq_true rfl)) dX1_joinsAt_62 ⟨Nat.le_of_ble_eq_true rfl, Nat.le_of_ble_eq_true rfl⟩) wP wS (fun H locs wP wS => ?_)
                  refine lv_goto (tgt := 69) xX xB dX1_joinsAt_65 (by decide) ?_
                  exact J22 (numA P m8 yy xx true) (by unfold pnF; rw [jd (by omega), jm (by omega), if_pos (by rw [← hnr]; exact h54), hyy, hxx]) _ _ _ wP wD wS (lv_sub wl [0, 1, 2, 3, 4, 5, 6, 7] rfl)
              refine lv_iload_n xX xB dX1_joinsAt_29 rfl (lv_at wl 3 rfl) ?_
              refine b_if_ne (tgt := 45) xX xB dX1_joinsAt_30 (by decide) (fun h30 => ?_) (fun h30 => ?_)
              · skip
                refine z_iconst xX xB dX1_joinsAt_45 ?_
                refine lv_goto (tgt := 50) xX xB dX1_joinsAt_46 (by decide) ?_
                refine lv_ri (y := bI true) rfl ?_
                exact J11 true (by rw [h30]; rfl) _ _ _ wP wD wS (lv_sub wl [0, 1, 2, 3, 4, 5, 6] rfl)
              · skip
                refine lv_iload xX xB dX1_joinsAt_33 (lv_at wl 5 rfl) ?_
                refine lv_iload_n xX xB dX1_joinsAt_35 rfl (lv_at wl 1 rfl) ?_
                refine z_icmp_eq (tgt := 45) xX xB dX1_joinsAt_36 (by decide) (by omega) (by omega) (fun h36 => ?_) (fun h36 => ?_)
                · skip
                  refine z_iconst xX xB dX1_joinsAt_45 ?_
                  refine lv_goto (tgt := 50) xX xB dX1_joinsAt_46 (by decide) ?_
                  refine lv_ri (y := bI true) rfl ?_
                  exact J11 true (by rw [h30, decide_eq_true (show dy = 1 by omega)]; rfl) _ _ _ wP wD wS (lv_sub wl [0, 1, 2, 3, 4, 5, 6] rfl)
                · skip
                  refine lv_iload xX xB dX1_joinsAt_39 (lv_at wl 6 rfl) ?_
                  refine lv_iload_n xX xB dX1_joinsAt_41 rfl (lv_at wl 2 rfl) ?_
                  refine t_icmp_ne xX xB dX1_joinsAt_42 dX1_joinsAt_45 dX1_joinsAt_46 dX1_joinsAt_49 (by omega) (by omega) ?_
                  exact J11 (decide (xx = (co : Int))) (by rw [h30, decide_eq_false (show ¬ dy = 1 by omega), Bool.false_or, Bool.false_or]; exact decide_eq_decide.mpr (by omega)) _ _ _ wP wD wS (lv_sub wl [0, 1, 2, 3, 4, 5, 6] rfl)
        exact M _ ((co : Int) - 1) 0 t TO1 (Nat.lt_succ_self _) (by omega) (by omega) hT _ _ _ wP wD wS (lv_sub wl [1, 2, 3, 4, 5, 6, 0] rfl)
  exact K _ ((ro : Int) - 1) 0 0 TO (Nat.lt_succ_self _) (by omega) (by omega) (TcI.z _ _ _) _ _ _ wP wD wS (lv_sub wl [2, 3, 4, 5, 1, 0] rfl)

set_option maxHeartbeats 4000000 in
set_option maxRecDepth 100000 in
theorem c_X1_flipDotsOf (l : Launch) (D : va_G) (kI kB : ClassId) (o : Nat) (h : Nat) (a0 : Nat) (a1 : Nat) (a2 : Nat) (a3 : Nat) (a4 : Nat) (a5 : Nat) (a6 : Nat) (a7 : Nat) (a8 : Nat) (a9 : Nat) (pc : Nat) (hc : Nat) (lc : Nat) (b0 : Nat) (b1 : Nat) (b2 : Nat) (b3 : Nat) (b4 : Nat) (b5 : Nat) (b6 : Nat) (cn : Nat) (FI_ : Nat → Int) (CH_ : Nat → Int) (SO : Nat → Int) (EO : Nat → Int) (RO : Nat → Int) (DA : Nat → Bool) (TW : Nat → Int) (pp : Nat) (q1 : Nat) (q2 : Nat) (F : Nat → Int) (jb : Int) (P : Nat → Nat) (m8 : Bool) (R : Nat) (hF : Pic F P) (hO : RunsOK P m8 FI_ CH_ SO EO RO DA TW) (hR : R < 256) (hh : rp P m8 R = R) : gV l yX1_flipDotsOf wsX1_flipDotsOf ({ frames := 2, cells := 0, slots := 0, locals := 44 } : Room) D kI kB [.ref o, .int (zI ((rix P R : Nat) : Int)), .ref pp] [(o, .inr (1, [.ref h, .ref a0, .ref a1, .ref a2, .ref a3, .ref a4, .ref a5, .ref a6, .ref a7, .ref a8, .ref a9, .int (zI (pc : Int)), .int (zI (hc : Int)), .int (zI (lc : Int))])), (h, .inr (4, [.ref b0, .ref b1, .ref b2, .ref b3, .ref b4, .ref b5, .ref b6, .int (zI ((sR P 256 : Nat) : Int))])), (b2, .inl (kI, 256, .inl (aZ SO))), (b3, .inl (kI, 256, .inl (aZ EO))), (b4, .inl (kI, 256, .inl (aZ RO))), (b6, .inl (kI, 256, .inl (aZ TW))), (pp, .inr (3, [.ref q1, .ref q2, .int (zI jb)])), (q1, .inl (kI, 16, .inl (aZ F)))] (fun (w_ : (Nat → Int) × (Nat → Nat)) => [(o, .inr (1, [.ref h, .ref a0, .ref a1, .ref a2, .ref a3, .ref a4, .ref a5, .ref a6, .ref a7, .ref a8, .ref a9, .int (zI (pc : Int)), .int (zI (hc : Int)), .int (zI (lc : Int))])), (h, .inr (4, [.ref b0, .ref b1, .ref b2, .ref b3, .ref b4, .ref b5, .ref b6, .int (zI ((sR P 256 : Nat) : Int))])), (b2, .inl (kI, 256, .inl (aZ SO))), (b3, .inl (kI, 256, .inl (aZ EO))), (b4, .inl (kI, 256, .inl (aZ RO))), (b6, .inl (kI, 256, .inl (aZ TW))), (pp, .inr (3, [.ref q1, .ref q2, .int (zI jb)])), (q1, .inl (kI, 16, .inl (aZ (w_.1))))]) (fun (w_ : (Nat → Int) × (Nat → Nat)) => Pic (w_.1) (w_.2) ∧ (∀ x, x < 256 → dk (w_.2) x = (dk P x ^^ cb (rp P m8 x = R)))) := by
  refine g_start (cc := cX1_flipDotsOf) (maxL := 4) (ret := none) (by decide) rfl (Nat.le_of_ble_eq_true rfl) ?_
  intro xp xe xs xm xbl xmt xc xX xB xR xM xT xO xL xN wP wD wK ls wl
  have wS : va_S (gA [(o, .inr (1, [.ref h, .ref a0, .ref a1, .ref a2, .ref a3, .ref a4, .ref a5, .ref a6, .ref a7, .ref a8, .ref a9, .int (zI (pc : Int)), .int (zI (hc : Int)), .int (zI (lc : Int))])), (h, .inr (4, [.ref b0, .ref b1, .ref b2, .ref b3, .ref b4, .ref b5, .ref b6, .int (zI ((sR P 256 : Nat) : Int))])), (b2, .inl (kI, 256, .inl (aZ SO))), (b3, .inl (kI, 256, .inl (aZ EO))), (b4, .inl (kI, 256, .inl (aZ RO))), (b6, .inl (kI, 256, .inl (aZ TW))), (pp, .inr (3, [.ref q1, .ref q2, .int (zI jb)])), (q1, .inl (kI, 16, .inl (aZ F)))]) xs.heap xs.heap [] := va_S.rf
  have wl : lv_has ls 4 [(0, .ref o), (1, .int (zI ((rix P R : Nat) : Int))), (2, .ref pp)] := wl
  generalize hQ : MQ xbl _ _ xs 0 0 _ = xQ
  have q256 := sR_le (P := P) 256
  refine z_iconst xX xB dX1_flipDotsOf_0 ?_
  refine lv_istore_n (lv' := [(3, .int (zI 0)), (0, .ref o), (1, .int (zI ((rix P R : Nat) : Int))), (2, .ref pp)]) xX xB dX1_flipDotsOf_1 rfl wl (by decide) rfl (fun ls wl => ?_)
  have K : ∀ n_ : Nat, ∀ (i : Nat) (F1 : Nat → Int) (T1 : Nat → Nat), sR P 256 - i < n_ → (i ≤ sR P 256) → (Pic F1 T1) → (FlI P T1 (fun x => cb (rp P m8 x = R)) (pls P i)) → ∀ (H : Heap) (locs : List Loc) (ls : Array Slot), va_P D gC [(o, .inr (1, [.ref h, .ref a0, .ref a1, .ref a2, .ref a3, .ref a4, .ref a5, .ref a6, .ref a7, .ref a8, .ref a9, .int (zI (pc : Int)), .int (zI (hc : Int)), .int (zI (lc : Int))])), (h, .inr (4, [.ref b0, .ref b1, .ref b2, .ref b3, .ref b4, .ref b5, .ref b6, .int (zI ((sR P 256 : Nat) : Int))])), (b2, .inl (kI, 256, .inl (aZ SO))), (b3, .inl (kI, 256, .inl (aZ EO))), (b4, .inl (kI, 256, .inl (aZ RO))), (b6, .inl (kI, 256, .inl (aZ TW))), (pp, .inr (3, [.ref q1, .ref q2, .int (zI jb)])), (q1, .inl (kI, 16, .inl (aZ F1)))] H → va_D (gA [(o, .inr (1, [.ref h, .ref a0, .ref a1, .ref a2, .ref a3, .ref a4, .ref a5, .ref a6, .ref a7, .ref a8, .ref a9, .int (zI (pc : Int)), .int (zI (hc : Int)), .int (zI (lc : Int))])), (h, .inr (4, [.ref b0, .ref b1, .ref b2, .ref b3, .ref b4, .ref b5, .ref b6, .int (zI ((sR P 256 : Nat) : Int))])), (b2, .inl (kI, 256, .inl (aZ SO))), (b3, .inl (kI, 256, .inl (aZ EO))), (b4, .inl (kI, 256, .inl (aZ RO))), (b6, .inl (kI, 256, .inl (aZ TW))), (pp, .inr (3, [.ref q1, .ref q2, .int (zI jb)])), (q1, .inl (kI, 16, .inl (aZ F)))]) [(o, .inr (1, [.ref h, .ref a0, .ref a1, .ref a2, .ref a3, .ref a4, .ref a5, .ref a6, .ref a7, .ref a8, .ref a9, .int (zI (pc : Int)), .int (zI (hc : Int)), .int (zI (lc : Int))])), (h, .inr (4, [.ref b0, .ref b1, .ref b2, .ref b3, .ref b4, .ref b5, .ref b6, .int (zI ((sR P 256 : Nat) : Int))])), (b2, .inl (kI, 256, .inl (aZ SO))), (b3, .inl (kI, 256, .inl (aZ EO))), (b4, .inl (kI, 256, .inl (aZ RO))), (b6, .inl (kI, 256, .inl (aZ TW))), (pp, .inr (3, [.ref q1, .ref q2, .int (zI jb)])), (q1, .inl (kI, 16, .inl (aZ F1)))] → va_S (gA [(o, .inr (1, [.ref h, .ref a0, .ref a1, .ref a2, .ref a3, .ref a4, .ref a5, .ref a6, .ref a7, .ref a8, .ref a9, .int (zI (pc : Int)), .int (zI (hc : Int)), .int (zI (lc : Int))])), (h, .inr (4, [.ref b0, .ref b1, .ref b2, .ref b3, .ref b4, .ref b5, .ref b6, .int (zI ((sR P 256 : Nat) : Int))])), (b2, .inl (kI, 256, .inl (aZ SO))), (b3, .inl (kI, 256, .inl (aZ EO))), (b4, .inl (kI, 256, .inl (aZ RO))), (b6, .inl (kI, 256, .inl (aZ TW))), (pp, .inr (3, [.ref q1, .ref q2, .int (zI jb)])), (q1, .inl (kI, 16, .inl (aZ F)))]) xs.heap H locs → lv_has ls 4 [(0, .ref o), (1, .int (zI ((rix P R : Nat) : Int))), (2, .ref pp), (3, .int (zI (i : Int)))] → W xp l xe ({ frames := 2, cells := 0, slots := 0, locals := 44 } : Room) xs xm (List.toArray [.ref o, .int (zI ((rix P R : Nat) : Int)), .ref pp]) xbl xmt xc H locs 0 0 xQ (F0 xm 2 ls []) := by
    intro n_
    induction n_ with
    | zero =>
      intro i F1 T1 hme
      exact absurd hme (Nat.not_lt_zero _)
    | succ n_ ihK =>
      intro i F1 T1 hme hi hF1 hI H locs ls wP wD wS wl
      refine lv_iload_n xX xB dX1_flipDotsOf_2 rfl (lv_at wl 3 rfl) ?_
      refine lv_aload_n xX xB dX1_flipDotsOf_3 rfl (lv_at wl 0 rfl) ?_
      refine va_get (D := D) (ci := 1) (v := .ref h) (C := RX1) (T := TX1) (N := 14) xX xB xT in_X1_flipDotsOf_X1 xO wK.1 wP 0 rfl rfl 0 (by decide) (xT _ (List.mem_of_getElem? (i := 1) rfl)) (fun _ h9 => h9) rfl dX1_flipDotsOf_4 ?_
      refine va_getN (D := D) (ci := 4) (v := .int (zI ((sR P 256 : Nat) : Int))) (C := RX4) (T := TX4) (N := 8) xX xB xT in_X1_flipDotsOf_X4 xO wK.1 wP 1 rfl rfl 7 (by decide) (va_Nw.use rfl (wK.2 _ (List.mem_of_getElem? (i := 10) rfl))) (fun _ h9 => h9) rfl dX1_flipDotsOf_7 ?_
      refine z_icmp_ge (tgt := 51) xX xB dX1_flipDotsOf_10 (by decide) (by omega) (by omega) (fun h10 => ?_) (fun h10 => ?_)
      · skip
        subst hQ
        exact g_vret (F1, T1) xX xB xR xL wP wS dX1_flipDotsOf_51 ⟨hF1, by rw [show i = sR P 256 by omega, pls_end] at hI; exact hI.end⟩
      · skip
        have hir : i < sR P 256 := by omega
        have hsp := (spl_spec hir).1
        have hse := epl_ge hir
        have hrw := run_row hir
        refine lv_aload_n xX xB dX1_flipDotsOf_13 rfl (lv_at wl 0 rfl) ?_
        refine va_get (D := D) (ci := 1) (v := .ref h) (C := RX1) (T := TX1) (N := 14) xX xB xT in_X1_flipDotsOf_X1 xO wK.1 wP 0 rfl rfl 0 (by decide) (xT _ (List.mem_of_getElem? (i := 1) rfl)) (fun _ h9 => h9) rfl dX1_flipDotsOf_14 ?_
        refine lv_iload_n xX xB dX1_flipDotsOf_17 rfl (lv_at wl 3 rfl) ?_
        refine g_pure (va_runV (As := [.int (zI (i : Int))]) (rest := []) ⟨xX, xB, xM, xO, xT⟩ (c_X4_groupOf l D kI kB h b0 b1 b2 b3 b4 b5 b6 (sR P 256) TW i (by omega)) (cwV 1 xT gX1_flipDotsOf_X4_groupOf rfl rfl rfl hd_X4_groupOf ⟨Nat.le_of_ble_eq_true rfl, Nat.le_of_ble_eq_true rfl⟩) (g_preV (ci := 4) (q0 := 1) wP wD wK [1, 5] (by decide) rfl rfl rfl) rfl rfl wl.1 rfl (lv_room (Nat.le_of_ble_eq_true rfl)) dX1_flipDotsOf_18 ⟨Nat.le_of_ble_eq_true rfl, Nat.le_of_ble_eq_true rfl⟩) wP wS (fun H locs wP wS => ?_)
        refine lv_ri (y := zI ((rix P (rp P m8 (spl P i)) : Nat) : Int)) (congrArg zI (hO.2.1 i hir)) ?_
        refine lv_iload_n xX xB dX1_flipDotsOf_21 rfl (lv_at wl 1 rfl) ?_
        refine z_icmp_ne (tgt := 45) xX xB dX1_flipDotsOf_22 (by decide) (by have := rix_256 (P := P) (rp_lt (P := P) (m8 := m8) hsp); omega) (by have := rix_256 (P := P) hR; omega) (fun h22 => ?_) (fun h22 => ?_)
        · skip
          refine lv_iinc (v := zI ((i : Int) + 1)) (lv' := [(3, .int (zI ((i : Int) + 1))), (0, .ref o), (1, .int (zI ((rix P R : Nat) : Int))), (2, .ref pp)]) xX xB dX1_flipDotsOf_45 wl (k := 3) rfl (zI_add _ _) (by decide) rfl (fun ls wl => ?_)
          refine lv_goto (tgt := 2) xX xB dX1_flipDotsOf_48 (by decide) ?_
          exact ihK (i + 1) F1 T1 (by omega) (by omega) hF1 (by rw [pls_succ (by omega)]; rw [pls_lt (by omega)] at hI; exact hI.run_no (by omega) (fun z => h22 (by rw [z]))) _ _ _ wP wD wS (lv_sub wl [1, 2, 3, 0] rfl)
        · skip
          have hfr : rp P m8 (spl P i) = R := head_inj (rp_lt hsp) hR (rp_rp _) hh (by omega)
          refine lv_aload_n xX xB dX1_flipDotsOf_25 rfl (lv_at wl 2 rfl) ?_
          refine lv_aload_n xX xB dX1_flipDotsOf_26 rfl (lv_at wl 0 rfl) ?_
          refine va_get (D := D) (ci := 1) (v := .ref h) (C := RX1) (T := TX1) (N := 14) xX xB xT in_X1_flipDotsOf_X1 xO wK.1 wP 0 rfl rfl 0 (by decide) (xT _ (List.mem_of_getElem? (i := 1) rfl)) (fun _ h9 => h9) rfl dX1_flipDotsOf_27 ?_
          refine lv_iload_n xX xB dX1_flipDotsOf_30 rfl (lv_at wl 3 rfl) ?_
          refine g_pure (va_runV (As := [.int (zI (i : Int))]) (rest := [.ref pp]) ⟨xX, xB, xM, xO, xT⟩ (c_X4_lineOf l D kI kB h b0 b1 b2 b3 b4 b5 b6 (sR P 256) RO i (by omega)) (cwV 1 xT gX1_flipDotsOf_X4_lineOf rfl rfl rfl hd_X4_lineOf ⟨Nat.le_of_ble_eq_true rfl, Nat.le_of_ble_eq_true rfl⟩) (g_preV (ci := 4) (q0 := 1) wP wD wK [1, 4] (by decide) rfl rfl rfl) rfl rfl wl.1 rfl (lv_room (Nat.le_of_ble_eq_true rfl)) dX1_flipDotsOf_31 ⟨Nat.le_of_ble_eq_true rfl, Nat.le_of_ble_eq_true rfl⟩) wP wS (fun H locs wP wS => ?_)
          refine lv_ri (y := zI ((spl P i / 16 : Nat) : Int)) (congrArg zI (hO.1 i hir).2.2.1) ?_
          refine lv_aload_n xX xB dX1_flipDotsOf_34 rfl (lv_at wl 0 rfl) ?_
          refine va_get (D := D) (ci := 1) (v := .ref h) (C := RX1) (T := TX1) (N := 14) xX xB xT in_X1_flipDotsOf_X1 xO wK.1 wP 0 rfl rfl 0 (by decide) (xT _ (List.mem_of_getElem? (i := 1) rfl)) (fun _ h9 => h9) rfl dX1_flipDotsOf_35 ?_
          refine lv_iload_n xX xB dX1_flipDotsOf_38 rfl (lv_at wl 3 rfl) ?_
          refine g_pure (va_runV (As := [.int (zI (i : Int))]) (rest := [.int (zI ((spl P i / 16 : Nat) : Int)), .ref pp]) ⟨xX, xB, xM, xO, xT⟩ (c_X4_columns l D kI kB h b0 b1 b2 b3 b4 b5 b6 (sR P 256) SO EO i (spl P i % 16) (epl P i % 16) (by omega) (hO.1 i hir).1 (hO.1 i hir).2.1 (by omega) (by omega)) (cwV 1 xT gX1_flipDotsOf_X4_columns rfl rfl rfl hd_X4_columns ⟨Nat.le_of_ble_eq_true rfl, Nat.le_of_ble_eq_true rfl⟩) (g_preV (ci := 4) (q0 := 1) wP wD wK [1, 2, 3] (by decide) rfl rfl rfl) rfl rfl wl.1 rfl (lv_room (Nat.le_of_ble_eq_true rfl)) dX1_flipDotsOf_39 ⟨Nat.le_of_ble_eq_true rfl, Nat.le_of_ble_eq_true rfl⟩) wP wS (fun H locs wP wS => ?_)
          refine g_modv (va_runV (As := [.int (zI ((spl P i / 16 : Nat) : Int)), .int (zI ((colN (spl P i % 16) (epl P i % 16) : Nat) : Int))]) (rest := []) ⟨xX, xB, xM, xO, xT⟩ (c_X3_flip l D kI kB pp q1 q2 F1 jb T1 (spl P i / 16) (colN (spl P i % 16) (epl P i % 16)) hF1 (by omega) (col_lt (by omega) (by omega))) (cwV 2 xT gX1_flipDotsOf_X3_flip rfl rfl rfl hd_X3_flip ⟨Nat.le_of_ble_eq_true rfl, Nat.le_of_ble_eq_true rfl⟩) (g_preV (ci := 3) (q0 := 6) wP wD wK [6, 7] (by decide) rfl rfl rfl) rfl rfl wl.1 rfl (lv_room (Nat.le_of_ble_eq_true rfl)) dX1_flipDotsOf_42 ⟨Nat.le_of_ble_eq_true rfl, Nat.le_of_ble_eq_true rfl⟩) wP wD wS [6, 7] rfl (fun _ => rfl) (fun u_ H locs hc42 wP wD wS => ?_)
          try dsimp only at hc42
          have wP : va_P D gC [(o, .inr (1, [.ref h, .ref a0, .ref a1, .ref a2, .ref a3, .ref a4, .ref a5, .ref a6, .ref a7, .ref a8, .ref a9, .int (zI (pc : Int)), .int (zI (hc : Int)), .int (zI (lc : Int))])), (h, .inr (4, [.ref b0, .ref b1, .ref b2, .ref b3, .ref b4, .ref b5, .ref b6, .int (zI ((sR P 256 : Nat) : Int))])), (b2, .inl (kI, 256, .inl (aZ SO))), (b3, .inl (kI, 256, .inl (aZ EO))), (b4, .inl (kI, 256, .inl (aZ RO))), (b6, .inl (kI, 256, .inl (aZ TW))), (pp, .inr (3, [.ref q1, .ref q2, .int (zI jb)])), (q1, .inl (kI, 16, .inl (aZ (uZ F1 (spl P i / 16) ((T1 (spl P i / 16) ^^^ (colN (spl P i % 16) (epl P i % 16)) : Nat) : Int)))))] H := wP
          have wD : va_D (gA [(o, .inr (1, [.ref h, .ref a0, .ref a1, .ref a2, .ref a3, .ref a4, .ref a5, .ref a6, .ref a7, .ref a8, .ref a9, .int (zI (pc : Int)), .int (zI (hc : Int)), .int (zI (lc : Int))])), (h, .inr (4, [.ref b0, .ref b1, .ref b2, .ref b3, .ref b4, .ref b5, .ref b6, .int (zI ((sR P 256 : Nat) : Int))])), (b2, .inl (kI, 256, .inl (aZ SO))), (b3, .inl (kI, 256, .inl (aZ EO))), (b4, .inl (kI, 256, .inl (aZ RO))), (b6, .inl (kI, 256, .inl (aZ TW))), (pp, .inr (3, [.ref q1, .ref q2, .int (zI jb)])), (q1, .inl (kI, 16, .inl (aZ F)))]) [(o, .inr (1, [.ref h, .ref a0, .ref a1, .ref a2, .ref a3, .ref a4, .ref a5, .ref a6, .ref a7, .ref a8, .ref a9, .int (zI (pc : Int)), .int (zI (hc : Int)), .int (zI (lc : Int))])), (h, .inr (4, [.ref b0, .ref b1, .ref b2, .ref b3, .ref b4, .ref b5, .ref b6, .int (zI ((sR P 256 : Nat) : Int))])), (b2, .inl (kI, 256, .inl (aZ SO))), (b3, .inl (kI, 256, .inl (aZ EO))), (b4, .inl (kI, 256, .inl (aZ RO))), (b6, .inl (kI, 256, .inl (aZ TW))), (pp, .inr (3, [.ref q1, .ref q2, .int (zI jb)])), (q1, .inl (kI, 16, .inl (aZ (uZ F1 (spl P i / 16) ((T1 (spl P i / 16) ^^^ (colN (spl P i % 16) (epl P i % 16)) : Nat) : Int)))))] := wD
          refine lv_iinc (v := zI ((i : Int) + 1)) (lv' := [(3, .int (zI ((i : Int) + 1))), (0, .ref o), (1, .int (zI ((rix P R : Nat) : Int))), (2, .ref pp)]) xX xB dX1_flipDotsOf_45 wl (k := 3) rfl (zI_add _ _) (by decide) rfl (fun ls wl => ?_)
          refine lv_goto (tgt := 2) xX xB dX1_flipDotsOf_48 (by decide) ?_
          exact ihK (i + 1) (uZ F1 (spl P i / 16) ((T1 (spl P i / 16) ^^^ (colN (spl P i % 16) (epl P i % 16)) : Nat) : Int)) (uN T1 (spl P i / 16) (T1 (spl P i / 16) ^^^ colN (spl P i % 16) (epl P i % 16))) (by omega) (by omega) (hF1.put _ (xor_le (hF1 _ (by omega)).2 (col_lt (by omega) (by omega)))) (by rw [pls_succ (by omega)]; rw [pls_lt (by omega)] at hI; exact hI.run_yes (by omega) hfr) _ _ _ wP wD wS (lv_sub wl [1, 2, 3, 0] rfl)
  exact K _ 0 F P (Nat.lt_succ_self _) (by omega) hF (by rw [pls_0]; exact FlI.z _ _) _ _ _ wP wD wS (lv_sub wl [1, 2, 3, 0] rfl)

set_option maxHeartbeats 4000000 in
set_option maxRecDepth 100000 in
theorem c_X1_nextOfGroup (l : Launch) (D : va_G) (kI kB : ClassId) (o : Nat) (h : Nat) (a0 : Nat) (a1 : Nat) (a2 : Nat) (a3 : Nat) (a4 : Nat) (a5 : Nat) (a6 : Nat) (a7 : Nat) (a8 : Nat) (a9 : Nat) (pc : Nat) (hc : Nat) (lc : Nat) (b0 : Nat) (b1 : Nat) (b2 : Nat) (b3 : Nat) (b4 : Nat) (b5 : Nat) (b6 : Nat) (cn : Nat) (TW : Nat → Int) (i : Nat) (g : Nat) (hi : i < cn) (hn : cn ≤ 256) (hg : g < 256) (hTb : ∀ j, j < cn → -2147483648 ≤ TW j ∧ TW j ≤ 2147483647) : gI l yX1_nextOfGroup wsX1_nextOfGroup ({ frames := 1, cells := 0, slots := 0, locals := 21 } : Room) D kI kB [.ref o, .int (zI (i : Int)), .int (zI (g : Int))] [(o, .inr (1, [.ref h, .ref a0, .ref a1, .ref a2, .ref a3, .ref a4, .ref a5, .ref a6, .ref a7, .ref a8, .ref a9, .int (zI (pc : Int)), .int (zI (hc : Int)), .int (zI (lc : Int))])), (h, .inr (4, [.ref b0, .ref b1, .ref b2, .ref b3, .ref b4, .ref b5, .ref b6, .int (zI (cn : Int))])), (b6, .inl (kI, 256, .inl (aZ TW)))] (zI ((nxG TW cn g (i + 1) : Nat) : Int)) := by
  refine g_start (cc := cX1_nextOfGroup) (maxL := 4) (ret := (some .int)) (by decide) rfl (Nat.le_of_ble_eq_true rfl) ?_
  intro xp xe xs xm xbl xmt xc xX xB xR xM xT xO xL xN wP wD wK ls wl
  have wS : va_S (fun _ => False) xs.heap xs.heap [] := va_S.rf
  have wl : lv_has ls 4 [(0, .ref o), (1, .int (zI (i : Int))), (2, .int (zI (g : Int)))] := wl
  generalize hQ : MQ xbl _ _ xs 0 0 _ = xQ
  refine lv_iload_n xX xB dX1_nextOfGroup_0 rfl (lv_at wl 1 rfl) ?_
  refine z_iconst xX xB dX1_nextOfGroup_1 ?_
  refine z_iadd xX xB dX1_nextOfGroup_2 ?_
  refine lv_istore_n (lv' := [(3, .int (zI ((i : Int) + 1))), (0, .ref o), (1, .int (zI (i : Int))), (2, .int (zI (g : Int)))]) xX xB dX1_nextOfGroup_3 rfl wl (by decide) rfl (fun ls wl => ?_)
  have K : ∀ n_ : Nat, ∀ (k : Nat), cn - k < n_ → (k ≤ cn) → (nxG TW cn g k = nxG TW cn g (i + 1)) → ∀ (H : Heap) (locs : List Loc) (ls : Array Slot), va_P D gC [(o, .inr (1, [.ref h, .ref a0, .ref a1, .ref a2, .ref a3, .ref a4, .ref a5, .ref a6, .ref a7, .ref a8, .ref a9, .int (zI (pc : Int)), .int (zI (hc : Int)), .int (zI (lc : Int))])), (h, .inr (4, [.ref b0, .ref b1, .ref b2, .ref b3, .ref b4, .ref b5, .ref b6, .int (zI (cn : Int))])), (b6, .inl (kI, 256, .inl (aZ TW)))] H → va_S (fun _ => False) xs.heap H locs → lv_has ls 4 [(0, .ref o), (1, .int (zI (i : Int))), (2, .int (zI (g : Int))), (3, .int (zI (k : Int)))] → W xp l xe ({ frames := 1, cells := 0, slots := 0, locals := 21 } : Room) xs xm (List.toArray [.ref o, .int (zI (i : Int)), .int (zI (g : Int))]) xbl xmt xc H locs 0 0 xQ (F0 xm 4 ls []) := by
    intro n_
    induction n_ with
    | zero =>
      intro k hme
      exact absurd hme (Nat.not_lt_zero _)
    | succ n_ ihK =>
      intro k hme hk hx H locs ls wP wS wl
      refine lv_iload_n xX xB dX1_nextOfGroup_4 rfl (lv_at wl 3 rfl) ?_
      refine lv_aload_n xX xB dX1_nextOfGroup_5 rfl (lv_at wl 0 rfl) ?_
      refine va_get (D := D) (ci := 1) (v := .ref h) (C := RX1) (T := TX1) (N := 14) xX xB xT in_X1_nextOfGroup_X1 xO wK.1 wP 0 rfl rfl 0 (by decide) (xT _ (List.mem_of_getElem? (i := 1) rfl)) (fun _ h9 => h9) rfl dX1_nextOfGroup_6 ?_
      refine va_getN (D := D) (ci := 4) (v := .int (zI (cn : Int))) (C := RX4) (T := TX4) (N := 8) xX xB xT in_X1_nextOfGroup_X4 xO wK.1 wP 1 rfl rfl 7 (by decide) (va_Nw.use rfl (wK.2 _ (List.mem_of_getElem? (i := 10) rfl))) (fun _ h9 => h9) rfl dX1_nextOfGroup_9 ?_
      refine z_icmp_ge (tgt := 33) xX xB dX1_nextOfGroup_12 (by decide) (by omega) (by omega) (fun h12 => ?_) (fun h12 => ?_)
      · skip
        refine lv_iload_n xX xB dX1_nextOfGroup_33 rfl (lv_at wl 3 rfl) ?_
        subst hQ
        exact g_iret xX xB xR xL wS dX1_nextOfGroup_34 (congrArg (fun z : Nat => zI (z : Int)) (by rw [← hx]; exact nxG_end (by omega)))
      · skip
        refine lv_aload_n xX xB dX1_nextOfGroup_15 rfl (lv_at wl 0 rfl) ?_
        refine va_get (D := D) (ci := 1) (v := .ref h) (C := RX1) (T := TX1) (N := 14) xX xB xT in_X1_nextOfGroup_X1 xO wK.1 wP 0 rfl rfl 0 (by decide) (xT _ (List.mem_of_getElem? (i := 1) rfl)) (fun _ h9 => h9) rfl dX1_nextOfGroup_16 ?_
        refine lv_iload_n xX xB dX1_nextOfGroup_19 rfl (lv_at wl 3 rfl) ?_
        refine g_pure (va_runV (As := [.int (zI (k : Int))]) (rest := []) ⟨xX, xB, xM, xO, xT⟩ (c_X4_groupOf l D kI kB h b0 b1 b2 b3 b4 b5 b6 cn TW k (by omega)) (cwV 1 xT gX1_nextOfGroup_X4_groupOf rfl rfl rfl hd_X4_groupOf ⟨Nat.le_of_ble_eq_true rfl, Nat.le_of_ble_eq_true rfl⟩) (g_preV (ci := 4) (q0 := 1) wP wD wK [1, 2] (by decide) rfl rfl rfl) rfl rfl wl.1 rfl (lv_room (Nat.le_of_ble_eq_true rfl)) dX1_nextOfGroup_20 ⟨Nat.le_of_ble_eq_true rfl, Nat.le_of_ble_eq_true rfl⟩) wP wS (fun H locs wP wS => ?_)
        refine lv_iload_n xX xB dX1_nextOfGroup_23 rfl (lv_at wl 2 rfl) ?_
        refine z_icmp_eq (tgt := 33) xX xB dX1_nextOfGroup_24 (by decide) (hTb k (by omega)) (by omega) (fun h24 => ?_) (fun h24 => ?_)
        · skip
          refine lv_iload_n xX xB dX1_nextOfGroup_33 rfl (lv_at wl 3 rfl) ?_
          subst hQ
          exact g_iret xX xB xR xL wS dX1_nextOfGroup_34 (congrArg (fun z : Nat => zI (z : Int)) (by rw [← hx]; exact nxG_yes (by omega) h24))
        · skip
          refine lv_iinc (v := zI ((k : Int) + 1)) (lv' := [(3, .int (zI ((k : Int) + 1))), (0, .ref o), (1, .int (zI (i : Int))), (2, .int (zI (g : Int)))]) xX xB dX1_nextOfGroup_27 wl (k := 3) rfl (zI_add _ _) (by decide) rfl (fun ls wl => ?_)
          refine lv_goto (tgt := 4) xX xB dX1_nextOfGroup_30 (by decide) ?_
          exact ihK (k + 1) (by omega) (by omega) (by rw [← hx, nxG_no (by omega) h24]) _ _ _ wP wS (lv_sub wl [1, 2, 3, 0] rfl)
  exact K _ (i + 1) (Nat.lt_succ_self _) (by omega) rfl _ _ _ wP wS (lv_sub wl [1, 2, 3, 0] rfl)
