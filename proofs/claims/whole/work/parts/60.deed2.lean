/-! ===== growing and shrinking by bits; tops; switches by a list ===== -/
section D2
variable {P : Nat → Nat} {m8 : Bool}
theorem dots_ct (P : Nat → Nat) : dots P = fb_ct (dk P) 256 := by
  have key : ∀ n, n ≤ 16 → fb_sm (fun r => pop (P r)) n = fb_ct (dk P) (16 * n) := by
    intro n
    induction n with
    | zero => intro _; rfl
    | succ n ih =>
      intro hn
      rw [fb_sm_succ, ih (by omega), show 16 * (n + 1) = 16 * n + 16 by omega, fb_ct_split]
      congr 1
      refine fb_ct_cong (fun k hk => ?_)
      unfold dk
      rw [show (16 * n + k) / 16 = n by omega, show (16 * n + k) % 16 = k by omega]
  exact key 16 (Nat.le_refl _)
theorem nrT_dz (x : Nat) (dark : Bool) (k : Nat) : nrT P m8 x dark k = ((decide (¬ k = 4) && (m8 || decide (k % 2 = 1))) && (dz P ((x : Int) / 16 + (k : Int) / 3 - 1) ((x : Int) % 16 + (k : Int) % 3 - 1) ^^ dark)) := by
  unfold nrT
  congr 1
  by_cases q : ((0 ≤ (x : Int) / 16 + (k : Int) / 3 - 1 ∧ (x : Int) / 16 + (k : Int) / 3 - 1 ≤ 15) ∧ (0 ≤ (x : Int) % 16 + (k : Int) % 3 - 1 ∧ (x : Int) % 16 + (k : Int) % 3 - 1 ≤ 15))
  · rw [if_pos q, dz_in q]
    cases (P ((x : Int) / 16 + (k : Int) / 3 - 1).toNat).testBit ((x : Int) % 16 + (k : Int) % 3 - 1).toNat <;> cases dark <;> rfl
  · rw [if_neg q, dz_out q]
    cases dark <;> rfl
theorem nrT_at {r c : Nat} (hc : c < 16) (dark : Bool) (k : Nat) {y z : Int} (hy : (r : Int) + (k : Int) / 3 - 1 = y) (hz : (c : Int) + (k : Int) % 3 - 1 = z) : nrT P m8 (16 * r + c) dark k = ((decide (¬ k = 4) && (m8 || decide (k % 2 = 1))) && (dz P y z ^^ dark)) := by
  rw [nrT_dz, show (((16 * r + c : Nat) : Int)) / 16 = (r : Int) by omega, show (((16 * r + c : Nat) : Int)) % 16 = (c : Int) by omega, hy, hz]
theorem nr_all {r c : Nat} (hc : c < 16) (dark : Bool) : nrN P m8 (16 * r + c) dark 9 = ((m8 && (dz P ((r : Int) - 1) ((c : Int) - 1) ^^ dark)) || (dz P ((r : Int) - 1) (c : Int) ^^ dark) || (m8 && (dz P ((r : Int) - 1) ((c : Int) + 1) ^^ dark)) || (dz P (r : Int) ((c : Int) - 1) ^^ dark) || (dz P (r : Int) ((c : Int) + 1) ^^ dark) || (m8 && (dz P ((r : Int) + 1) ((c : Int) - 1) ^^ dark)) || (dz P ((r : Int) + 1) (c : Int) ^^ dark) || (m8 && (dz P ((r : Int) + 1) ((c : Int) + 1) ^^ dark))) := by
  have e0 := nrT_at (P := P) (m8 := m8) (r := r) hc dark 0 (y := (r : Int) - 1) (z := (c : Int) - 1) (by omega) (by omega)
  have e1 := nrT_at (P := P) (m8 := m8) (r := r) hc dark 1 (y := (r : Int) - 1) (z := (c : Int)) (by omega) (by omega)
  have e2 := nrT_at (P := P) (m8 := m8) (r := r) hc dark 2 (y := (r : Int) - 1) (z := (c : Int) + 1) (by omega) (by omega)
  have e3 := nrT_at (P := P) (m8 := m8) (r := r) hc dark 3 (y := (r : Int)) (z := (c : Int) - 1) (by omega) (by omega)
  have e4 := nrT_at (P := P) (m8 := m8) (r := r) hc dark 4 (y := (r : Int)) (z := (c : Int)) (by omega) (by omega)
  have e5 := nrT_at (P := P) (m8 := m8) (r := r) hc dark 5 (y := (r : Int)) (z := (c : Int) + 1) (by omega) (by omega)
  have e6 := nrT_at (P := P) (m8 := m8) (r := r) hc dark 6 (y := (r : Int) + 1) (z := (c : Int) - 1) (by omega) (by omega)
  have e7 := nrT_at (P := P) (m8 := m8) (r := r) hc dark 7 (y := (r : Int) + 1) (z := (c : Int)) (by omega) (by omega)
  have e8 := nrT_at (P := P) (m8 := m8) (r := r) hc dark 8 (y := (r : Int) + 1) (z := (c : Int) + 1) (by omega) (by omega)
  show (((((((((false || nrT P m8 _ dark 0) || nrT P m8 _ dark 1) || nrT P m8 _ dark 2) || nrT P m8 _ dark 3) || nrT P m8 _ dark 4) || nrT P m8 _ dark 5) || nrT P m8 _ dark 6) || nrT P m8 _ dark 7) || nrT P m8 _ dark 8) = _
  rw [e0, e1, e2, e3, e4, e5, e6, e7, e8]
  generalize dz P ((r : Int) - 1) ((c : Int) - 1) = b0
  generalize dz P ((r : Int) - 1) (c : Int) = b1
  generalize dz P ((r : Int) - 1) ((c : Int) + 1) = b2
  generalize dz P (r : Int) ((c : Int) - 1) = b3
  generalize dz P (r : Int) (c : Int) = b4
  generalize dz P (r : Int) ((c : Int) + 1) = b5
  generalize dz P ((r : Int) + 1) ((c : Int) - 1) = b6
  generalize dz P ((r : Int) + 1) (c : Int) = b7
  generalize dz P ((r : Int) + 1) ((c : Int) + 1) = b8
  cases m8 <;> cases dark <;> simp
theorem ln_L {z : Int} {c : Nat} (hc : c < 16) : (decide (1 ≤ c) && (lnN P z).testBit (c - 1)) = dz P z ((c : Int) - 1) := by
  by_cases q : 1 ≤ c
  · rw [decide_eq_true q, Bool.true_and, show ((c : Int) - 1) = ((c - 1 : Nat) : Int) by omega, dz_ln (by omega)]
  · rw [decide_eq_false q, Bool.false_and, dz_out (by omega)]
theorem ln_R {F : Nat → Int} (hF : Pic F P) {z : Int} {c : Nat} (hc : c < 16) : (lnN P z).testBit (c + 1) = dz P z ((c : Int) + 1) := by
  by_cases q : c + 1 < 16
  · rw [show ((c : Int) + 1) = ((c + 1 : Nat) : Int) by omega, dz_ln q]
  · rw [tb_hi (hF.lnlt z) (by omega), dz_out (by omega)]
theorem grN_tb {F : Nat → Int} (hF : Pic F P) {r c : Nat} (hr : r < 16) (hc : c < 16) : (grN P m8 r).testBit c = (dz P (r : Int) (c : Int) || nrN P m8 (16 * r + c) false 9) := by
  have hP : P r = lnN P (r : Int) := (lnN_nat P hr).symm
  rw [nr_all hc]
  unfold grN
  cases m8
  · simp only [Bool.false_eq_true, if_false, Nat.testBit_or, wid_tb _ hc]
    rw [hP, ln_L hc, ln_R hF hc, ← dz_ln hc, ← dz_ln hc, ← dz_ln hc]
    generalize dz P ((r : Int) - 1) (c : Int) = b1
    generalize dz P (r : Int) ((c : Int) - 1) = b3
    generalize dz P (r : Int) (c : Int) = b4
    generalize dz P (r : Int) ((c : Int) + 1) = b5
    generalize dz P ((r : Int) + 1) (c : Int) = b7
    cases b1 <;> cases b3 <;> cases b4 <;> cases b5 <;> cases b7 <;> rfl
  · simp only [if_true, Nat.testBit_or, wid_tb _ hc, Bool.and_or_distrib_left]
    rw [hP, ln_L hc, ln_L hc, ln_L hc, ln_R hF hc, ln_R hF hc, ln_R hF hc, ← dz_ln hc, ← dz_ln hc, ← dz_ln hc]
    generalize dz P ((r : Int) - 1) ((c : Int) - 1) = b0
    generalize dz P ((r : Int) - 1) (c : Int) = b1
    generalize dz P ((r : Int) - 1) ((c : Int) + 1) = b2
    generalize dz P (r : Int) ((c : Int) - 1) = b3
    generalize dz P (r : Int) (c : Int) = b4
    generalize dz P (r : Int) ((c : Int) + 1) = b5
    generalize dz P ((r : Int) + 1) ((c : Int) - 1) = b6
    generalize dz P ((r : Int) + 1) (c : Int) = b7
    generalize dz P ((r : Int) + 1) ((c : Int) + 1) = b8
    revert b0 b1 b2 b3 b4 b5 b6 b7 b8
    decide
theorem shN_tb {F : Nat → Int} (hF : Pic F P) {r c : Nat} (hr : r < 16) (hc : c < 16) : (shN P m8 r).testBit c = (dz P (r : Int) (c : Int) && !(nrN P m8 (16 * r + c) true 9)) := by
  have hP : P r = lnN P (r : Int) := (lnN_nat P hr).symm
  rw [nr_all hc]
  unfold shN
  cases m8
  · simp only [Bool.false_eq_true, if_false, Nat.testBit_and, nar_tb]
    rw [hP, ln_L hc, ln_R hF hc, ← dz_ln hc, ← dz_ln hc, ← dz_ln hc]
    generalize dz P ((r : Int) - 1) (c : Int) = b1
    generalize dz P (r : Int) ((c : Int) - 1) = b3
    generalize dz P (r : Int) (c : Int) = b4
    generalize dz P (r : Int) ((c : Int) + 1) = b5
    generalize dz P ((r : Int) + 1) (c : Int) = b7
    cases b1 <;> cases b3 <;> cases b4 <;> cases b5 <;> cases b7 <;> rfl
  · have e1 : ∀ a b d : Bool, ∀ q : Bool, (q && (a && (b && d))) = ((q && a) && ((q && b) && (q && d))) := by decide
    simp only [if_true, Nat.testBit_and, nar_tb]
    rw [e1 _ _ _ (decide (1 ≤ c)), hP, ln_L hc, ln_L hc, ln_L hc, ln_R hF hc, ln_R hF hc, ln_R hF hc, ← dz_ln hc, ← dz_ln hc, ← dz_ln hc]
    generalize dz P ((r : Int) - 1) ((c : Int) - 1) = b0
    generalize dz P ((r : Int) - 1) (c : Int) = b1
    generalize dz P ((r : Int) - 1) ((c : Int) + 1) = b2
    generalize dz P (r : Int) ((c : Int) - 1) = b3
    generalize dz P (r : Int) (c : Int) = b4
    generalize dz P (r : Int) ((c : Int) + 1) = b5
    generalize dz P ((r : Int) + 1) ((c : Int) - 1) = b6
    generalize dz P ((r : Int) + 1) (c : Int) = b7
    generalize dz P ((r : Int) + 1) ((c : Int) + 1) = b8
    revert b0 b1 b2 b3 b4 b5 b6 b7 b8
    decide
theorem gr_dk {F : Nat → Int} (hF : Pic F P) : ∀ x, x < 256 → dk (grN P m8) x = (dk P x ^^ (fun x => (dk P x == false) && nrN P m8 x false 9) x) := by
  intro x hx
  have e : 16 * (x / 16) + x % 16 = x := by omega
  have h1 := grN_tb (m8 := m8) hF (r := x / 16) (c := x % 16) (by omega) (by omega)
  rw [dz_nat (by omega) (by omega), e] at h1
  show (grN P m8 (x / 16)).testBit (x % 16) = _
  rw [h1]
  dsimp only
  cases dk P x <;> simp
theorem sh_dk {F : Nat → Int} (hF : Pic F P) : ∀ x, x < 256 → dk (shN P m8) x = (dk P x ^^ (fun x => (dk P x == true) && nrN P m8 x true 9) x) := by
  intro x hx
  have e : 16 * (x / 16) + x % 16 = x := by omega
  have h1 := shN_tb (m8 := m8) hF (r := x / 16) (c := x % 16) (by omega) (by omega)
  rw [dz_nat (by omega) (by omega), e] at h1
  show (shN P m8 (x / 16)).testBit (x % 16) = _
  rw [h1]
  dsimp only
  cases dk P x <;> simp
theorem gr_dots {F : Nat → Int} (hF : Pic F P) : dots (grN P m8) = dots P + fb_ct (fun x => (dk P x == false) && nrN P m8 x false 9) 256 := by
  rw [dots_ct, dots_ct, ← fb_ct_or (fun k _ h => by have a := h.1; have b := h.2; rw [a] at b; simp at b)]
  exact fb_ct_cong (fun k hk => by rw [gr_dk hF k hk]; dsimp only; cases dk P k <;> simp)
theorem sh_dots {F : Nat → Int} (hF : Pic F P) : dots P = dots (shN P m8) + fb_ct (fun x => (dk P x == true) && nrN P m8 x true 9) 256 := by
  rw [dots_ct, dots_ct, ← fb_ct_or (fun k hk h => by
    have a := h.1; have b := h.2; rw [sh_dk hF k hk] at a; dsimp only at a b; revert a b; cases dk P k <;> simp)]
  exact fb_ct_cong (fun k hk => by rw [sh_dk hF k hk]; dsimp only; cases dk P k <;> simp)
theorem dots_le (P : Nat → Nat) : dots P ≤ 256 := by rw [dots_ct]; exact fb_ct_le _ _
theorem ed_top {R : Nat} (hR : R < 256) (hh : rp P m8 R = R) : ∀ n, edN P m8 false false R n = if n ≤ R then 16 else (((R / 16 : Nat)) : Int)
  | 0 => by rw [if_pos (Nat.zero_le _)]; rfl
  | n + 1 => by
    have ih := ed_top hR hh n
    have hs := rp_self (P := P) (m8 := m8) n
    unfold edN
    simp only [Bool.false_eq_true, if_false]
    rw [ih]
    by_cases q : n < R
    · rw [if_pos (show n ≤ R by omega), if_pos (show n + 1 ≤ R by omega), cb_f.mpr (by omega), Bool.false_and, if_neg (by decide)]
    · by_cases e : n = R
      · subst e
        rw [if_pos (Nat.le_refl _), if_neg (show ¬ n + 1 ≤ n by omega), cb_t.mpr hh, decide_eq_true (by omega), Bool.true_and, if_pos rfl]
        omega
      · rw [if_neg (show ¬ n ≤ R by omega), if_neg (show ¬ n + 1 ≤ R by omega), decide_eq_false (by omega), Bool.and_false, if_neg (by decide)]
end D2
section D3
variable {p : Program} {l : Launch} {e : Env} {R : Room} {s : State} {m : MethodId} {args : Array Value} {below : List Frame} {meth : Method} {c : Code} {H : Heap} {locs : List Loc} {cells slots : Nat} {Q : State → Prop}
variable {cc : ByteArray} {pc : Nat} {ls : Array Slot} {rest : List Value}
theorem z_look {a dflt off : Int} {ps : Array (Int × Int)} {pl : List (Int × Int)} {len tgt : Nat} (hx : p.tables.exec = Jvm.exec) (hb : c.code = cc) (hdg : decode cc pc = .ok (.lookupswitch dflt ps, len)) (hps : ps.toList = pl) (hp : (ps.toList.zip (ps.toList.drop 1)).all (fun (a, next) => a.1 < next.1) = true) (ra : -2147483648 ≤ a ∧ a ≤ 2147483647) (ho : Op.lookupswitch.offset pl dflt a = off) (ht : (pc : Int) + off = (tgt : Int)) (k : W p l e R s m args below meth c H locs cells slots Q (F0 m tgt ls rest)) : W p l e R s m args below meth c H locs cells slots Q (F0 m pc ls (.int (zI a) :: rest)) :=
  lv_lookup hx hb hdg hp (by rw [zI_toInt ra, hps]; exact ho) ht k
end D3
