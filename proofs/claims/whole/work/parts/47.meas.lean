/-! ===== what is measured of a group, run by run ===== -/
section ME
variable {P : Nat → Nat} {m8 : Bool}
noncomputable def pls (P : Nat → Nat) (i : Nat) : Nat := if i < sR P 256 then spl P i else 256
theorem pls_lt {i : Nat} (h : i < sR P 256) : pls P i = spl P i := if_pos h
theorem pls_succ {i : Nat} (h : i < sR P 256) : pls P (i + 1) = epl P i + 1 := by
  unfold pls epl
  by_cases q : i + 1 < sR P 256
  · have := spl_lt (P := P) (Nat.lt_succ_self i) q
    rw [if_pos q, if_pos q]
    show spl P (i + 1) = _
    have : spl P i < spl P (i + 1) := this
    omega
  · rw [if_neg q, if_neg q]
theorem pls_0 : pls P 0 = 0 := by
  have h : 0 < sR P 256 := sR_pos 255
  rw [pls_lt h]
  exact spl_of (P := P) (x := 0) (by decide) (stt_row rfl)
theorem pls_end : pls P (sR P 256) = 256 := if_neg (Nat.lt_irrefl _)
theorem run_rp {i k : Nat} (hi : i < sR P 256) (hk : spl P i + k ≤ epl P i) : rp P m8 (spl P i + k) = rp P m8 (spl P i) := (rp_eq (run_cn hi k hk)).symm
theorem edN_non {c g : Bool} {R n : Nat} (h : ¬ rp P m8 n = R) : edN P m8 c g R (n + 1) = edN P m8 c g R n := by
  show (if (cb (rp P m8 n = R) && _) = true then _ else _) = _
  rw [cb_f.mpr h, Bool.false_and]; rfl
theorem edN_mx {c : Bool} {R n : Nat} (h : rp P m8 n = R) : edN P m8 c true R (n + 1) = max (edN P m8 c true R n) (if c then (n : Int) % 16 else (n : Int) / 16) := by
  show (if (cb (rp P m8 n = R) && decide (_ < _)) = true then _ else _) = _
  rw [cb_t.mpr h, Bool.true_and]
  by_cases q : edN P m8 c true R n < (if c then (n : Int) % 16 else (n : Int) / 16)
  · rw [decide_eq_true q, if_pos rfl]; exact (Int.max_eq_right (Int.le_of_lt q)).symm
  · rw [decide_eq_false q, if_neg (by decide)]; exact (Int.max_eq_left (Int.not_lt.mp q)).symm
theorem edN_mn {c : Bool} {R n : Nat} (h : rp P m8 n = R) : edN P m8 c false R (n + 1) = min (edN P m8 c false R n) (if c then (n : Int) % 16 else (n : Int) / 16) := by
  show (if (cb (rp P m8 n = R) && decide (_ < _)) = true then _ else _) = _
  rw [cb_t.mpr h, Bool.true_and]
  by_cases q : (if c then (n : Int) % 16 else (n : Int) / 16) < edN P m8 c false R n
  · rw [decide_eq_true q, if_pos rfl]; exact (Int.min_eq_right (Int.le_of_lt q)).symm
  · rw [decide_eq_false q, if_neg (by decide)]; exact (Int.min_eq_left (Int.not_lt.mp q)).symm
theorem edN_off {c g : Bool} {R s : Nat} : ∀ k, (∀ j, j < k → ¬ rp P m8 (s + j) = R) → edN P m8 c g R (s + k) = edN P m8 c g R s
  | 0, _ => rfl
  | k + 1, h => by rw [← Nat.add_assoc, edN_non (h k (by omega))]; exact edN_off k (fun j hj => h j (by omega))
theorem edL {R s : Nat} : ∀ k, (∀ j, j ≤ k → rp P m8 (s + j) = R) → s % 16 + k < 16 → edN P m8 true false R (s + k + 1) = min (edN P m8 true false R s) ((s % 16 : Nat) : Int)
  | 0, h, _ => by rw [edN_mn (h 0 (Nat.le_refl _))]; simp only [if_true, Nat.add_zero]; omega
  | k + 1, h, h2 => by
    rw [edN_mn (h (k + 1) (Nat.le_refl _)), ← Nat.add_assoc, edL k (fun j hj => h j (by omega)) (by omega)]
    simp only [if_true]
    have : ((s + k + 1 : Nat) : Int) % 16 = ((s % 16 + k + 1 : Nat) : Int) := by omega
    rw [this]
    omega
theorem edR {R s : Nat} : ∀ k, (∀ j, j ≤ k → rp P m8 (s + j) = R) → s % 16 + k < 16 → edN P m8 true true R (s + k + 1) = max (edN P m8 true true R s) ((s % 16 + k : Nat) : Int)
  | 0, h, _ => by rw [edN_mx (h 0 (Nat.le_refl _))]; simp only [if_true, Nat.add_zero]; omega
  | k + 1, h, h2 => by
    rw [edN_mx (h (k + 1) (Nat.le_refl _)), ← Nat.add_assoc, edR k (fun j hj => h j (by omega)) (by omega)]
    simp only [if_true]
    have : ((s + k + 1 : Nat) : Int) % 16 = ((s % 16 + k + 1 : Nat) : Int) := by omega
    rw [this]
    omega
theorem edB_le {R : Nat} : ∀ n, edN P m8 false true R n ≤ ((n / 16 : Nat) : Int)
  | 0 => by show (-1 : Int) ≤ _; omega
  | n + 1 => by
    have ih := edB_le (R := R) n
    by_cases h : rp P m8 n = R
    · rw [edN_mx h]; simp only [Bool.false_eq_true, if_false]; omega
    · rw [edN_non h]; omega
theorem edB {R s : Nat} : ∀ k, (∀ j, j ≤ k → rp P m8 (s + j) = R) → s % 16 + k < 16 → edN P m8 false true R (s + k + 1) = ((s / 16 : Nat) : Int)
  | 0, h, _ => by
    have := edB_le (P := P) (m8 := m8) (R := R) s
    rw [edN_mx (h 0 (Nat.le_refl _))]; simp only [Bool.false_eq_true, if_false, Nat.add_zero]; omega
  | k + 1, h, h2 => by
    rw [edN_mx (h (k + 1) (Nat.le_refl _)), ← Nat.add_assoc, edB k (fun j hj => h j (by omega)) (by omega)]
    simp only [Bool.false_eq_true, if_false]
    omega
theorem ct_off {R s : Nat} (k : Nat) (h : ∀ j, j < k → ¬ rp P m8 (s + j) = R) : fb_ct (fun x => cb (rp P m8 x = R)) (s + k) = fb_ct (fun x => cb (rp P m8 x = R)) s := by
  rw [fb_ct_split, fb_ct_zero.mpr (fun j hj => cb_f.mpr (h j hj))]; rfl
theorem ct_on {R s : Nat} (k : Nat) (h : ∀ j, j < k → rp P m8 (s + j) = R) : fb_ct (fun x => cb (rp P m8 x = R)) (s + k) = fb_ct (fun x => cb (rp P m8 x = R)) s + k := by
  rw [fb_ct_split, fb_ct_all.mpr (fun j hj => cb_t.mpr (h j hj))]
theorem sm_off {R s : Nat} (k : Nat) (h : ∀ j, j < k → ¬ rp P m8 (s + j) = R) : fb_sm (fun x => if cb (rp P m8 x = R) then sdN P x else 0) (s + k) = fb_sm (fun x => if cb (rp P m8 x = R) then sdN P x else 0) s := by
  rw [fb_sm_split, fb_sm_cong (f := fun j => if cb (rp P m8 (s + j) = R) then sdN P (s + j) else 0) (g := fun _ => 0) (n := k) (fun j hj => by simp only [cb_f.mpr (h j hj)]; rfl), fb_sm_const]; omega
theorem sm_on {R s : Nat} (k : Nat) (h : ∀ j, j < k → rp P m8 (s + j) = R) : fb_sm (fun x => if cb (rp P m8 x = R) then sdN P x else 0) (s + k) = fb_sm (fun x => if cb (rp P m8 x = R) then sdN P x else 0) s + fb_sm (fun j => sdN P (s + j)) k := by
  rw [fb_sm_split, fb_sm_cong (g := fun j => sdN P (s + j)) (n := k) (fun j hj => by rw [cb_t.mpr (h j hj)]; rfl)]
/-! sides of a run -/
theorem dz_nat {r c : Nat} (hr : r < 16) (hc : c < 16) : dz P (r : Int) (c : Int) = dk P (16 * r + c) := by
  rw [dz_in (by omega), dk_row hc]; rfl
theorem dz_ln {z : Int} {c : Nat} (hc : c < 16) : dz P z (c : Int) = (lnN P z).testBit c := by
  unfold lnN
  by_cases q : 0 ≤ z ∧ z < 16
  · rw [if_pos q, dz_in (by omega)]; rfl
  · rw [if_neg q, dz_out (by omega), Nat.zero_testBit]
theorem pop_col {s e v : Nat} (h : s ≤ e) (he : e < 16) : pop (andn (colN s e) v) = fb_ct (fun k => !v.testBit (s + k)) (e - s + 1) := by
  unfold pop
  have a := fb_ct_split (fun k => (andn (colN s e) v).testBit k) s (16 - s)
  have b := fb_ct_split (fun k => (andn (colN s e) v).testBit (s + k)) (e - s + 1) (15 - e)
  rw [show s + (16 - s) = 16 by omega] at a
  rw [show e - s + 1 + (15 - e) = 16 - s by omega] at b
  have z1 : fb_ct (fun k => (andn (colN s e) v).testBit k) s = 0 := fb_ct_zero.mpr (fun k hk => by rw [andn_tb, col_tb h, decide_eq_false (show ¬ s ≤ k by omega)]; rfl)
  have z2 : fb_ct (fun k => (andn (colN s e) v).testBit (s + (e - s + 1 + k))) (15 - e) = 0 := fb_ct_zero.mpr (fun k hk => by rw [andn_tb, col_tb h, decide_eq_false (show ¬ s + (e - s + 1 + k) ≤ e by omega), Bool.and_false]; rfl)
  rw [a, b, z1, z2, Nat.zero_add, Nat.add_zero]
  apply fb_ct_cong
  intro k hk
  rw [andn_tb, col_tb h, decide_eq_true (show s ≤ s + k by omega), decide_eq_true (show s + k ≤ e by omega)]; rfl
theorem sm_bZ (f : Nat → Bool) : ∀ n, fb_sm (fun k => bZ (f k)) n = fb_ct f n
  | 0 => rfl
  | n + 1 => by
    show fb_sm _ n + bZ (f n) = fb_ct f n + (if f n = true then 1 else 0)
    rw [sm_bZ f n]; cases f n <;> rfl
theorem run_sides {r s e : Nat} (hr : r < 16) (h : s ≤ e) (he : e < 16) (hd : ∀ k, s ≤ k → k ≤ e → dk P (16 * r + k) = true) (hs : s = 0 ∨ dk P (16 * r + (s - 1)) = false) (hx : e = 15 ∨ dk P (16 * r + (e + 1)) = false) : fb_sm (fun k => sdN P (16 * r + s + k)) (e - s + 1) = 2 + pop (andn (colN s e) (lnN P ((r : Int) - 1))) + pop (andn (colN s e) (lnN P ((r : Int) + 1))) := by
  have e1 : fb_sm (fun k => sdN P (16 * r + s + k)) (e - s + 1) = fb_sm (fun k => ((bZ (!(lnN P ((r : Int) - 1)).testBit (s + k)) + bZ (!(lnN P ((r : Int) + 1)).testBit (s + k))) + bZ (decide (k = 0))) + bZ (decide (k = e - s))) (e - s + 1) := by
    apply fb_sm_cong
    intro k hk
    unfold sdN
    have q1 : (((16 * r + s + k : Nat) : Int) / 16) = (r : Int) := by omega
    have q2 : (((16 * r + s + k : Nat) : Int) % 16) = ((s + k : Nat) : Int) := by omega
    rw [q1, q2, dz_ln (by omega), dz_ln (by omega)]
    have l : (!(dz P (r : Int) (((s + k : Nat) : Int) - 1))) = decide (k = 0) := by
      by_cases z : k = 0
      · subst z
        rw [decide_eq_true rfl]
        by_cases z0 : s = 0
        · subst z0; rw [dz_out (by omega)]; rfl
        · rcases hs with q | q
          · exact absurd q z0
          · rw [show ((s + 0 : Nat) : Int) - 1 = ((s - 1 : Nat) : Int) by omega, dz_nat hr (by omega), q]; rfl
      · rw [decide_eq_false z, show ((s + k : Nat) : Int) - 1 = ((s + k - 1 : Nat) : Int) by omega, dz_nat hr (by omega), hd _ (by omega) (by omega)]; rfl
    have m : (!(dz P (r : Int) (((s + k : Nat) : Int) + 1))) = decide (k = e - s) := by
      by_cases z : k = e - s
      · rw [decide_eq_true z]
        by_cases z0 : e = 15
        · rw [dz_out (by omega)]; rfl
        · rcases hx with q | q
          · exact absurd q z0
          · rw [show ((s + k : Nat) : Int) + 1 = ((e + 1 : Nat) : Int) by omega, dz_nat hr (by omega), q]; rfl
      · rw [decide_eq_false z, show ((s + k : Nat) : Int) + 1 = ((s + k + 1 : Nat) : Int) by omega, dz_nat hr (by omega), hd _ (by omega) (by omega)]; rfl
    rw [l, m]
  rw [e1, fb_sm_add, fb_sm_add, fb_sm_add, sm_bZ, sm_bZ, sm_bZ, sm_bZ, pop_col h he, pop_col h he]
  have o : ∀ (n j : Nat), j < n → fb_ct (fun k => decide (k = j)) n = 1 := by
    intro n j hj
    have := fb_ct_upd (fun _ => false) true (i := j) (n := n) hj
    rw [fb_ct_zero.mpr (fun _ _ => rfl)] at this
    rw [← show fb_ct (fun k => if k = j then true else false) n = fb_ct (fun k => decide (k = j)) n from fb_ct_cong (fun k _ => by by_cases z : k = j <;> simp [z])]
    simpa using this
  rw [o _ 0 (by omega), o _ (e - s) (by omega)]
  omega
theorem run_sides' {i : Nat} (hi : i < sR P 256) (hd : dk P (spl P i) = true) : fb_sm (fun k => sdN P (spl P i + k)) (epl P i + 1 - spl P i) = 2 + pop (andn (colN (spl P i % 16) (epl P i % 16)) (lnN P (((spl P i / 16 : Nat) : Int) - 1))) + pop (andn (colN (spl P i % 16) (epl P i % 16)) (lnN P (((spl P i / 16 : Nat) : Int) + 1))) := by
  have g := epl_ge hi
  have rr := run_row hi
  have ss := spl_spec hi
  have q := run_sides (P := P) (r := spl P i / 16) (s := spl P i % 16) (e := epl P i % 16) (by omega) (by omega) (by omega)
    (fun k h1 h2 => by have := run_dk hi (16 * (spl P i / 16) + k - spl P i) (by omega); rw [show spl P i + (16 * (spl P i / 16) + k - spl P i) = 16 * (spl P i / 16) + k by omega] at this; rw [this]; exact hd)
    (by
      by_cases z : spl P i % 16 = 0
      · exact Or.inl z
      · right
        have := stt_t ss.2.1 z
        rw [show 16 * (spl P i / 16) + (spl P i % 16 - 1) = spl P i - 1 by omega]
        cases e : dk P (spl P i - 1)
        · rfl
        · exact absurd (by rw [hd, e]) this)
    (by
      by_cases z : epl P i % 16 = 15
      · exact Or.inl z
      · right
        rw [show 16 * (spl P i / 16) + (epl P i % 16 + 1) = epl P i + 1 by omega]
        have n : i + 1 < sR P 256 := Nat.lt_of_not_le fun q => by
          have : epl P i = 255 := by unfold epl; rw [if_neg (by omega)]
          omega
        have es : spl P (i + 1) = epl P i + 1 := by have := pls_succ hi; rwa [pls_lt n] at this
        have nr := next_run (P := P) n (by rw [es]; omega)
        rw [← es]
        cases e : dk P (spl P (i + 1))
        · rfl
        · exact absurd (by rw [hd, e]) nr.2)
  rw [show 16 * (spl P i / 16) + spl P i % 16 = spl P i by omega, show epl P i % 16 - spl P i % 16 + 1 = epl P i + 1 - spl P i by omega] at q
  exact q
end ME
