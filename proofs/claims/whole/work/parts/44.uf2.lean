section UF2
variable {P : Nat → Nat} {m8 : Bool}
/-- the first run of a colour in a row -/
def foc (P : Nat → Nat) (r : Nat) (cl : Bool) : Nat := if dk P (16 * r) = cl then sR P (16 * r) else sR P (16 * r) + 1
theorem foc_pt {r : Nat} {cl : Bool} (hr : r < 16) : PtI P r cl (foc P r cl) := by
  unfold foc PtI
  by_cases h : dk P (16 * r) = cl
  · rw [if_pos h]
    exact ⟨Nat.le_refl _, fun _ => by rw [spl_first hr]; exact h⟩
  · rw [if_neg h]
    refine ⟨Nat.le_succ _, fun q => ?_⟩
    have hN := sR_mono (P := P) (show 16 * (r + 1) ≤ 256 by omega)
    have r1 := (row_iff (P := P) (i := sR P (16 * r) + 1) (r := r) (by omega)).mp ⟨Nat.le_succ _, q⟩
    have n1 := (next_run (P := P) (i := sR P (16 * r)) (by omega) (by rw [r1, spl_first hr]; omega)).2
    rw [spl_first hr] at n1
    cases e1 : dk P (spl P (sR P (16 * r) + 1)) <;> cases e2 : dk P (16 * r) <;> cases cl <;> simp_all
theorem foc_no {r : Nat} {cl : Bool} {i : Nat} (hr : r < 16) (hi : i < foc P r cl) (h2 : i < sR P 256) (h3 : spl P i / 16 = r) : ¬ dk P (spl P i) = cl := by
  have a := ((row_iff (P := P) (i := i) (r := r) h2).mpr h3).1
  unfold foc at hi
  by_cases h : dk P (16 * r) = cl
  · rw [if_pos h] at hi; omega
  · rw [if_neg h] at hi
    obtain rfl : i = sR P (16 * r) := by omega
    rw [spl_first hr]; exact h
theorem foc_le (r : Nat) (cl : Bool) : foc P r cl ≤ sR P (16 * r) + 1 := by unfold foc; split <;> omega
theorem DoneI.all {T : Nat → Nat} {r : Nat} {cl : Bool} {rc a b : Nat} (h : DoneI P T r cl rc a b) (h1 : sR P (16 * r) ≤ a ∨ sR P (16 * (r + 1)) ≤ b) : DoneI P T r cl rc (sR P 256) (sR P 256) := by
  intro i j hi hj e1 e2 e3 e4 e5 _
  refine h i j hi hj e1 e2 e3 e4 e5 ?_
  rcases h1 with q | q
  · left
    have := ((row_iff (P := P) (i := i) (r := r - 1) hi).mpr (by omega)).2
    rw [show r - 1 + 1 = r by omega] at this
    omega
  · right
    have := ((row_iff (P := P) (i := j) (r := r) hj).mpr e2).2
    omega
theorem first_lt {r : Nat} (hr : r < 16) : sR P (16 * r) < 256 := Nat.lt_of_lt_of_le (sR_lt (P := P) (show 16 * r < 256 by omega) (stt_row (by omega))) (sR_le 256)
/-- the runs as they are read -/
def RunsOK (P : Nat → Nat) (m8 : Bool) (FI_ CH_ SO EO RO : Nat → Int) (DA : Nat → Bool) (TW : Nat → Int) : Prop := RecI P (sR P 256) SO EO RO DA ∧ (∀ i, i < sR P 256 → TW i = ((rix P (rp P m8 (spl P i)) : Nat) : Int)) ∧ (∀ r, r ≤ 16 → FI_ r = ((sR P (16 * r) : Nat) : Int)) ∧ (∀ r, r < 16 → CH_ r = ((chN P r : Nat) : Int))
/-- what begins runs, counted by places or by runs -/
theorem ct_runs {f : Nat → Bool} (hf : ∀ x, x < 256 → f x = true → stt P x = true) : ∀ n, n ≤ 256 → fb_ct f n = fb_ct (fun i => f (spl P i)) (sR P n)
  | 0, _ => rfl
  | n + 1, h => by
    have ih := ct_runs hf n (by omega)
    cases e : stt P n
    · rw [sR_succ, if_neg (by rw [e]; decide)]
      show fb_ct f n + (if f n = true then 1 else 0) = fb_ct _ (sR P n)
      rw [if_neg (fun z => by rw [hf n (by omega) z] at e; cases e), ih]
      rfl
    · rw [sR_succ, if_pos e]
      show fb_ct f n + (if f n = true then 1 else 0) = fb_ct _ (sR P n) + (if f (spl P (sR P n)) = true then 1 else 0)
      rw [ih, spl_of (by omega) e]
theorem rp_stt {x : Nat} (hx : x < 256) (h : rp P m8 x = x) : stt P x = true := by
  cases e : stt P x
  · have a := stt_f e
    have i1 := rix_mem (P := P) hx
    have c1 := rix_cn (P := P) (m8 := m8) hx
    have l := rp_le c1.sy
    rw [h] at l
    have es : spl P (rix P x) = x := by omega
    have := (spl_spec (P := P) (rix_lt hx)).2.1
    rw [es, e] at this
    cases this
  · rfl
theorem rp_run {i : Nat} (hi : i < sR P 256) : rix P (rp P m8 (spl P i)) = i ↔ rp P m8 (spl P i) = spl P i := by
  constructor
  · intro h
    have hs := (spl_spec (P := P) hi).1
    have l := rp_self (P := P) (m8 := m8) (spl P i)
    have m := (rix_iff (P := P) (p := rp P m8 (spl P i)) (by omega) hi).mp h
    omega
  · intro h; rw [h]; exact spl_rix hi
theorem dark_groups {SO EO RO TW : Nat → Int} {DA : Nat → Bool} (hR : RecI P (sR P 256) SO EO RO DA) (hT : ∀ i, i < sR P 256 → TW i = ((rix P (rp P m8 (spl P i)) : Nat) : Int)) (n : Nat) (hn : n ≤ 256) : fb_ct (fun i => DA i && decide (TW i = (i : Int))) (sR P n) = cD P m8 n := by
  unfold cD
  rw [ct_runs (P := P) (fun x hx h => rp_stt hx (cb_t.mp h).1) n hn]
  apply fb_ct_cong
  intro i hi
  have hi : i < sR P 256 := Nat.lt_of_lt_of_le hi (sR_mono hn)
  rw [(hR i hi).2.2.2, hT i hi]
  have e := rp_run (m8 := m8) hi
  by_cases q : rp P m8 (spl P i) = spl P i
  · have e2 := e.mpr q
    rw [e2, decide_eq_true rfl, Bool.and_true]
    cases d : dk P (spl P i)
    · symm; exact cb_f.mpr (fun z => by rw [z.2] at d; cases d)
    · symm; exact cb_t.mpr ⟨q, d⟩
  · rw [decide_eq_false (fun z => q (e.mp (by omega))), Bool.and_false]
    symm; exact cb_f.mpr (fun z => q z.1)
end UF2
