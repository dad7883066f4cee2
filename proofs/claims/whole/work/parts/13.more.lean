/-- a dot by whole numbers: dark, and in the picture -/
def dz (P : Nat → Nat) (r q : Int) : Bool := decide ((0 ≤ r ∧ r ≤ 15) ∧ (0 ≤ q ∧ q ≤ 15)) && (P r.toNat).testBit q.toNat
theorem dz_in {P : Nat → Nat} {r q : Int} (h : (0 ≤ r ∧ r ≤ 15) ∧ (0 ≤ q ∧ q ≤ 15)) : dz P r q = (P r.toNat).testBit q.toNat := by unfold dz; rw [decide_eq_true h, Bool.true_and]
theorem dz_out {P : Nat → Nat} {r q : Int} (h : ¬ ((0 ≤ r ∧ r ≤ 15) ∧ (0 ≤ q ∧ q ≤ 15))) : dz P r q = false := by unfold dz; rw [decide_eq_false h, Bool.false_and]
/-- sides of a dot that are next to no dark one -/
def sdN (P : Nat → Nat) (x : Nat) : Nat := bZ (!(dz P ((x : Int) / 16 - 1) ((x : Int) % 16))) + bZ (!(dz P ((x : Int) / 16 + 1) ((x : Int) % 16))) + bZ (!(dz P ((x : Int) / 16) ((x : Int) % 16 - 1))) + bZ (!(dz P ((x : Int) / 16) ((x : Int) % 16 + 1)))
theorem ext_eq {G F : Nat → Int} {i : Nat} (h : ∀ k, k < i → G k = F k) : ∀ k, k < i + 1 → uZ G i (F i) k = F k := by
  intro k hk
  by_cases e : k = i
  · subst e; rw [uZ_s]
  · rw [uZ_n _ _ e]; exact h k (by omega)
theorem kn_end {k t n : Nat} (h1 : k + pop t = pop n) (h : (t : Int) = 0) : k = pop n := by
  have z : t = 0 := by omega
  rw [z, pop_0] at h1
  omega
