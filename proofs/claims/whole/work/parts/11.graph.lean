/-! ===== truths of propositions ===== -/
noncomputable def cb (p : Prop) : Bool := @decide p (Classical.propDecidable p)
theorem cb_t {p : Prop} : cb p = true ↔ p := by unfold cb; exact @decide_eq_true_iff p (Classical.propDecidable p)
theorem cb_f {p : Prop} : cb p = false ↔ ¬ p := by rw [← Bool.not_eq_true, cb_t]
theorem cb_congr {p q : Prop} (h : p ↔ q) : cb p = cb q := by rw [propext h]
theorem cb_b (b : Bool) : cb (b = true) = b := by cases b <;> simp [cb]
theorem b_ext' {a b : Bool} (h : a = true ↔ b = true) : a = b := by cases a <;> cases b <;> simp_all
theorem ct_cb_congr {p q : Nat → Prop} {n : Nat} (h : ∀ k, k < n → (p k ↔ q k)) : fb_ct (fun k => cb (p k)) n = fb_ct (fun k => cb (q k)) n := fb_ct_cong (fun k hk => cb_congr (h k hk))
theorem ct_cb_yes {p : Nat → Prop} {n : Nat} (h : p n) : fb_ct (fun k => cb (p k)) (n + 1) = fb_ct (fun k => cb (p k)) n + 1 := by rw [fb_ct_succ, cb_t.mpr h]; rfl
theorem ct_cb_no {p : Nat → Prop} {n : Nat} (h : ¬ p n) : fb_ct (fun k => cb (p k)) (n + 1) = fb_ct (fun k => cb (p k)) n := by rw [fb_ct_succ, cb_f.mpr h]; rfl
/-- ranks: of two places that count, the lesser has the lesser number -/
theorem ct_lt {p : Nat → Bool} {i j : Nat} (h : i < j) (hi : p i = true) : fb_ct p i < fb_ct p j := by
  have a := fb_ct_mono p (show i + 1 ≤ j from h)
  rw [fb_ct_succ, hi] at a
  simp at a
  omega
theorem ct_inj {p : Nat → Bool} {i j : Nat} (hi : p i = true) (hj : p j = true) (h : fb_ct p i = fb_ct p j) : i = j := fb_ct_kth_one hi hj h
/-! ===== the picture: dots, neighbours, what is joined ===== -/
def dk (P : Nat → Nat) (x : Nat) : Bool := (P (x / 16)).testBit (x % 16)
def nb (cor : Bool) (x y : Nat) : Bool := decide (x / 16 ≤ y / 16 + 1) && decide (y / 16 ≤ x / 16 + 1) && decide (x % 16 ≤ y % 16 + 1) && decide (y % 16 ≤ x % 16 + 1) && (cor || decide (x / 16 = y / 16) || decide (x % 16 = y % 16))
theorem nb_iff {cor : Bool} {x y : Nat} : nb cor x y = true ↔ (x / 16 ≤ y / 16 + 1 ∧ y / 16 ≤ x / 16 + 1 ∧ x % 16 ≤ y % 16 + 1 ∧ y % 16 ≤ x % 16 + 1) ∧ (cor = true ∨ x / 16 = y / 16 ∨ x % 16 = y % 16) := by
  simp only [nb, Bool.and_eq_true, Bool.or_eq_true, decide_eq_true_eq, and_assoc, or_assoc]
theorem nb_symm {cor : Bool} {x y : Nat} (h : nb cor x y = true) : nb cor y x = true := by
  rw [nb_iff] at *
  obtain ⟨⟨a, b, c, d⟩, e⟩ := h
  refine ⟨⟨b, a, d, c⟩, ?_⟩
  rcases e with e | e | e
  · exact Or.inl e
  · exact Or.inr (Or.inl e.symm)
  · exact Or.inr (Or.inr e.symm)
/-- side by side, or touching by a corner where that joins; of one colour -/
def Adj (P : Nat → Nat) (m8 : Bool) (x y : Nat) : Prop := x < 256 ∧ y < 256 ∧ dk P x = dk P y ∧ nb (dk P x == m8) x y = true
theorem Adj.symm {P : Nat → Nat} {m8 : Bool} {x y : Nat} (h : Adj P m8 x y) : Adj P m8 y x := ⟨h.2.1, h.1, h.2.2.1.symm, by rw [← h.2.2.1]; exact nb_symm h.2.2.2⟩
/-- joined, directly or by others -/
def Cn (P : Nat → Nat) (m8 : Bool) (x y : Nat) : Prop := ∀ S : Nat → Prop, (∀ a b, Adj P m8 a b → S a → S b) → S x → S y
section CN
variable {P : Nat → Nat} {m8 : Bool}
theorem Cn.rf (x : Nat) : Cn P m8 x x := fun _ _ h => h
theorem Cn.adj {x y : Nat} (h : Adj P m8 x y) : Cn P m8 x y := fun _ hS hx => hS x y h hx
theorem Cn.tr {x y z : Nat} (h : Cn P m8 x y) (h2 : Cn P m8 y z) : Cn P m8 x z := fun S hS hx => h2 S hS (h S hS hx)
theorem Cn.sy {x y : Nat} (h : Cn P m8 x y) : Cn P m8 y x := h (fun z => Cn P m8 z x) (fun _ _ hab ha => (Cn.adj hab.symm).tr ha) (Cn.rf x)
theorem Cn.lt {x y : Nat} (h : Cn P m8 x y) (hx : x < 256) : y < 256 := h (fun z => z < 256) (fun _ _ hab _ => hab.2.1) hx
theorem Cn.dkE {x y : Nat} (h : Cn P m8 x y) : dk P x = dk P y := h (fun z => dk P x = dk P z) (fun _ _ hab ha => ha.trans hab.2.2.1) rfl
noncomputable def rp (P : Nat → Nat) (m8 : Bool) (x : Nat) : Nat := Classical.choose (pk_least (fun y => Cn P m8 x y) ⟨x, Cn.rf x⟩)
theorem rp_cn (x : Nat) : Cn P m8 x (rp P m8 x) := (Classical.choose_spec (pk_least (fun y => Cn P m8 x y) ⟨x, Cn.rf x⟩)).1
theorem rp_le {x y : Nat} (h : Cn P m8 x y) : rp P m8 x ≤ y := Nat.le_of_not_lt fun q => (Classical.choose_spec (pk_least (fun y => Cn P m8 x y) ⟨x, Cn.rf x⟩)).2 y q h
theorem rp_self (x : Nat) : rp P m8 x ≤ x := rp_le (Cn.rf x)
theorem rp_eq {x y : Nat} (h : Cn P m8 x y) : rp P m8 x = rp P m8 y := by
  have a := rp_le (h.tr (rp_cn y))
  have b := rp_le (h.sy.tr (rp_cn x))
  omega
theorem rp_iff {x y : Nat} : rp P m8 x = rp P m8 y ↔ Cn P m8 x y := ⟨fun h => (rp_cn x).tr (by rw [h]; exact (rp_cn y).sy), rp_eq⟩
theorem rp_rp (x : Nat) : rp P m8 (rp P m8 x) = rp P m8 x := (rp_eq (rp_cn x)).symm
theorem rp_lt {x : Nat} (h : x < 256) : rp P m8 x < 256 := Nat.lt_of_le_of_lt (rp_self x) h
theorem rp_dk (x : Nat) : dk P (rp P m8 x) = dk P x := (rp_cn x).dkE.symm
theorem rp_least {x y : Nat} (h : rp P m8 y = x) : x ≤ y := by rw [← h]; exact rp_self y
end CN
/-- on the rim -/
def onrim (x : Nat) : Prop := x / 16 = 0 ∨ x / 16 = 15 ∨ x % 16 = 0 ∨ x % 16 = 15
/-- what the rim reaches -/
def opn (P : Nat → Nat) (m8 : Bool) (x : Nat) : Prop := ∃ y, y < 256 ∧ rp P m8 y = rp P m8 x ∧ onrim y
/-- a least place of a part, of a light part, of a hole -/
def isD (P : Nat → Nat) (m8 : Bool) (x : Nat) : Prop := rp P m8 x = x ∧ dk P x = true
def isL (P : Nat → Nat) (m8 : Bool) (x : Nat) : Prop := rp P m8 x = x ∧ dk P x = false
def isH (P : Nat → Nat) (m8 : Bool) (x : Nat) : Prop := isL P m8 x ∧ ¬ opn P m8 x
/-- how many of them are ahead of a place -/
noncomputable def cD (P : Nat → Nat) (m8 : Bool) (n : Nat) : Nat := fb_ct (fun x => cb (isD P m8 x)) n
noncomputable def cL (P : Nat → Nat) (m8 : Bool) (n : Nat) : Nat := fb_ct (fun x => cb (isL P m8 x)) n
noncomputable def cH (P : Nat → Nat) (m8 : Bool) (n : Nat) : Nat := fb_ct (fun x => cb (isH P m8 x)) n
section RANK
variable {P : Nat → Nat} {m8 : Bool}
theorem cD_inj {x y : Nat} (hx : isD P m8 x) (hy : isD P m8 y) (h : cD P m8 x = cD P m8 y) : x = y := ct_inj (cb_t.mpr hx) (cb_t.mpr hy) h
theorem cL_inj {x y : Nat} (hx : isL P m8 x) (hy : isL P m8 y) (h : cL P m8 x = cL P m8 y) : x = y := ct_inj (cb_t.mpr hx) (cb_t.mpr hy) h
theorem cH_inj {x y : Nat} (hx : isH P m8 x) (hy : isH P m8 y) (h : cH P m8 x = cH P m8 y) : x = y := ct_inj (cb_t.mpr hx) (cb_t.mpr hy) h
theorem cD_lt {x y : Nat} (h : x < y) (hx : isD P m8 x) : cD P m8 x < cD P m8 y := ct_lt h (cb_t.mpr hx)
theorem cL_lt {x y : Nat} (h : x < y) (hx : isL P m8 x) : cL P m8 x < cL P m8 y := ct_lt h (cb_t.mpr hx)
theorem cH_lt {x y : Nat} (h : x < y) (hx : isH P m8 x) : cH P m8 x < cH P m8 y := ct_lt h (cb_t.mpr hx)
theorem cD_kth {k n : Nat} (h : k < cD P m8 n) : ∃ x, x < n ∧ isD P m8 x ∧ cD P m8 x = k := by
  obtain ⟨x, h1, h2, h3⟩ := fb_ct_kth h
  exact ⟨x, h1, cb_t.mp h2, h3⟩
theorem cL_kth {k n : Nat} (h : k < cL P m8 n) : ∃ x, x < n ∧ isL P m8 x ∧ cL P m8 x = k := by
  obtain ⟨x, h1, h2, h3⟩ := fb_ct_kth h
  exact ⟨x, h1, cb_t.mp h2, h3⟩
theorem cH_kth {k n : Nat} (h : k < cH P m8 n) : ∃ x, x < n ∧ isH P m8 x ∧ cH P m8 x = k := by
  obtain ⟨x, h1, h2, h3⟩ := fb_ct_kth h
  exact ⟨x, h1, cb_t.mp h2, h3⟩
theorem cH_le_cL (n : Nat) : cH P m8 n ≤ cL P m8 n := fb_ct_sub (fun k _ h => cb_t.mpr (cb_t.mp h).1)
theorem adj_pair {k : Nat} (hk : k < 128) (h : dk P (2 * k) = dk P (2 * k + 1)) : Adj P m8 (2 * k) (2 * k + 1) := by
  refine ⟨by omega, by omega, h, nb_iff.mpr ⟨⟨by omega, by omega, by omega, by omega⟩, Or.inr (Or.inl (by omega))⟩⟩
theorem pair_half {c : Bool} : ∀ k, k ≤ 128 → fb_ct (fun x => cb (rp P m8 x = x ∧ dk P x = c)) (2 * k) ≤ k
  | 0, _ => Nat.le_refl _
  | k + 1, hk => by
    have ih := pair_half (c := c) k (by omega)
    rw [show 2 * (k + 1) = 2 * k + 1 + 1 by omega, fb_ct_succ, fb_ct_succ]
    by_cases h1 : rp P m8 (2 * k) = 2 * k ∧ dk P (2 * k) = c
    · by_cases h2 : rp P m8 (2 * k + 1) = 2 * k + 1 ∧ dk P (2 * k + 1) = c
      · have e := rp_eq (Cn.adj (adj_pair (P := P) (m8 := m8) (k := k) (by omega) (h1.2.trans h2.2.symm)))
        omega
      · rw [cb_t.mpr h1, cb_f.mpr h2]; simp; omega
    · rw [cb_f.mpr h1]
      have : (if cb (rp P m8 (2 * k + 1) = 2 * k + 1 ∧ dk P (2 * k + 1) = c) = true then 1 else 0) ≤ 1 := by split <;> omega
      simp only [Bool.false_eq_true, if_false]
      omega
theorem cD_128 : cD P m8 256 ≤ 128 := pair_half (c := true) 128 (Nat.le_refl _)
theorem cL_128 : cL P m8 256 ≤ 128 := pair_half (c := false) 128 (Nat.le_refl _)
theorem cD_le {n : Nat} (h : n ≤ 256) : cD P m8 n ≤ 128 := Nat.le_trans (fb_ct_mono _ h) cD_128
theorem cL_le {n : Nat} (h : n ≤ 256) : cL P m8 n ≤ 128 := Nat.le_trans (fb_ct_mono _ h) cL_128
theorem cH_le {n : Nat} (h : n ≤ 256) : cH P m8 n ≤ 128 := Nat.le_trans (cH_le_cL n) (cL_le h)
end RANK
