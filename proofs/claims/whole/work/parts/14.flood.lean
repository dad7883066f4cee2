/-! ===== flooding: what a queue of dots keeps ===== -/
def FI (P : Nat → Nat) (m8 : Bool) (x : Nat) (num : Int) (NU NU1 QU1 : Nat → Int) (Q : Nat → Nat) (fr to : Nat) : Prop :=
  (fr ≤ to ∧ to ≤ 256) ∧ (∀ j, j < to → QU1 j = (Q j : Int) ∧ Q j < 256 ∧ Cn P m8 x (Q j) ∧ NU1 (Q j) = num) ∧ (∀ i j, i < j → j < to → Q i ≠ Q j) ∧
  (∀ y, y < 256 → NU1 y = NU y ∨ ∃ j, j < to ∧ Q j = y) ∧ (∃ j, j < to ∧ Q j = x) ∧ (∀ j y, j < fr → Adj P m8 (Q j) y → NU1 y = num)
/-- where a neighbour stands among the nine -/
def nbi (u y : Nat) : Nat := (y / 16 + 1 - u / 16) * 3 + (y % 16 + 1 - u % 16)
def FJ (P : Nat → Nat) (m8 : Bool) (num : Int) (NU1 : Nat → Int) (u k : Nat) : Prop := ∀ y, Adj P m8 u y → nbi u y < k → NU1 y = num
section FL
variable {P : Nat → Nat} {m8 : Bool} {x : Nat} {num : Int} {NU NU1 QU1 : Nat → Int} {Q : Nat → Nat} {fr to : Nat}
theorem FI.start (hx : x < 256) (QU : Nat → Int) : FI P m8 x num NU (uZ NU x num) (uZ QU 0 (x : Int)) (fun _ => x) 0 1 := by
  refine ⟨by omega, fun j hj => ?_, fun i j h1 h2 => by omega, fun y _ => ?_, ⟨0, by omega, rfl⟩, fun j y h => by omega⟩
  · obtain rfl : j = 0 := by omega
    exact ⟨uZ_s _ _ _, hx, Cn.rf x, uZ_s _ _ _⟩
  · by_cases e : y = x
    · exact Or.inr ⟨0, by omega, e.symm⟩
    · exact Or.inl (uZ_n _ _ e)
theorem adj_bd {u y : Nat} (h : Adj P m8 u y) : u < 256 ∧ y < 256 ∧ (u / 16 ≤ y / 16 + 1 ∧ y / 16 ≤ u / 16 + 1 ∧ u % 16 ≤ y % 16 + 1 ∧ y % 16 ≤ u % 16 + 1) ∧ ((dk P u == m8) = true ∨ u / 16 = y / 16 ∨ u % 16 = y % 16) := ⟨h.1, h.2.1, nb_iff.mp h.2.2.2⟩
theorem nbi_lt {u y : Nat} (h : Adj P m8 u y) : nbi u y < 9 := by
  obtain ⟨a, b, ⟨c, d, e, f⟩, -⟩ := adj_bd h
  unfold nbi
  omega
theorem nbi_at {u y k : Nat} (h : Adj P m8 u y) (hk : nbi u y = k) : ((y / 16 : Nat) : Int) = (u / 16 : Nat) + (k : Int) / 3 - 1 ∧ ((y % 16 : Nat) : Int) = (u % 16 : Nat) + (k : Int) % 3 - 1 := by
  obtain ⟨a, b, ⟨c, d, e, f⟩, -⟩ := adj_bd h
  unfold nbi at hk
  omega
theorem FJ.z (u : Nat) : FJ P m8 num NU1 u 0 := fun y _ h => absurd h (Nat.not_lt_zero _)
theorem FJ.next {u k : Nat} (h : FJ P m8 num NU1 u k) (h2 : ∀ y, Adj P m8 u y → nbi u y = k → NU1 y = num) : FJ P m8 num NU1 u (k + 1) := fun y ha hk => by
  by_cases e : nbi u y = k
  · exact h2 y ha e
  · exact h y ha (by omega)
/-- nothing is there, or it isn't near -/
theorem FJ.skip1 {u k : Nat} {b : Bool} (h : FJ P m8 num NU1 u k) (hu : NU1 u = num) (hb : b = true ↔ (((0 ≤ (u : Int) / 16 + (k : Int) / 3 - 1 ∧ (u : Int) / 16 + (k : Int) / 3 - 1 ≤ 15) ∧ (0 ≤ (u : Int) % 16 + (k : Int) % 3 - 1 ∧ (u : Int) % 16 + (k : Int) % 3 - 1 ≤ 15)) ∧ ((dk P u == m8) = true ∨ (k : Int) % 2 = 1))) (hf : b = false) : FJ P m8 num NU1 u (k + 1) := by
  refine h.next fun y ha hk => ?_
  obtain ⟨a1, b1, ⟨c, d, e, f⟩, g⟩ := adj_bd ha
  obtain ⟨h1, h2⟩ := nbi_at ha hk
  by_cases hyu : y = u
  · rw [hyu]; exact hu
  · have hk9 := nbi_lt ha
    rw [hk] at hk9
    have : ¬ b = true := by rw [hf]; decide
    refine absurd (hb.mpr ⟨⟨⟨by omega, by omega⟩, ⟨by omega, by omega⟩⟩, ?_⟩) this
    rcases g with g | g | g
    · exact Or.inl g
    · exact Or.inr (by omega)
    · exact Or.inr (by omega)
theorem FJ.at {u k th : Nat} (hth : 16 * ((u : Int) / 16 + (k : Int) / 3 - 1) + ((u : Int) % 16 + (k : Int) % 3 - 1) = (th : Int)) (hq : 0 ≤ (u : Int) % 16 + (k : Int) % 3 - 1 ∧ (u : Int) % 16 + (k : Int) % 3 - 1 ≤ 15) {y : Nat} (ha : Adj P m8 u y) (hk : nbi u y = k) : y = th := by
  obtain ⟨h1, h2⟩ := nbi_at ha hk
  omega
/-- it bears a number already -/
theorem FI.skip2 (H : FI P m8 x num NU NU1 QU1 Q fr to) (hfree : ∀ y, Cn P m8 x y → NU y = -1) {u th : Nat} (hu : Cn P m8 x u) (hn : ¬ NU1 th = -1) (ha : Adj P m8 u th) : NU1 th = num := by
  obtain ⟨-, h2, -, h4, -, -⟩ := H
  rcases h4 th ha.2.1 with h | ⟨j, hj, rfl⟩
  · rw [h, hfree th (hu.tr (Cn.adj ha))] at hn
    exact absurd rfl hn
  · exact (h2 j hj).2.2.2
/-- one dot more -/
theorem FI.more (H : FI P m8 x num NU NU1 QU1 Q fr to) (hnum : num ≠ -1) {u th : Nat} (hu : Cn P m8 x u) (hn : NU1 th = -1) (ha : Adj P m8 u th) : to < 256 ∧ FI P m8 x num NU (uZ NU1 th num) (uZ QU1 to (th : Int)) (fun j => if j = to then th else Q j) fr (to + 1) := by
  obtain ⟨h1, h2, h3, h4, h5, h6⟩ := H
  have hne : ∀ j, j < to → Q j ≠ th := fun j hj e => by
    have := (h2 j hj).2.2.2
    rw [e, hn] at this
    exact hnum this.symm
  have hto : to < 256 := by
    have := fb_holes 256 (to + 1) (fun j => if j = to then th else Q j) (fun i hi => by
      by_cases e : i = to
      · simp only [e, if_true]; exact ha.2.1
      · simp only [e, if_false]; exact (h2 i (by omega)).2.1) (fun i j hij hj => by
      have e : i ≠ to := by omega
      simp only [e, if_false]
      by_cases e2 : j = to
      · simp only [e2, if_true]; exact hne i (by omega)
      · simp only [e2, if_false]; exact h3 i j hij (by omega))
    omega
  refine ⟨hto, ⟨by omega, by omega⟩, fun j hj => ?_, fun i j hij hj => ?_, fun y hy => ?_, ?_, fun j y hj hadj => ?_⟩
  · by_cases e : j = to
    · subst e
      simp only [if_true]
      exact ⟨uZ_s _ _ _, ha.2.1, hu.tr (Cn.adj ha), uZ_s _ _ _⟩
    · simp only [e, if_false]
      obtain ⟨a, b, c, d⟩ := h2 j (by omega)
      exact ⟨by rw [uZ_n _ _ e]; exact a, b, c, by rw [uZ_n _ _ (hne j (by omega))]; exact d⟩
  · have e : i ≠ to := by omega
    simp only [e, if_false]
    by_cases e2 : j = to
    · simp only [e2, if_true]; exact hne i (by omega)
    · simp only [e2, if_false]; exact h3 i j hij (by omega)
  · by_cases e : y = th
    · exact Or.inr ⟨to, by omega, by simp [e]⟩
    · rcases h4 y hy with h | ⟨j, hj, hq⟩
      · exact Or.inl (by rw [uZ_n _ _ e]; exact h)
      · exact Or.inr ⟨j, by omega, by simp [show j ≠ to by omega, hq]⟩
  · obtain ⟨j, hj, hq⟩ := h5
    exact ⟨j, by omega, by simp [show j ≠ to by omega, hq]⟩
  · simp only [show j ≠ to by omega, if_false] at hadj
    by_cases e : y = th
    · subst e; exact uZ_s _ _ _
    · rw [uZ_n _ _ e]; exact h6 j y hj hadj
theorem FJ.more {u k th : Nat} (h : FJ P m8 num NU1 u k) (h2 : ∀ y, Adj P m8 u y → nbi u y = k → y = th) : FJ P m8 num (uZ NU1 th num) u (k + 1) := fun y ha hk => by
  by_cases e : y = th
  · subst e; exact uZ_s _ _ _
  · rw [uZ_n _ _ e]
    by_cases e2 : nbi u y = k
    · exact absurd (h2 y ha e2) e
    · exact h y ha (by omega)
/-- a dot is through -/
theorem FI.step (H : FI P m8 x num NU NU1 QU1 Q fr to) (hlt : fr < to) (h : FJ P m8 num NU1 (Q fr) 9) : FI P m8 x num NU NU1 QU1 Q (fr + 1) to := by
  obtain ⟨h1, h2, h3, h4, h5, h6⟩ := H
  refine ⟨⟨hlt, h1.2⟩, h2, h3, h4, h5, fun j y hj ha => ?_⟩
  by_cases e : j = fr
  · subst e; exact h y ha (nbi_lt ha)
  · exact h6 j y (by omega) ha
/-- the end -/
theorem FI.fin (H : FI P m8 x num NU NU1 QU1 Q fr to) (hnum : num ≠ -1) (hfree : ∀ y, Cn P m8 x y → NU y = -1) (hx : x < 256) (he : to ≤ fr) : ∀ y, y < 256 → (Cn P m8 x y → NU1 y = num) ∧ (¬ Cn P m8 x y → NU1 y = NU y) := by
  obtain ⟨h1, h2, h3, h4, h5, h6⟩ := H
  have inq : ∀ y, y < 256 → NU1 y = num → NU y = -1 → ∃ j, j < to ∧ Q j = y := by
    intro y hy h h'
    rcases h4 y hy with q | q
    · rw [q, h'] at h; exact absurd h.symm hnum
    · exact q
  have cl : ∀ y, Cn P m8 x y → NU1 y = num ∧ Cn P m8 x y := by
    intro y hc
    refine hc (fun z => NU1 z = num ∧ Cn P m8 x z) ?_ ?_
    · intro a b hab ⟨ha, hxa⟩
      obtain ⟨j, hj, rfl⟩ := inq a hab.1 ha (hfree a hxa)
      exact ⟨h6 j b (by omega) hab, hxa.tr (Cn.adj hab)⟩
    · obtain ⟨j, hj, e⟩ := h5
      exact ⟨by rw [← e]; exact (h2 j hj).2.2.2, Cn.rf x⟩
  intro y hy
  refine ⟨fun hc => (cl y hc).1, fun hc => ?_⟩
  rcases h4 y hy with h | ⟨j, hj, rfl⟩
  · exact h
  · exact absurd (h2 j hj).2.2.1 hc
/-- whether it came to the rim -/
theorem FI.rim (H : FI P m8 x num NU NU1 QU1 Q fr to) (hnum : num ≠ -1) (hfree : ∀ y, Cn P m8 x y → NU y = -1) (hx : x < 256) (he : to ≤ fr) {b : Bool} (hb : b = true ↔ ∃ j, j < fr ∧ onrim (Q j)) : b = cb (∃ y, y < 256 ∧ Cn P m8 x y ∧ onrim y) := by
  have hfin := H.fin hnum hfree hx he
  obtain ⟨h1, h2, h3, h4, h5, h6⟩ := H
  apply b_ext'
  rw [hb, cb_t]
  constructor
  · rintro ⟨j, hj, hr⟩
    exact ⟨Q j, (h2 j (by omega)).2.1, (h2 j (by omega)).2.2.1, hr⟩
  · rintro ⟨y, hy, hc, hr⟩
    have := (hfin y hy).1 hc
    rcases h4 y hy with h | ⟨j, hj, e⟩
    · rw [h, hfree y hc] at this
      exact absurd this.symm hnum
    · exact ⟨j, by omega, by rw [e]; exact hr⟩
end FL
theorem FJ.nine {P : Nat → Nat} {m8 : Bool} {num : Int} {NU1 : Nat → Int} {u k : Nat} (h : FJ P m8 num NU1 u k) (hk : 9 ≤ k) : FJ P m8 num NU1 u 9 := fun y ha h9 => h y ha (by omega)
theorem rim_step {b b2 : Bool} {Q : Nat → Nat} {fr : Nat} (h : b = true ↔ ∃ j, j < fr ∧ onrim (Q j)) (h2 : b2 = true ↔ (b = true ∨ onrim (Q fr))) : b2 = true ↔ ∃ j, j < fr + 1 ∧ onrim (Q j) := by
  rw [h2, h]
  constructor
  · rintro (⟨j, hj, hr⟩ | hr)
    · exact ⟨j, by omega, hr⟩
    · exact ⟨fr, by omega, hr⟩
  · rintro ⟨j, hj, hr⟩
    by_cases e : j = fr
    · subst e; exact Or.inr hr
    · exact Or.inl ⟨j, by omega, hr⟩
theorem rim_more {b2 : Bool} {Q : Nat → Nat} {fr to th : Nat} (h : b2 = true ↔ ∃ j, j < fr + 1 ∧ onrim (Q j)) (hl : fr < to) : b2 = true ↔ ∃ j, j < fr + 1 ∧ onrim ((fun j => if j = to then th else Q j) j) := by
  rw [h]
  constructor
  · rintro ⟨j, hj, hr⟩
    exact ⟨j, hj, by simp only [show j ≠ to by omega, if_false]; exact hr⟩
  · rintro ⟨j, hj, hr⟩
    simp only [show j ≠ to by omega, if_false] at hr
    exact ⟨j, hj, hr⟩
def RimI (b : Bool) (Q : Nat → Nat) (fr : Nat) : Prop := b = true ↔ ∃ j, j < fr ∧ onrim (Q j)
def NrI (nr cor : Bool) (u k : Nat) : Prop := nr = true ↔ (((0 ≤ (u : Int) / 16 + (k : Int) / 3 - 1 ∧ (u : Int) / 16 + (k : Int) / 3 - 1 ≤ 15) ∧ (0 ≤ (u : Int) % 16 + (k : Int) % 3 - 1 ∧ (u : Int) % 16 + (k : Int) % 3 - 1 ≤ 15)) ∧ (cor = true ∨ (k : Int) % 2 = 1))
def FreeI (P : Nat → Nat) (m8 : Bool) (x : Nat) (NU : Nat → Int) : Prop := (∀ y, Cn P m8 x y → NU y = -1) ∧ ∀ y, y < 256 → -1 ≤ NU y ∧ NU y ≤ 1000
theorem FI.bd {P : Nat → Nat} {m8 : Bool} {x : Nat} {num : Int} {NU NU1 QU1 : Nat → Int} {Q : Nat → Nat} {fr to : Nat} (H : FI P m8 x num NU NU1 QU1 Q fr to) (hN : FreeI P m8 x NU) (hn : 0 ≤ num ∧ num ≤ 1000) {y : Nat} (hy : y < 256) : -1 ≤ NU1 y ∧ NU1 y ≤ 1000 := by
  rcases H.2.2.2.1 y hy with h | ⟨j, hj, rfl⟩
  · rw [h]; exact hN.2 y hy
  · rw [(H.2.1 j hj).2.2.2]; omega
theorem near_nb {u th k : Nat} {cor : Bool} (hk : k < 9) (hu : u < 256) (hth : 16 * ((u : Int) / 16 + (k : Int) / 3 - 1) + ((u : Int) % 16 + (k : Int) % 3 - 1) = (th : Int)) (hq : 0 ≤ (u : Int) % 16 + (k : Int) % 3 - 1 ∧ (u : Int) % 16 + (k : Int) % 3 - 1 ≤ 15) (hc : cor = true ∨ (k : Int) % 2 = 1) : nb cor u th = true := by
  have h1 : (th : Int) / 16 = (u : Int) / 16 + (k : Int) / 3 - 1 := by omega
  have h2 : (th : Int) % 16 = (u : Int) % 16 + (k : Int) % 3 - 1 := by omega
  clear hth
  refine nb_iff.mpr ⟨⟨by omega, by omega, by omega, by omega⟩, ?_⟩
  rcases hc with h | h
  · exact Or.inl h
  · right
    have : k = 1 ∨ k = 3 ∨ k = 5 ∨ k = 7 := by omega
    rcases this with rfl | rfl | rfl | rfl <;> omega
theorem RimI.z (Q : Nat → Nat) : RimI false Q 0 := iff_of_false (by decide) (fun ⟨j, hj, _⟩ => absurd hj (Nat.not_lt_zero j))
