/-! ===== numbers given: parts and light parts by their least places ===== -/
def LabN (P : Nat → Nat) (m8 : Bool) (NU DF LF HA : Nat → Int) (n : Nat) : Prop :=
  (∀ y, y < 256 → NU y = if rp P m8 y < n then (if dk P y = true then (cD P m8 (rp P m8 y) : Int) else (cL P m8 (rp P m8 y) : Int)) else -1) ∧
  (∀ R, R < n → isD P m8 R → DF (cD P m8 R) = (R : Int)) ∧
  (∀ R, R < n → isL P m8 R → LF (cL P m8 R) = (R : Int) ∧ (opn P m8 R → HA (cL P m8 R) = -1) ∧ (¬ opn P m8 R → HA (cL P m8 R) = (cH P m8 R : Int)))
section LB
variable {P : Nat → Nat} {m8 : Bool} {NU NU1 DF LF HA : Nat → Int} {n : Nat}
theorem LabN.z (h : ∀ y, y < 256 → NU y = -1) : LabN P m8 NU DF LF HA 0 := ⟨fun y hy => by rw [if_neg (Nat.not_lt_zero _)]; exact h y hy, fun R h => absurd h (Nat.not_lt_zero _), fun R h => absurd h (Nat.not_lt_zero _)⟩
theorem LabN.bd (H : LabN P m8 NU DF LF HA n) {y : Nat} (hy : y < 256) : -1 ≤ NU y ∧ NU y ≤ 1000 := by
  have h1 := cD_le (P := P) (m8 := m8) (n := rp P m8 y) (Nat.le_of_lt (rp_lt hy))
  have h2 := cL_le (P := P) (m8 := m8) (n := rp P m8 y) (Nat.le_of_lt (rp_lt hy))
  rw [H.1 y hy]
  split
  · split <;> omega
  · omega
/-- a place without a number is a least one -/
theorem LabN.rep (H : LabN P m8 NU DF LF HA n) (hn : n < 256) : NU n = -1 ↔ rp P m8 n = n := by
  have hle := rp_self (P := P) (m8 := m8) n
  rw [H.1 n hn]
  constructor
  · intro h
    by_cases q : rp P m8 n < n
    · rw [if_pos q] at h
      split at h <;> omega
    · omega
  · intro h
    rw [if_neg (by omega)]
theorem LabN.free (H : LabN P m8 NU DF LF HA n) (hn : n < 256) (h : NU n = -1) : FreeI P m8 n NU := by
  have hr := (H.rep hn).mp h
  refine ⟨fun y hc => ?_, fun y hy => H.bd hy⟩
  have e : rp P m8 y = n := by rw [← rp_eq hc]; exact hr
  rw [H.1 y (hc.lt hn), if_neg (by omega)]
theorem LabN.skip (H : LabN P m8 NU DF LF HA n) (hn : n < 256) (h : ¬ NU n = -1) : LabN P m8 NU DF LF HA (n + 1) ∧ cD P m8 (n + 1) = cD P m8 n ∧ cL P m8 (n + 1) = cL P m8 n ∧ cH P m8 (n + 1) = cH P m8 n := by
  have hr : ¬ rp P m8 n = n := fun e => h ((H.rep hn).mpr e)
  refine ⟨⟨fun y hy => ?_, fun R hR hd => ?_, fun R hR hd => ?_⟩, ct_cb_no (fun z => hr z.1), ct_cb_no (fun z => hr z.1), ct_cb_no (fun z => hr z.1.1)⟩
  · have : rp P m8 y ≠ n := fun e => hr (by rw [← e]; exact rp_rp y)
    rw [H.1 y hy]
    by_cases q : rp P m8 y < n
    · rw [if_pos q, if_pos (show rp P m8 y < n + 1 by omega)]
    · rw [if_neg q, if_neg (by omega)]
  · have : R ≠ n := fun e => hr (by rw [← e]; exact hd.1)
    exact H.2.1 R (by omega) hd
  · have : R ≠ n := fun e => hr (by rw [← e]; exact hd.1)
    exact H.2.2 R (by omega) hd
theorem flood_lab (H : LabN P m8 NU DF LF HA n) (hn : n < 256) (h : NU n = -1) {num : Nat} (hnum : num = if dk P n = true then cD P m8 n else cL P m8 n) (hf : ∀ y, y < 256 → (Cn P m8 n y → NU1 y = (num : Int)) ∧ (¬ Cn P m8 n y → NU1 y = NU y)) : ∀ y, y < 256 → NU1 y = if rp P m8 y < n + 1 then (if dk P y = true then (cD P m8 (rp P m8 y) : Int) else (cL P m8 (rp P m8 y) : Int)) else -1 := by
  have hr := (H.rep hn).mp h
  intro y hy
  by_cases hc : Cn P m8 n y
  · have e : rp P m8 y = n := by rw [← rp_eq hc]; exact hr
    rw [(hf y hy).1 hc, e, if_pos (by omega), ← hc.dkE, hnum]
    split <;> rfl
  · have : rp P m8 y ≠ n := fun e => hc (rp_iff.mp (by rw [hr, e]))
    rw [(hf y hy).2 hc, H.1 y hy]
    by_cases q : rp P m8 y < n
    · rw [if_pos q, if_pos (show rp P m8 y < n + 1 by omega)]
    · rw [if_neg q, if_neg (by omega)]
theorem LabN.dark (H : LabN P m8 NU DF LF HA n) (hn : n < 256) (h : NU n = -1) (hd : dk P n = true) {num : Nat} (hnum : num = cD P m8 n) (hf : ∀ y, y < 256 → (Cn P m8 n y → NU1 y = (num : Int)) ∧ (¬ Cn P m8 n y → NU1 y = NU y)) : LabN P m8 NU1 (uZ DF num (n : Int)) LF HA (n + 1) ∧ cD P m8 (n + 1) = cD P m8 n + 1 ∧ cL P m8 (n + 1) = cL P m8 n ∧ cH P m8 (n + 1) = cH P m8 n := by
  have hr := (H.rep hn).mp h
  refine ⟨⟨flood_lab H hn h (by rw [hnum, if_pos hd]) hf, fun R hR hD => ?_, fun R hR hL => ?_⟩, ct_cb_yes ⟨hr, hd⟩, ct_cb_no (fun z => by rw [z.2] at hd; cases hd), ct_cb_no (fun z => by rw [z.1.2] at hd; cases hd)⟩
  · by_cases e : R = n
    · subst e; rw [hnum, uZ_s]
    · have : cD P m8 R < cD P m8 n := cD_lt (by omega) hD
      rw [uZ_n _ _ (by omega)]
      exact H.2.1 R (by omega) hD
  · have : R ≠ n := fun e => by rw [e] at hL; rw [hL.2] at hd; cases hd
    exact H.2.2 R (by omega) hL
theorem opn_cn (hr : rp P m8 n = n) : (∃ y, y < 256 ∧ Cn P m8 n y ∧ onrim y) ↔ opn P m8 n := by
  constructor
  · rintro ⟨y, hy, hc, ho⟩
    exact ⟨y, hy, (rp_eq hc).symm, ho⟩
  · rintro ⟨y, hy, hc, ho⟩
    exact ⟨y, hy, rp_iff.mp hc.symm, ho⟩
theorem LabN.light (H : LabN P m8 NU DF LF HA n) (hn : n < 256) (h : NU n = -1) (hd : dk P n = false) {num : Nat} (hnum : num = cL P m8 n) (hf : ∀ y, y < 256 → (Cn P m8 n y → NU1 y = (num : Int)) ∧ (¬ Cn P m8 n y → NU1 y = NU y)) {v : Int} {b : Bool} (hb : cb (∃ y, y < 256 ∧ Cn P m8 n y ∧ onrim y) = b) (hv : v = if b = true then -1 else (cH P m8 n : Int)) : LabN P m8 NU1 DF (uZ LF num (n : Int)) (uZ HA num v) (n + 1) ∧ cD P m8 (n + 1) = cD P m8 n ∧ cL P m8 (n + 1) = cL P m8 n + 1 ∧ cH P m8 (n + 1) = cH P m8 n + bZ (!b) := by
  have hr := (H.rep hn).mp h
  have hop : b = true ↔ opn P m8 n := by rw [← hb, cb_t]; exact opn_cn hr
  refine ⟨⟨flood_lab H hn h (by rw [hnum, if_neg (by rw [hd]; decide)]) hf, fun R hR hD => ?_, fun R hR hL => ?_⟩, ct_cb_no (fun z => by rw [z.2] at hd; cases hd), ct_cb_yes ⟨hr, hd⟩, ?_⟩
  · have : R ≠ n := fun e => by rw [e] at hD; rw [hD.2] at hd; cases hd
    exact H.2.1 R (by omega) hD
  · by_cases e : R = n
    · subst e
      rw [hnum, uZ_s, uZ_s, hv]
      exact ⟨rfl, fun ho => if_pos (hop.mpr ho), fun ho => if_neg (fun z => ho (hop.mp z))⟩
    · have : cL P m8 R < cL P m8 n := cL_lt (by omega) hL
      rw [uZ_n _ _ (by omega), uZ_n _ _ (by omega)]
      exact H.2.2 R (by omega) hL
  · cases b
    · exact ct_cb_yes ⟨⟨hr, hd⟩, fun z => by have := hop.mpr z; cases this⟩
    · exact ct_cb_no (fun z => z.2 (hop.mp rfl))
end LB
/-- all is numbered -/
def Lab (P : Nat → Nat) (m8 : Bool) (NU DF LF HA : Nat → Int) : Prop := LabN P m8 NU DF LF HA 256
