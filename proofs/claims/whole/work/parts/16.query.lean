/-! ===== parts, light parts, holes by their numbers ===== -/
noncomputable def selD (P : Nat → Nat) (m8 : Bool) (k : Nat) : Nat := @dite _ (k < cD P m8 256) (Classical.propDecidable _) (fun h => Classical.choose (cD_kth h)) (fun _ => 0)
noncomputable def selH (P : Nat → Nat) (m8 : Bool) (k : Nat) : Nat := @dite _ (k < cH P m8 256) (Classical.propDecidable _) (fun h => Classical.choose (cH_kth h)) (fun _ => 0)
/-- the hole a part lies in -/
noncomputable def lieR (P : Nat → Nat) (m8 : Bool) (R : Nat) : Int := if R < 16 then -1 else if cb (opn P m8 (R - 16)) then -1 else (cH P m8 (rp P m8 (R - 16)) : Int)
noncomputable def szR (P : Nat → Nat) (m8 : Bool) (R : Nat) : Nat := fb_ct (fun x => cb (rp P m8 x = R)) 256
noncomputable def rimR (P : Nat → Nat) (m8 : Bool) (R : Nat) : Nat := fb_sm (fun x => if cb (rp P m8 x = R) then sdN P x else 0) 256
noncomputable def edN (P : Nat → Nat) (m8 : Bool) (col gr : Bool) (R : Nat) : Nat → Int
  | 0 => if gr then -1 else 16
  | n + 1 => if cb (rp P m8 n = R) && (if gr then decide (edN P m8 col gr R n < (if col then (n : Int) % 16 else (n : Int) / 16)) else decide ((if col then (n : Int) % 16 else (n : Int) / 16) < edN P m8 col gr R n)) then (if col then (n : Int) % 16 else (n : Int) / 16) else edN P m8 col gr R n
noncomputable def dpN (P : Nat → Nat) (m8 : Bool) : Nat → Nat → Nat
  | 0, _ => 0
  | n + 1, R => if lieR P m8 R = -1 then 0 else dpN P m8 n (rp P m8 (rp P m8 (R - 16) - 16)) + 1
noncomputable def deepR (P : Nat → Nat) (m8 : Bool) (R : Nat) : Nat := dpN P m8 256 R
noncomputable def hoN (P : Nat → Nat) (m8 : Bool) (p : Nat) (n : Nat) : Nat := fb_ct (fun k => cb (cD P m8 (rp P m8 (selH P m8 k - 16)) = p)) n
noncomputable def inN (P : Nat → Nat) (m8 : Bool) (h : Nat) (n : Nat) : Nat := fb_ct (fun k => cb (lieR P m8 (selD P m8 k) = (h : Int))) n
noncomputable def lgM (P : Nat → Nat) (m8 : Bool) : Nat → Nat
  | 0 => 0
  | n + 1 => if lgM P m8 n < szR P m8 (selD P m8 n) then szR P m8 (selD P m8 n) else lgM P m8 n
noncomputable def lgB (P : Nat → Nat) (m8 : Bool) : Nat → Int
  | 0 => -1
  | n + 1 => if lgM P m8 n < szR P m8 (selD P m8 n) then (n : Int) else lgB P m8 n
noncomputable def smN (P : Nat → Nat) (m8 : Bool) (v : Int) (n : Nat) : Nat := fb_ct (fun k => decide ((szR P m8 (selD P m8 k) : Int) ≤ v)) n
noncomputable def mxD (P : Nat → Nat) (m8 : Bool) : Nat → Int
  | 0 => -1
  | n + 1 => max (mxD P m8 n) (deepR P m8 (selD P m8 n) : Int)
section QU
variable {P : Nat → Nat} {m8 : Bool}
theorem selD_spec {k : Nat} (h : k < cD P m8 256) : selD P m8 k < 256 ∧ isD P m8 (selD P m8 k) ∧ cD P m8 (selD P m8 k) = k := by
  have e : selD P m8 k = Classical.choose (cD_kth h) := by unfold selD; rw [dif_pos h]
  rw [e]
  exact Classical.choose_spec (cD_kth h)
theorem selH_spec {k : Nat} (h : k < cH P m8 256) : selH P m8 k < 256 ∧ isH P m8 (selH P m8 k) ∧ cH P m8 (selH P m8 k) = k := by
  have e : selH P m8 k = Classical.choose (cH_kth h) := by unfold selH; rw [dif_pos h]
  rw [e]
  exact Classical.choose_spec (cH_kth h)
theorem selD_cD {R : Nat} (hR : R < 256) (h : isD P m8 R) : selD P m8 (cD P m8 R) = R := by
  obtain ⟨a, b, c⟩ := selD_spec (P := P) (m8 := m8) (k := cD P m8 R) (cD_lt hR h)
  exact cD_inj b h c
theorem selH_cH {R : Nat} (hR : R < 256) (h : isH P m8 R) : selH P m8 (cH P m8 R) = R := by
  obtain ⟨a, b, c⟩ := selH_spec (P := P) (m8 := m8) (k := cH P m8 R) (cH_lt hR h)
  exact cH_inj b h c
theorem opn_rp (x : Nat) : opn P m8 (rp P m8 x) ↔ opn P m8 x := by unfold opn; rw [rp_rp]
/-- straight above a least place there is the other colour -/
theorem above {R : Nat} (hR : R < 256) (h16 : 16 ≤ R) (h : rp P m8 R = R) : dk P (R - 16) = !dk P R := by
  cases hd : dk P R <;> cases hu : dk P (R - 16)
  · have := rp_le (P := P) (m8 := m8) (Cn.adj (show Adj P m8 R (R - 16) from ⟨hR, by omega, by rw [hd, hu], nb_iff.mpr ⟨⟨by omega, by omega, by omega, by omega⟩, Or.inr (Or.inr (by omega))⟩⟩))
    omega
  · rfl
  · rfl
  · have := rp_le (P := P) (m8 := m8) (Cn.adj (show Adj P m8 R (R - 16) from ⟨hR, by omega, by rw [hd, hu], nb_iff.mpr ⟨⟨by omega, by omega, by omega, by omega⟩, Or.inr (Or.inr (by omega))⟩⟩))
    omega
theorem isH_16 {x : Nat} (hx : x < 256) (h : isH P m8 x) : 16 ≤ x := by
  refine Nat.le_of_not_lt fun q => h.2 ⟨x, hx, rfl, Or.inl (by omega)⟩
theorem isD_rp {x : Nat} (h : dk P x = true) : isD P m8 (rp P m8 x) := ⟨rp_rp x, by rw [rp_dk]; exact h⟩
theorem isL_rp {x : Nat} (h : dk P x = false) : isL P m8 (rp P m8 x) := ⟨rp_rp x, by rw [rp_dk]; exact h⟩
theorem isH_rp {x : Nat} (h : dk P x = false) (ho : ¬ opn P m8 x) : isH P m8 (rp P m8 x) := ⟨isL_rp h, fun z => ho ((opn_rp x).mp z)⟩
/-- the part that a hole is of -/
theorem isD_above {x : Nat} (hx : x < 256) (h : isH P m8 x) : isD P m8 (rp P m8 (x - 16)) ∧ rp P m8 (x - 16) < 256 := by
  have h16 := isH_16 hx h
  exact ⟨isD_rp (by rw [above hx h16 h.1.1, h.1.2]; rfl), rp_lt (by omega)⟩
theorem lieR_hole {R : Nat} (hR : R < 256) (h : isD P m8 R) (hl : ¬ lieR P m8 R = -1) : 16 ≤ R ∧ isH P m8 (rp P m8 (R - 16)) ∧ rp P m8 (R - 16) < 256 ∧ lieR P m8 R = (cH P m8 (rp P m8 (R - 16)) : Int) := by
  unfold lieR at *
  by_cases h16 : R < 16
  · rw [if_pos h16] at hl; exact absurd rfl hl
  · rw [if_neg h16] at hl ⊢
    by_cases ho : opn P m8 (R - 16)
    · rw [if_pos (cb_t.mpr ho)] at hl; exact absurd rfl hl
    · rw [if_neg (fun z => ho (cb_t.mp z))]
      exact ⟨by omega, isH_rp (by rw [above hR (by omega) h.1, h.2]; rfl) ho, rp_lt (by omega), rfl⟩
theorem lieR_rng {R : Nat} (hR : R < 256) : -1 ≤ lieR P m8 R ∧ lieR P m8 R ≤ 128 := by
  have := cH_le (P := P) (m8 := m8) (n := rp P m8 (R - 16)) (Nat.le_of_lt (rp_lt (by omega)))
  unfold lieR
  split
  · omega
  · split <;> omega
theorem dpN_fuel : ∀ (n m R : Nat), R < n → R < m → R < 256 → isD P m8 R → dpN P m8 n R = dpN P m8 m R
  | 0, _, _, h, _, _, _ => absurd h (Nat.not_lt_zero _)
  | _ + 1, 0, _, _, h, _, _ => absurd h (Nat.not_lt_zero _)
  | n + 1, m + 1, R, h1, h2, hR, hD => by
    unfold dpN
    by_cases hl : lieR P m8 R = -1
    · rw [if_pos hl, if_pos hl]
    · rw [if_neg hl, if_neg hl]
      obtain ⟨a, b, c, d⟩ := lieR_hole hR hD hl
      have e := isH_16 c b
      have f := rp_self (P := P) (m8 := m8) (R - 16)
      have g := rp_self (P := P) (m8 := m8) (rp P m8 (R - 16) - 16)
      have := isD_above c b
      rw [dpN_fuel n m _ (by omega) (by omega) this.2 this.1]
theorem deepR_step {R : Nat} (hR : R < 256) (hD : isD P m8 R) : deepR P m8 R = if lieR P m8 R = -1 then 0 else deepR P m8 (rp P m8 (rp P m8 (R - 16) - 16)) + 1 := by
  unfold deepR
  rw [show (256 : Nat) = 255 + 1 from rfl, dpN]
  by_cases hl : lieR P m8 R = -1
  · rw [if_pos hl, if_pos hl]
  · rw [if_neg hl, if_neg hl]
    obtain ⟨a, b, c, d⟩ := lieR_hole hR hD hl
    have e := isH_16 c b
    have f := rp_self (P := P) (m8 := m8) (R - 16)
    have g := rp_self (P := P) (m8 := m8) (rp P m8 (R - 16) - 16)
    have := isD_above c b
    rw [dpN_fuel 255 (255 + 1) _ (by omega) (by omega) this.2 this.1]
theorem dpN_le : ∀ n R, dpN P m8 n R ≤ n
  | 0, _ => Nat.le_refl _
  | n + 1, R => by
    unfold dpN
    split
    · omega
    · have := dpN_le n (rp P m8 (rp P m8 (R - 16) - 16)); omega
theorem szR_le (R : Nat) : szR P m8 R ≤ 256 := fb_ct_le _ _
theorem bZ_cb {p : Prop} {b : Bool} (h : b = true ↔ p) : bZ b = if cb p = true then 1 else 0 := by
  have : b = cb p := b_ext' (by rw [h, cb_t])
  rw [this]; rfl
end QU
/-! ===== what the reference's rows answer ===== -/
section QL
variable {P : Nat → Nat} {m8 : Bool} {NU DF LF HA : Nat → Int}
theorem Lab.num (h : Lab P m8 NU DF LF HA) {y : Nat} (hy : y < 256) : NU y = if dk P y = true then (cD P m8 (rp P m8 y) : Int) else (cL P m8 (rp P m8 y) : Int) := by
  rw [h.1 y hy, if_pos (rp_lt hy)]
theorem Lab.numD (h : Lab P m8 NU DF LF HA) {y : Nat} (hy : y < 256) (hd : dk P y = true) : NU y = (cD P m8 (rp P m8 y) : Int) := by rw [h.num hy, if_pos hd]
theorem Lab.numL (h : Lab P m8 NU DF LF HA) {y : Nat} (hy : y < 256) (hd : dk P y = false) : NU y = (cL P m8 (rp P m8 y) : Int) := by rw [h.num hy, if_neg (by rw [hd]; decide)]
theorem Lab.bd (h : Lab P m8 NU DF LF HA) {y : Nat} (hy : y < 256) : -1 ≤ NU y ∧ NU y ≤ 1000 := LabN.bd h hy
theorem Lab.of (h : Lab P m8 NU DF LF HA) {x R : Nat} {cl : Bool} {num : Nat} (hx : x < 256) (hR : R < 256) (hr : rp P m8 R = R) (hc : dk P R = cl) (hn : num = if cl then cD P m8 R else cL P m8 R) : (dk P x = cl ∧ NU x = (num : Int)) ↔ rp P m8 x = R := by
  constructor
  · rintro ⟨h1, h2⟩
    rw [h.num hx, h1, hn] at h2
    cases cl
    · simp only [Bool.false_eq_true, if_false] at h2
      exact cL_inj (isL_rp h1) ⟨hr, hc⟩ (by omega)
    · simp only [if_true] at h2
      exact cD_inj (isD_rp h1) ⟨hr, hc⟩ (by omega)
  · intro e
    have h1 : dk P x = cl := by rw [← hc, ← e, rp_dk]
    refine ⟨h1, ?_⟩
    rw [h.num hx, h1, hn, e]
    cases cl <;> rfl
theorem Lab.ha (h : Lab P m8 NU DF LF HA) {j : Nat} (hj : j < cL P m8 256) : -1 ≤ HA j ∧ HA j ≤ 128 := by
  obtain ⟨x, hx, hl, rfl⟩ := cL_kth hj
  have := h.2.2 x hx hl
  have b := cH_le (P := P) (m8 := m8) (n := x) (by omega)
  by_cases ho : opn P m8 x
  · rw [this.2.1 ho]; omega
  · rw [this.2.2 ho]; omega
theorem Lab.hole (h : Lab P m8 NU DF LF HA) {H j : Nat} (hH : H < 256) (hh : isH P m8 H) (hj : j ≤ cL P m8 H) (e : HA j = (cH P m8 H : Int)) : j = cL P m8 H := by
  have h1 : j < cL P m8 256 := Nat.lt_of_le_of_lt hj (cL_lt hH hh.1)
  obtain ⟨x, hx, hl, rfl⟩ := cL_kth h1
  have := h.2.2 x hx hl
  by_cases ho : opn P m8 x
  · rw [this.2.1 ho] at e; omega
  · rw [this.2.2 ho] at e
    have : x = H := cH_inj ⟨hl, ho⟩ hh (by omega)
    rw [this]
theorem Lab.haH (h : Lab P m8 NU DF LF HA) {H : Nat} (hH : H < 256) (hh : isH P m8 H) : HA (cL P m8 H) = (cH P m8 H : Int) := (h.2.2 H hH hh.1).2.2 hh.2
theorem Lab.lie (h : Lab P m8 NU DF LF HA) {R : Nat} (hR : R < 256) (hD : isD P m8 R) (h16 : 16 ≤ R) : NU (R - 16) = (cL P m8 (rp P m8 (R - 16)) : Int) ∧ cL P m8 (rp P m8 (R - 16)) < 128 ∧ HA (cL P m8 (rp P m8 (R - 16))) = lieR P m8 R := by
  have hd : dk P (R - 16) = false := by rw [above hR h16 hD.1, hD.2]; rfl
  have hx : rp P m8 (R - 16) < 256 := rp_lt (by omega)
  refine ⟨h.numL (by omega) hd, Nat.lt_of_lt_of_le (cL_lt hx (isL_rp hd)) cL_128, ?_⟩
  have := h.2.2 _ hx (isL_rp hd)
  unfold lieR
  rw [if_neg (by omega)]
  by_cases ho : opn P m8 (R - 16)
  · rw [if_pos (cb_t.mpr ho)]; exact this.2.1 ((opn_rp _).mpr ho)
  · rw [if_neg (fun z => ho (cb_t.mp z))]; exact this.2.2 (fun z => ho ((opn_rp _).mp z))
theorem Lab.df (h : Lab P m8 NU DF LF HA) {R : Nat} (hR : R < 256) (hD : isD P m8 R) : DF (cD P m8 R) = (R : Int) := h.2.1 R hR hD
theorem Lab.lf (h : Lab P m8 NU DF LF HA) {R : Nat} (hR : R < 256) (hD : isL P m8 R) : LF (cL P m8 R) = (R : Int) := (h.2.2 R hR hD).1
end QL
