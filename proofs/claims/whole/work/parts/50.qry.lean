section QY
variable {P : Nat → Nat} {m8 : Bool} {FI_ CH_ SO EO RO TW NU PG HG : Nat → Int} {DA : Nat → Bool} {pc hc lc : Nat}
/-- the number at a place, of the colour asked for -/
noncomputable def numA (P : Nat → Nat) (m8 : Bool) (r c : Int) (w : Bool) : Int := if 0 ≤ r ∧ r < 16 ∧ 0 ≤ c ∧ c < 16 then (if dk P (16 * r.toNat + c.toNat) = w then numR P m8 (rp P m8 (16 * r.toNat + c.toNat)) else -1) else -1
theorem numA_out {r c : Int} {w : Bool} (h : ¬ (0 ≤ r ∧ r < 16 ∧ 0 ≤ c ∧ c < 16)) : numA P m8 r c w = -1 := if_neg h
theorem numA_in {r c : Nat} {w : Bool} (h : r < 16) (h2 : c < 16) : numA P m8 (r : Int) (c : Int) w = if dk P (16 * r + c) = w then numR P m8 (rp P m8 (16 * r + c)) else -1 := by
  unfold numA; rw [if_pos (by omega)]; rfl
theorem rp_rix {x : Nat} (hx : x < 256) : rp P m8 (spl P (rix P x)) = rp P m8 x := rp_eq (rix_cn hx)
theorem RunsOK.tw (h : RunsOK P m8 FI_ CH_ SO EO RO DA TW) {x : Nat} (hx : x < 256) : TW (rix P x) = ((rix P (rp P m8 x) : Nat) : Int) := by
  rw [h.2.1 _ (rix_lt hx), rp_rix hx]
theorem RunsOK.da (h : RunsOK P m8 FI_ CH_ SO EO RO DA TW) {x : Nat} (hx : x < 256) : DA (rix P x) = dk P x := by
  rw [(h.1 _ (rix_lt hx)).2.2.2, ← dk_rix hx]
theorem RunsOK.ro (h : RunsOK P m8 FI_ CH_ SO EO RO DA TW) {R : Nat} (hR : R < 256) (hh : rp P m8 R = R) : RO (rix P R) = ((R / 16 : Nat) : Int) ∧ SO (rix P R) = ((R % 16 : Nat) : Int) := by
  have := h.1 _ (rix_lt hR)
  rw [head_rix hR hh] at this
  exact ⟨this.2.2.1, this.1⟩
theorem NuI.pg (h : NuI P m8 256 NU PG HG pc hc lc) {k : Nat} (hk : k < pc) : PG k = ((rix P (selD P m8 k) : Nat) : Int) := by
  rw [h.2.2.2.1] at hk
  obtain ⟨a, b, c⟩ := selD_spec hk
  have := h.2.1 _ a b
  rwa [c] at this
theorem NuI.hg (h : NuI P m8 256 NU PG HG pc hc lc) {k : Nat} (hk : k < hc) : HG k = ((rix P (selH P m8 k) : Nat) : Int) := by
  rw [h.2.2.2.2.1] at hk
  obtain ⟨a, b, c⟩ := selH_spec hk
  have := h.2.2.1 _ a b
  rwa [c] at this
theorem numR_rng {R : Nat} (hR : R < 256) : -1 ≤ numR P m8 R ∧ numR P m8 R ≤ 128 := by
  have a := cD_le (P := P) (m8 := m8) (n := R) (by omega)
  have b := cH_le (P := P) (m8 := m8) (n := R) (by omega)
  unfold numR
  split
  · omega
  · split <;> omega
theorem numA_rng (r c : Int) (w : Bool) : -1 ≤ numA P m8 r c w ∧ numA P m8 r c w ≤ 128 := by
  unfold numA
  split
  · split
    · exact numR_rng (rp_lt (by omega))
    · omega
  · omega
theorem numA_D {x : Nat} (hx : x < 256) : numA P m8 ((x / 16 : Nat) : Int) ((x % 16 : Nat) : Int) true = if dk P x = true then ((cD P m8 (rp P m8 x) : Nat) : Int) else -1 := by
  rw [numA_in (by omega) (by omega), show 16 * (x / 16) + x % 16 = x by omega]
  by_cases q : dk P x = true
  · rw [if_pos q, if_pos q]; unfold numR; rw [if_pos (by rw [rp_dk]; exact q)]
  · rw [if_neg q, if_neg q]
theorem numA_H {x : Nat} (hx : x < 256) : numA P m8 ((x / 16 : Nat) : Int) ((x % 16 : Nat) : Int) false = if dk P x = true then -1 else if cb (opn P m8 x) = true then -1 else ((cH P m8 (rp P m8 x) : Nat) : Int) := by
  rw [numA_in (by omega) (by omega), show 16 * (x / 16) + x % 16 = x by omega]
  by_cases q : dk P x = true
  · rw [if_pos q, if_neg (by rw [q]; decide)]
  · have q2 : dk P x = false := by cases e : dk P x; rfl; exact absurd e q
    rw [if_neg q, if_pos q2]
    unfold numR
    rw [if_neg (by rw [rp_dk]; exact q)]
    have : cb (opn P m8 (rp P m8 x)) = cb (opn P m8 x) := by
      by_cases z : opn P m8 x
      · rw [cb_t.mpr z, cb_t.mpr ((opn_rp x).mpr z)]
      · rw [cb_f.mpr z, cb_f.mpr (fun y => z ((opn_rp x).mp y))]
    rw [this]
theorem numA_lie {R : Nat} (hR : R < 256) (h : isD P m8 R) : numA P m8 (((R / 16 : Nat) : Int) - 1) ((R % 16 : Nat) : Int) false = lieR P m8 R := by
  unfold lieR
  by_cases q : R < 16
  · rw [if_pos q, numA_out (by omega)]
  · have e := numA_H (P := P) (m8 := m8) (x := R - 16) (by omega)
    rw [if_neg q, show ((R / 16 : Nat) : Int) - 1 = (((R - 16) / 16 : Nat) : Int) by omega, show R % 16 = (R - 16) % 16 by omega, e, if_neg (by rw [above hR (by omega) h.1, h.2]; decide)]
theorem numA_ab {R : Nat} (hR : R < 256) (h : isH P m8 R) : numA P m8 (((R / 16 : Nat) : Int) - 1) ((R % 16 : Nat) : Int) true = ((cD P m8 (rp P m8 (R - 16)) : Nat) : Int) := by
  have q := isH_16 hR h
  have e := numA_D (P := P) (m8 := m8) (x := R - 16) (by omega)
  rw [show ((R / 16 : Nat) : Int) - 1 = (((R - 16) / 16 : Nat) : Int) by omega, show R % 16 = (R - 16) % 16 by omega, e, if_pos (by rw [above hR (by omega) h.1.1, h.1.2]; rfl)]
end QY
