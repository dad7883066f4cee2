/-! ===== runs: where they begin, their numbers ===== -/
def stt (P : Nat → Nat) (x : Nat) : Bool := decide (x % 16 = 0) || !(dk P x == dk P (x - 1))
def sR (P : Nat → Nat) (n : Nat) : Nat := fb_ct (stt P) n
def rix (P : Nat → Nat) (x : Nat) : Nat := sR P (x + 1) - 1
section RU
variable {P : Nat → Nat}
theorem stt_row {x : Nat} (h : x % 16 = 0) : stt P x = true := by unfold stt; rw [decide_eq_true h]; rfl
theorem stt_f {x : Nat} (h : stt P x = false) : ¬ x % 16 = 0 ∧ dk P x = dk P (x - 1) := by
  unfold stt at h
  rw [Bool.or_eq_false_iff] at h
  exact ⟨of_decide_eq_false h.1, by simpa using h.2⟩
theorem stt_t {x : Nat} (h : stt P x = true) (h0 : ¬ x % 16 = 0) : ¬ dk P x = dk P (x - 1) := by
  unfold stt at h
  rw [decide_eq_false h0, Bool.false_or] at h
  simpa using h
theorem stt_no {x : Nat} (h0 : ¬ x % 16 = 0) (h : dk P x = dk P (x - 1)) : stt P x = false := by
  unfold stt
  rw [decide_eq_false h0, h]
  simp
theorem sR_succ (x : Nat) : sR P (x + 1) = sR P x + (if stt P x = true then 1 else 0) := rfl
theorem sR_mono {x y : Nat} (h : x ≤ y) : sR P x ≤ sR P y := fb_ct_mono _ h
theorem sR_lt {x y : Nat} (h : x < y) (hx : stt P x = true) : sR P x < sR P y := ct_lt h hx
theorem sR_pos (x : Nat) : 0 < sR P (x + 1) := fb_ct_pos.mpr ⟨0, by omega, stt_row rfl⟩
theorem sR_le (n : Nat) : sR P n ≤ n := fb_ct_le _ _
theorem rix_start {x : Nat} (h : stt P x = true) : rix P x = sR P x := by unfold rix; rw [sR_succ, if_pos h]; omega
theorem rix_step {x : Nat} (h : stt P (x + 1) = false) : rix P (x + 1) = rix P x := by unfold rix; rw [sR_succ (x + 1), if_neg (by rw [h]; decide)]; rfl
theorem rix_mono {x y : Nat} (h : x ≤ y) : rix P x ≤ rix P y := by
  have := sR_mono (P := P) (show x + 1 ≤ y + 1 by omega)
  unfold rix
  omega
theorem rix_lt {x : Nat} (hx : x < 256) : rix P x < sR P 256 := by
  have a := sR_mono (P := P) (show x + 1 ≤ 256 by omega)
  have b := sR_pos (P := P) x
  unfold rix
  omega
theorem rix_256 {x : Nat} (hx : x < 256) : rix P x < 256 := Nat.lt_of_lt_of_le (rix_lt hx) (sR_le 256)
noncomputable def spl (P : Nat → Nat) (i : Nat) : Nat := @dite _ (i < sR P 256) (Classical.propDecidable _) (fun h => Classical.choose (fb_ct_kth h)) (fun _ => 0)
theorem spl_spec {i : Nat} (h : i < sR P 256) : spl P i < 256 ∧ stt P (spl P i) = true ∧ sR P (spl P i) = i := by
  have e : spl P i = Classical.choose (fb_ct_kth (p := stt P) h) := by unfold spl; rw [dif_pos h]
  rw [e]
  exact Classical.choose_spec (fb_ct_kth (p := stt P) h)
theorem spl_of {x : Nat} (hx : x < 256) (h : stt P x = true) : spl P (sR P x) = x := by
  obtain ⟨a, b, c⟩ := spl_spec (P := P) (i := sR P x) (sR_lt hx h)
  exact ct_inj b h c
theorem spl_rix {i : Nat} (h : i < sR P 256) : rix P (spl P i) = i := by
  obtain ⟨a, b, c⟩ := spl_spec h
  rw [rix_start b, c]
theorem spl_lt {i j : Nat} (h : i < j) (hj : j < sR P 256) : spl P i < spl P j := by
  obtain ⟨a, b, c⟩ := spl_spec (P := P) (i := i) (by omega)
  obtain ⟨a2, b2, c2⟩ := spl_spec hj
  refine Nat.lt_of_not_le fun q => ?_
  have := sR_mono (P := P) q
  omega
/-- where a run ends -/
noncomputable def epl (P : Nat → Nat) (i : Nat) : Nat := if i + 1 < sR P 256 then spl P (i + 1) - 1 else 255
theorem epl_ge {i : Nat} (h : i < sR P 256) : spl P i ≤ epl P i ∧ epl P i < 256 := by
  obtain ⟨a, b, c⟩ := spl_spec h
  unfold epl
  by_cases q : i + 1 < sR P 256
  · have := spl_lt (show i < i + 1 by omega) q
    have := (spl_spec q).1
    rw [if_pos q]; omega
  · rw [if_neg q]; omega
theorem epl_lt {i j : Nat} (h : i < j) (hj : j < sR P 256) : epl P i < spl P j := by
  have q : i + 1 < sR P 256 := by omega
  have a := spl_lt (P := P) (show i < i + 1 by omega) q
  have b : spl P (i + 1) ≤ spl P j := by
    rcases Nat.lt_or_ge (i + 1) j with z | z
    · exact Nat.le_of_lt (spl_lt z hj)
    · rw [show i + 1 = j by omega]; exact Nat.le_refl _
  unfold epl
  rw [if_pos q]
  omega
/-- a run is the places that bear its number -/
theorem rix_iff {p i : Nat} (hp : p < 256) (hi : i < sR P 256) : rix P p = i ↔ spl P i ≤ p ∧ p ≤ epl P i := by
  constructor
  · rintro rfl
    refine ⟨Nat.le_of_not_lt fun q => ?_, Nat.le_of_not_lt fun q => ?_⟩
    · obtain ⟨a, b, c⟩ := spl_spec hi
      have := sR_mono (P := P) (show p + 1 ≤ spl P (rix P p) from q)
      have := sR_pos (P := P) p
      unfold rix at *
      omega
    · unfold epl at q
      by_cases z : rix P p + 1 < sR P 256
      · rw [if_pos z] at q
        obtain ⟨a, b, c⟩ := spl_spec z
        have := sR_lt (P := P) (show spl P (rix P p + 1) < p + 1 by omega) b
        have := sR_pos (P := P) p
        unfold rix at *
        omega
      · rw [if_neg z] at q; omega
  · rintro ⟨h1, h2⟩
    have a := rix_mono (P := P) h1
    rw [spl_rix hi] at a
    refine Nat.le_antisymm (Nat.le_of_not_lt fun q => ?_) a
    have z : i + 1 < sR P 256 := by have := rix_lt (P := P) hp; omega
    unfold epl at h2
    rw [if_pos z] at h2
    obtain ⟨u, v, w⟩ := spl_spec z
    have := sR_mono (P := P) (show p + 1 ≤ spl P (i + 1) by have := spl_lt (P := P) (show i < i + 1 by omega) z; omega)
    have := sR_pos (P := P) p
    unfold rix at q
    omega
theorem rix_mem {p : Nat} (hp : p < 256) : spl P (rix P p) ≤ p ∧ p ≤ epl P (rix P p) := (rix_iff hp (rix_lt hp)).mp rfl
/-- no run begins inside a run -/
theorem stt_in {i z : Nat} (hi : i < sR P 256) (h1 : spl P i < z) (h2 : z ≤ epl P i) : stt P z = false := by
  have hz : z < 256 := by have := (epl_ge hi).2; omega
  cases h : stt P z with
  | false => rfl
  | true =>
    have e := (rix_iff hz hi).mpr ⟨Nat.le_of_lt h1, h2⟩
    rw [rix_start h] at e
    have := spl_of hz h
    rw [e] at this
    omega
theorem run_row {i : Nat} (hi : i < sR P 256) : epl P i / 16 = spl P i / 16 := by
  have a := epl_ge hi
  refine Nat.le_antisymm (Nat.le_of_not_lt fun q => ?_) (Nat.div_le_div_right a.1)
  have := stt_in (P := P) (z := 16 * (spl P i / 16 + 1)) hi (by omega) (by omega)
  rw [stt_row (by omega)] at this
  cases this
theorem run_dk {i : Nat} (hi : i < sR P 256) : ∀ k, spl P i + k ≤ epl P i → dk P (spl P i + k) = dk P (spl P i)
  | 0, _ => rfl
  | k + 1, h => by
    have a := stt_f (stt_in (P := P) (z := spl P i + (k + 1)) hi (by omega) h)
    rw [a.2, show spl P i + (k + 1) - 1 = spl P i + k by omega]
    exact run_dk hi k (by omega)
theorem dk_rix {p : Nat} (hp : p < 256) : dk P p = dk P (spl P (rix P p)) := by
  obtain ⟨a, b⟩ := rix_mem (P := P) hp
  have := run_dk (P := P) (i := rix P p) (rix_lt hp) (p - spl P (rix P p)) (by omega)
  rwa [show spl P (rix P p) + (p - spl P (rix P p)) = p by omega] at this
/-- the next run of a row is of the other colour -/
theorem next_run {i : Nat} (hi : i + 1 < sR P 256) (hr : spl P (i + 1) / 16 = spl P i / 16) : spl P (i + 1) = epl P i + 1 ∧ ¬ dk P (spl P (i + 1)) = dk P (spl P i) := by
  have e : epl P i = spl P (i + 1) - 1 := by unfold epl; rw [if_pos hi]
  have lt := spl_lt (P := P) (show i < i + 1 by omega) hi
  obtain ⟨a, b, c⟩ := spl_spec hi
  refine ⟨by omega, fun h => stt_t b (by omega) ?_⟩
  rw [h]
  have := run_dk (P := P) (i := i) (by omega) (epl P i - spl P i) (by have := epl_ge (P := P) (i := i) (by omega); omega)
  have g := epl_ge (P := P) (i := i) (by omega)
  rw [show spl P i + (epl P i - spl P i) = epl P i by omega] at this
  rw [← e, this]
/-- runs of one colour in a row are apart -/
theorem runs_apart {i j : Nat} (h : i < j) (hj : j < sR P 256) (hr : spl P j / 16 = spl P i / 16) (hd : dk P (spl P i) = dk P (spl P j)) : epl P i + 2 ≤ spl P j := by
  have a := epl_lt (P := P) h hj
  refine Nat.le_of_not_lt fun q => ?_
  obtain ⟨u, v, w⟩ := spl_spec hj
  have g := epl_ge (P := P) (i := i) (by omega)
  refine stt_t v (by omega) ?_
  rw [show spl P j - 1 = epl P i by omega, ← hd]
  have := run_dk (P := P) (i := i) (by omega) (epl P i - spl P i) (by omega)
  rw [show spl P i + (epl P i - spl P i) = epl P i by omega] at this
  exact this.symm
theorem row_iff {i r : Nat} (hi : i < sR P 256) : (sR P (16 * r) ≤ i ∧ i < sR P (16 * (r + 1))) ↔ spl P i / 16 = r := by
  obtain ⟨a, b, c⟩ := spl_spec hi
  constructor
  · rintro ⟨h1, h2⟩
    have x1 : 16 * r ≤ spl P i := Nat.le_of_not_lt fun q => by have := sR_lt (P := P) q b; omega
    have x2 : spl P i < 16 * (r + 1) := Nat.lt_of_not_le fun q => by have := sR_mono (P := P) q; omega
    omega
  · intro h
    have x1 := sR_mono (P := P) (show 16 * r ≤ spl P i by omega)
    have x2 := sR_lt (P := P) (show spl P i < 16 * (r + 1) by omega) b
    omega
theorem sR_row {r : Nat} (hr : r < 16) : sR P (16 * r) < sR P (16 * (r + 1)) := sR_lt (by omega) (stt_row (by omega))
theorem spl_first {r : Nat} (hr : r < 16) : spl P (sR P (16 * r)) = 16 * r := spl_of (by omega) (stt_row (by omega))
/-! ===== runs and what is joined ===== -/
variable {m8 : Bool}
theorem adj_run {p q : Nat} (h : Adj P m8 p q) (hr : p / 16 = q / 16) : rix P p = rix P q := by
  obtain ⟨a, b, ⟨c1, c2, c3, c4⟩, -⟩ := adj_bd h
  have hd := h.2.2.1
  rcases Nat.lt_trichotomy p q with z | z | z
  · have e : q = p + 1 := by omega
    subst e
    exact (rix_step (stt_no (by omega) (by rw [show p + 1 - 1 = p by omega]; exact hd.symm))).symm
  · rw [z]
  · have e : p = q + 1 := by omega
    subst e
    exact rix_step (stt_no (by omega) (by rw [show q + 1 - 1 = q by omega]; exact hd))
theorem run_cn {i : Nat} (hi : i < sR P 256) : ∀ k, spl P i + k ≤ epl P i → Cn P m8 (spl P i) (spl P i + k)
  | 0, _ => Cn.rf _
  | k + 1, h => by
    have g := epl_ge hi
    have rr := run_row hi
    refine (run_cn hi k (by omega)).tr (Cn.adj ⟨by omega, by omega, ?_, nb_iff.mpr ⟨⟨by omega, by omega, by omega, by omega⟩, Or.inr (Or.inl (by omega))⟩⟩)
    rw [run_dk hi k (by omega), run_dk hi (k + 1) h]
theorem rix_cn {p : Nat} (hp : p < 256) : Cn P m8 (spl P (rix P p)) p := by
  obtain ⟨a, b⟩ := rix_mem (P := P) hp
  have := run_cn (P := P) (i := rix P p) (m8 := m8) (rix_lt hp) (p - spl P (rix P p)) (by omega)
  rwa [show spl P (rix P p) + (p - spl P (rix P p)) = p by omega] at this
/-- two runs, one above the other, by columns -/
def ovl (P : Nat → Nat) (rc i j : Nat) : Prop := spl P i % 16 ≤ epl P j % 16 + rc ∧ spl P j % 16 ≤ epl P i % 16 + rc
theorem ovl_adj {p q : Nat} (h : Adj P m8 p q) (hr : q / 16 = p / 16 + 1) : ovl P (bZ (dk P p == m8)) (rix P p) (rix P q) := by
  obtain ⟨a, b, ⟨c1, c2, c3, c4⟩, d⟩ := adj_bd h
  obtain ⟨p1, p2⟩ := rix_mem (P := P) a
  obtain ⟨q1, q2⟩ := rix_mem (P := P) b
  have rp' := run_row (P := P) (rix_lt a)
  have rq' := run_row (P := P) (rix_lt b)
  unfold ovl
  rcases d with d | d | d
  · rw [d, bZ_t]; omega
  · omega
  · omega
theorem ovl_cn {i j : Nat} (hi : i < sR P 256) (hj : j < sR P 256) (hr : spl P j / 16 = spl P i / 16 + 1) (hd : dk P (spl P i) = dk P (spl P j)) (h : ovl P (bZ (dk P (spl P i) == m8)) i j) : Cn P m8 (spl P i) (spl P j) := by
  have gi := epl_ge hi
  have gj := epl_ge hj
  have ri := run_row hi
  have rj := run_row hj
  have hb := bZ_le (dk P (spl P i) == m8)
  obtain ⟨h1, h2⟩ := h
  have key : ∀ p q, spl P i ≤ p → p ≤ epl P i → spl P j ≤ q → q ≤ epl P j → p % 16 ≤ q % 16 + bZ (dk P (spl P i) == m8) → q % 16 ≤ p % 16 + bZ (dk P (spl P i) == m8) → Cn P m8 (spl P i) (spl P j) := by
    intro p q a1 a2 b1 b2 c1 c2
    have dp := run_dk hi (p - spl P i) (by omega)
    have dq := run_dk hj (q - spl P j) (by omega)
    have cp := run_cn (m8 := m8) hi (p - spl P i) (by omega)
    have cq := run_cn (m8 := m8) hj (q - spl P j) (by omega)
    rw [show spl P i + (p - spl P i) = p by omega] at dp cp
    rw [show spl P j + (q - spl P j) = q by omega] at dq cq
    refine cp.tr (Cn.tr (Cn.adj ⟨by omega, by omega, by rw [dp, dq, hd], ?_⟩) cq.sy)
    rw [dp]
    refine nb_iff.mpr ⟨⟨by omega, by omega, by omega, by omega⟩, ?_⟩
    cases hc : (dk P (spl P i) == m8)
    · rw [hc, bZ_f] at c1 c2
      exact Or.inr (Or.inr (by omega))
    · exact Or.inl rfl
  rcases Nat.le_total (spl P i % 16) (spl P j % 16) with z | z
  · rcases Nat.le_total (epl P i % 16) (spl P j % 16) with y | y
    · exact key (epl P i) (spl P j) gi.1 (Nat.le_refl _) (Nat.le_refl _) gj.1 (by omega) (by omega)
    · exact key (spl P j - 16) (spl P j) (by omega) (by omega) (Nat.le_refl _) gj.1 (by omega) (by omega)
  · rcases Nat.le_total (epl P j % 16) (spl P i % 16) with y | y
    · exact key (spl P i) (epl P j) (Nat.le_refl _) gi.1 gj.1 (Nat.le_refl _) (by omega) (by omega)
    · exact key (spl P i) (spl P i + 16) (Nat.le_refl _) gi.1 (by omega) (by omega) (by omega) (by omega)
end RU
/-! ===== the least known of a group ===== -/
def rtN (T : Nat → Nat) : Nat → Nat → Nat
  | 0, i => i
  | n + 1, i => if T i < i then rtN T n (T i) else i
def root (T : Nat → Nat) (i : Nat) : Nat := rtN T i i
section RO
variable {T : Nat → Nat}
theorem rtN_fuel : ∀ (n k i : Nat), i ≤ n → i ≤ k → rtN T n i = rtN T k i
  | 0, 0, _, _, _ => rfl
  | 0, k + 1, i, h, _ => by
    unfold rtN
    rw [if_neg (by omega)]
  | n + 1, 0, i, _, h => by
    unfold rtN
    rw [if_neg (by omega)]
  | n + 1, k + 1, i, h1, h2 => by
    unfold rtN
    by_cases q : T i < i
    · rw [if_pos q, if_pos q]; exact rtN_fuel n k (T i) (by omega) (by omega)
    · rw [if_neg q, if_neg q]
theorem root_eq (i : Nat) : root T i = if T i < i then root T (T i) else i := by
  cases i with
  | zero => unfold root rtN; rw [if_neg (by omega)]
  | succ i =>
    unfold root
    rw [rtN]
    by_cases q : T (i + 1) < i + 1
    · rw [if_pos q, if_pos q]; exact rtN_fuel _ _ _ (by omega) (Nat.le_refl _)
    · rw [if_neg q, if_neg q]
theorem root_le : ∀ i, root T i ≤ i := by
  intro i
  induction i using Nat.strongRecOn with
  | _ i ih =>
    rw [root_eq]
    by_cases q : T i < i
    · rw [if_pos q]; have := ih (T i) q; omega
    · rw [if_neg q]; exact Nat.le_refl _
theorem root_fix (i : Nat) : ¬ T (root T i) < root T i := by
  induction i using Nat.strongRecOn with
  | _ i ih =>
    rw [root_eq]
    by_cases q : T i < i
    · rw [if_pos q]; exact ih (T i) q
    · rw [if_neg q]; exact q
theorem root_root (i : Nat) : root T (root T i) = root T i := by rw [root_eq (root T i), if_neg (root_fix i)]
theorem root_self {i : Nat} (h : ¬ T i < i) : root T i = i := by rw [root_eq, if_neg h]
/-- two groups made one -/
theorem root_join {x y : Nat} (hx : ¬ T x < x) (hy : ¬ T y < y) (i : Nat) : root (uN T (max x y) (min x y)) i = if root T i = max x y then min x y else root T i := by
  have hm : ∀ z, z = max x y ∨ z = min x y → ¬ T z < z := by
    intro z hz
    rcases Nat.le_total x y with q | q
    · rw [Nat.max_eq_right q, Nat.min_eq_left q] at hz
      rcases hz with rfl | rfl <;> assumption
    · rw [Nat.max_eq_left q, Nat.min_eq_right q] at hz
      rcases hz with rfl | rfl <;> assumption
  have hle : min x y ≤ max x y := by omega
  generalize hM : max x y = M at hm hle ⊢
  generalize hN : min x y = N at hm hle ⊢
  induction i using Nat.strongRecOn with
  | _ i ih =>
    rw [root_eq (T := uN T M N) i]
    by_cases e : i = M
    · subst e
      rw [show uN T i N i = N by simp [uN], root_self (hm i (Or.inl rfl)), if_pos rfl]
      by_cases q : N < i
      · rw [if_pos q, ih N q, root_self (hm N (Or.inr rfl)), if_neg (by omega)]
      · rw [if_neg q]; omega
    · rw [show uN T M N i = T i by simp [uN, e]]
      by_cases q : T i < i
      · rw [if_pos q, ih (T i) q, root_eq (T := T) i, if_pos q]
      · rw [if_neg q, root_self q, if_neg e]
end RO
