/-! ===== columns of a run, changes of colour in a row ===== -/
def colN (s e : Nat) : Nat := (2 <<< e) - (1 <<< s)
theorem col_pow (s e : Nat) : colN s e = 2 ^ (e + 1) - 2 ^ s := by
  unfold colN
  rw [Nat.shiftLeft_eq, Nat.shiftLeft_eq, Nat.one_mul, Nat.pow_succ, Nat.mul_comm]
theorem col_tb {s e : Nat} (h : s ≤ e) (i : Nat) : (colN s e).testBit i = (decide (s ≤ i) && decide (i ≤ e)) := by
  rw [col_pow]
  have e1 : 2 ^ (e + 1) - 2 ^ s = 2 ^ s * (2 ^ (e + 1 - s) - 1) := by
    rw [Nat.mul_sub, ← Nat.pow_add, Nat.mul_one, show s + (e + 1 - s) = e + 1 by omega]
  rw [e1, Nat.testBit_two_pow_mul, Nat.testBit_two_pow_sub_one]
  by_cases q : s ≤ i
  · rw [decide_eq_true q, Bool.true_and, Bool.true_and]
    exact decide_eq_decide.mpr (by omega)
  · rw [decide_eq_false q]; rfl
theorem col_lt {s e : Nat} (h : s ≤ e) (he : e < 16) : colN s e < 65536 := lt_of_tb (fun i hi => by rw [col_tb h, decide_eq_false (show ¬ i ≤ e by omega), Bool.and_false])
theorem zb_2shl {e : Nat} (h : e < 16) : zI 2 <<< (zI (e : Int) &&& 31) = zI ((2 <<< e : Nat) : Int) := by
  have q := zb_shlZ (a := 2) (by decide) (d := (e : Int)) (by omega)
  simpa using q
theorem shl_le {s e : Nat} (h : s ≤ e) : 1 <<< s ≤ 2 <<< e := by
  rw [Nat.shiftLeft_eq, Nat.shiftLeft_eq, Nat.one_mul]
  have : 2 ^ s ≤ 2 ^ e := Nat.pow_le_pow_right (by decide) h
  omega
def chN (P : Nat → Nat) (r : Nat) : Nat := (P r ^^^ P r <<< 1) &&& 65534
theorem chN_lt (P : Nat → Nat) (r : Nat) : chN P r < 65536 := and_leR _ (by decide)
theorem tb_65534 (i : Nat) : (65534 : Nat).testBit i = (decide (1 ≤ i) && decide (i < 16)) := by
  have e : (65534 : Nat) = 2 ^ 1 * (2 ^ 15 - 1) := rfl
  rw [e, Nat.testBit_two_pow_mul, Nat.testBit_two_pow_sub_one]
  by_cases q : 1 ≤ i
  · rw [decide_eq_true q, Bool.true_and, Bool.true_and]; exact decide_eq_decide.mpr (by omega)
  · rw [decide_eq_false q]; rfl
theorem chN_tb {P : Nat → Nat} {r k : Nat} (hk : k < 16) : (chN P r).testBit k = (decide (1 ≤ k) && stt P (16 * r + k)) := by
  unfold chN
  rw [Nat.testBit_and, tb_65534, Nat.testBit_xor, Nat.testBit_shiftLeft]
  by_cases q : 1 ≤ k
  · rw [decide_eq_true q, decide_eq_true hk, Bool.true_and, Bool.true_and, Bool.and_true, Bool.true_and]
    unfold stt
    rw [decide_eq_false (show ¬ (16 * r + k) % 16 = 0 by omega), Bool.false_or, dk_row hk, show 16 * r + k - 1 = 16 * r + (k - 1) by omega, dk_row (show k - 1 < 16 by omega)]
    cases (P r).testBit k <;> cases (P r).testBit (k - 1) <;> rfl
  · rw [decide_eq_false q]; simp
theorem run_at {P : Nat → Nat} {r k : Nat} (hk : k < 16) : sR P (16 * r) + pop (chN P r &&& ((2 <<< k) - 1)) = rix P (16 * r + k) := by
  have hm : (2 <<< k) - 1 = 2 ^ (k + 1) - 1 := by rw [Nat.shiftLeft_eq, Nat.pow_succ, Nat.mul_comm]
  have a : pop (chN P r &&& ((2 <<< k) - 1)) = fb_ct (fun i => (chN P r).testBit i && decide (i < k + 1)) 16 := by
    unfold pop
    apply fb_ct_cong
    intro i _
    rw [hm, Nat.testBit_and, Nat.testBit_two_pow_sub_one]
  have b := fb_ct_split (fun i => (chN P r).testBit i && decide (i < k + 1)) (k + 1) (15 - k)
  rw [show k + 1 + (15 - k) = 16 by omega] at b
  have z : fb_ct (fun i => (chN P r).testBit (k + 1 + i) && decide (k + 1 + i < k + 1)) (15 - k) = 0 := fb_ct_zero.mpr (fun i _ => by rw [decide_eq_false (by omega), Bool.and_false])
  have c : fb_ct (fun i => (chN P r).testBit i && decide (i < k + 1)) (k + 1) + 1 = fb_ct (fun i => stt P (16 * r + i)) (k + 1) := by
    have s1 := fb_ct_split (fun i => (chN P r).testBit i && decide (i < k + 1)) 1 k
    have s2 := fb_ct_split (fun i => stt P (16 * r + i)) 1 k
    rw [Nat.add_comm 1 k] at s1 s2
    rw [s1, s2]
    have f1 : fb_ct (fun i => (chN P r).testBit i && decide (i < k + 1)) 1 = 0 := fb_ct_zero.mpr (fun i hi => by
      obtain rfl : i = 0 := by omega
      rw [chN_tb (by decide)]; rfl)
    have f2 : fb_ct (fun i => stt P (16 * r + i)) 1 = 1 := by
      show 0 + (if stt P (16 * r + 0) = true then 1 else 0) = 1
      rw [stt_row (by omega)]; rfl
    have f3 : fb_ct (fun i => (chN P r).testBit (1 + i) && decide (1 + i < k + 1)) k = fb_ct (fun i => stt P (16 * r + (1 + i))) k := by
      apply fb_ct_cong
      intro i hi
      rw [chN_tb (by omega), decide_eq_true (show 1 ≤ 1 + i by omega), decide_eq_true (show 1 + i < k + 1 by omega), Bool.true_and, Bool.and_true]
    rw [f1, f2, f3]
    omega
  have d := fb_ct_split (stt P) (16 * r) (k + 1)
  unfold rix sR
  rw [show 16 * r + k + 1 = 16 * r + (k + 1) by omega, d, a, b, z]
  omega
/-- a row that is being cut -/
def CutI (P : Nat → Nat) (r s c : Nat) : Prop := (s < 16 → stt P (16 * r + s) = true ∧ (∀ z, s < z → z < c → stt P (16 * r + z) = false)) ∧ (s = 16 → c = 17) ∧ s ≤ 16
theorem CutI.z (P : Nat → Nat) (r : Nat) : CutI P r 0 1 := ⟨fun _ => ⟨stt_row (by omega), fun z h1 h2 => by omega⟩, fun h => by omega, by omega⟩
theorem CutI.dkk {P : Nat → Nat} {r s c : Nat} (h : CutI P r s c) (hs : s < 16) : ∀ k, s + k < c → s + k < 16 → dk P (16 * r + (s + k)) = dk P (16 * r + s)
  | 0, _, _ => rfl
  | k + 1, h1, h2 => by
    have a := stt_f ((h.1 hs).2 (s + (k + 1)) (by omega) h1)
    rw [a.2, show 16 * r + (s + (k + 1)) - 1 = 16 * r + (s + k) by omega]
    exact h.dkk hs k (by omega) (by omega)
theorem CutI.same {P : Nat → Nat} {r s c : Nat} (h : CutI P r s c) (hs : s < c) (hc : c < 16) (hd : dk P (16 * r + c) = dk P (16 * r + s)) : CutI P r s (c + 1) := by
  refine ⟨fun q => ⟨(h.1 q).1, fun z z1 z2 => ?_⟩, fun q => by omega, by omega⟩
  by_cases e : z = c
  · subst e
    refine stt_no (by omega) ?_
    have := h.dkk (by omega) (z - 1 - s) (by omega) (by omega)
    rw [show s + (z - 1 - s) = z - 1 by omega] at this
    rw [hd, show 16 * r + z - 1 = 16 * r + (z - 1) by omega, this]
  · exact (h.1 q).2 z z1 (by omega)
theorem CutI.end {P : Nat → Nat} {r s c : Nat} (h : CutI P r s c) (hs : s < c) (hr : r < 16) (hc : c = 16 ∨ c < 16 ∧ ¬ dk P (16 * r + c) = dk P (16 * r + s)) : CutI P r c (c + 1) ∧ spl P (sR P (16 * r + s)) = 16 * r + s ∧ epl P (sR P (16 * r + s)) = 16 * r + c - 1 ∧ sR P (16 * r + c) = sR P (16 * r + s) + 1 := by
  have hs16 : s < 16 := by omega
  have h1 := h.1 hs16
  have st : c < 16 → stt P (16 * r + c) = true := by
    intro q
    cases e : stt P (16 * r + c)
    · have a := stt_f e
      have := h.dkk hs16 (c - 1 - s) (by omega) (by omega)
      rw [show s + (c - 1 - s) = c - 1 by omega] at this
      rcases hc with z | z
      · omega
      · exact absurd (by rw [a.2, show 16 * r + c - 1 = 16 * r + (c - 1) by omega, this]) z.2
    · rfl
  have en := epl_of (P := P) (x := 16 * r + s) (y := 16 * r + c - 1) h1.1 (by omega) (by omega) (fun z z1 z2 => by have := h1.2 (z - 16 * r) (by omega) (by omega); rwa [show 16 * r + (z - 16 * r) = z by omega] at this) (by
    rcases hc with z | z
    · by_cases q : r = 15
      · left; omega
      · right; exact stt_row (by omega)
    · right; rw [show 16 * r + c - 1 + 1 = 16 * r + c by omega]; exact st z.1)
  refine ⟨⟨fun q => ⟨st q, fun z z1 z2 => by omega⟩, fun q => by omega, by omega⟩, spl_of (by omega) h1.1, en.1, ?_⟩
  have := en.2
  rwa [show 16 * r + c - 1 + 1 = 16 * r + c by omega] at this
