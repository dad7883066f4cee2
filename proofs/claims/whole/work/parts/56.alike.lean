/-! ===== parts alike ===== -/
section AK
variable {P : Nat → Nat} {m8 : Bool} {R S : Nat}
noncomputable def mc (P : Nat → Nat) (m8 : Bool) (R n : Nat) : Nat := fb_ct (fun x => cb (rp P m8 x = R)) n
theorem mc_sz : mc P m8 R 256 = szR P m8 R := rfl
theorem mc_add (n k : Nat) : mc P m8 R (n + k) = mc P m8 R n + fb_ct (fun x => cb (rp P m8 (n + x) = R)) k := fb_ct_split _ _ _
theorem alN_iff : ∀ n, alN P m8 R S n = true ↔ (szR P m8 R = szR P m8 S ∧ ∀ x, x < n → alT P m8 R S x = true)
  | 0 => by
    show decide _ = true ↔ _
    rw [decide_eq_true_iff]
    exact ⟨fun h => ⟨by omega, fun x h => absurd h (Nat.not_lt_zero x)⟩, fun h => by have := h.1; omega⟩
  | n + 1 => by
    show (alN P m8 R S n && alT P m8 R S n) = true ↔ _
    rw [Bool.and_eq_true, alN_iff n]
    constructor
    · rintro ⟨⟨a, b⟩, c⟩
      refine ⟨a, fun x hx => ?_⟩
      by_cases q : x = n
      · rw [q]; exact c
      · exact b x (by omega)
    · rintro ⟨a, b⟩
      exact ⟨⟨a, fun x hx => b x (by omega)⟩, b n (by omega)⟩
/-- a place moved is a place of the other: in whole numbers -/
theorem alT_iff {x : Nat} : alT P m8 R S x = true ↔ (rp P m8 x = R → ∃ y, y / 16 + R / 16 = x / 16 + S / 16 ∧ y % 16 + R % 16 = x % 16 + S % 16 ∧ y < 256 ∧ rp P m8 y = S) := by
  unfold alT
  rw [Bool.or_eq_true, Bool.not_eq_true', Bool.and_eq_true, cb_f, cb_t, decide_eq_true_iff]
  constructor
  · rintro (h | ⟨⟨⟨h1, h2⟩, h3, h4⟩, h5⟩)
    · exact fun z => absurd z h
    · intro _
      obtain ⟨a, ha⟩ := Int.eq_ofNat_of_zero_le h1
      obtain ⟨b, hb⟩ := Int.eq_ofNat_of_zero_le h3
      rw [ha, hb] at h5
      rw [show (16 * (a : Int) + (b : Int)).toNat = 16 * a + b by omega] at h5
      exact ⟨16 * a + b, by omega, by omega, by omega, h5⟩
  · intro h
    by_cases q : rp P m8 x = R
    · obtain ⟨y, y1, y2, y3, y4⟩ := h q
      right
      have e1 : (x : Int) / 16 + ((S : Int) / 16 - (R : Int) / 16) = ((y / 16 : Nat) : Int) := by omega
      have e2 : (x : Int) % 16 + ((S : Int) % 16 - (R : Int) % 16) = ((y % 16 : Nat) : Int) := by omega
      rw [e1, e2, show (16 * ((y / 16 : Nat) : Int) + ((y % 16 : Nat) : Int)).toNat = y by omega]
      exact ⟨by omega, y4⟩
    · exact Or.inl q
theorem shift_le {f g : Nat → Bool} {n m : Nat} (h : ∀ x, x < n → f x = true → x < m ∧ g x = true) : fb_ct f n ≤ fb_ct g m := by
  rcases Nat.le_total n m with q | q
  · exact Nat.le_trans (fb_ct_sub (fun k hk hf => (h k hk hf).2)) (fb_ct_mono g q)
  · have z0 : fb_ct (fun k => f (m + k)) (n - m) = 0 := fb_ct_zero.mpr (fun k hk => by
      cases z : f (m + k)
      · rfl
      · have := (h (m + k) (by omega) z).1; omega)
    have e : fb_ct f n = fb_ct f m := by
      have s := fb_ct_split f m (n - m)
      rw [show m + (n - m) = n by omega, z0] at s
      exact s
    rw [e]
    exact fb_ct_sub (fun k hk hf => (h k (by omega) hf).2)
theorem mc_shift (hal : ∀ x, x < 256 → alT P m8 R S x = true) {u w : Nat} (hu : u ≤ 256) (hw : w ≤ 256) (e : u + S = w + R) : mc P m8 R 256 + mc P m8 S w ≤ mc P m8 S 256 + mc P m8 R u := by
  have a := mc_add (P := P) (m8 := m8) (R := R) u (256 - u)
  have b := mc_add (P := P) (m8 := m8) (R := S) w (256 - w)
  rw [show u + (256 - u) = 256 by omega] at a
  rw [show w + (256 - w) = 256 by omega] at b
  have c := shift_le (f := fun x => cb (rp P m8 (u + x) = R)) (g := fun x => cb (rp P m8 (w + x) = S)) (n := 256 - u) (m := 256 - w) (fun x hx h => by
    obtain ⟨y, y1, y2, y3, y4⟩ := alT_iff.mp (hal (u + x) (by omega)) (cb_t.mp h)
    have ey : y = w + x := by omega
    rw [ey] at y3 y4
    exact ⟨by omega, cb_t.mpr y4⟩)
  omega
theorem mc_low (hal : ∀ x, x < 256 → alT P m8 R S x = true) {u w : Nat} (hu : u ≤ 256) (hR : R < 256) (hS : S < 256) (e : u + S = w + R) : mc P m8 R u ≤ mc P m8 S w := by
  rcases Nat.le_total R S with q | q
  · have a := mc_add (P := P) (m8 := m8) (R := S) (S - R) u
    rw [show S - R + u = w by omega] at a
    have c := shift_le (f := fun x => cb (rp P m8 x = R)) (g := fun x => cb (rp P m8 (S - R + x) = S)) (n := u) (m := u) (fun x hx h => by
      obtain ⟨y, y1, y2, y3, y4⟩ := alT_iff.mp (hal x (by omega)) (cb_t.mp h)
      have ey : y = S - R + x := by omega
      rw [ey] at y4
      exact ⟨hx, cb_t.mpr y4⟩)
    unfold mc at *
    omega
  · have a := mc_add (P := P) (m8 := m8) (R := R) (R - S) w
    rw [show R - S + w = u by omega] at a
    have z : mc P m8 R (R - S) = 0 := fb_ct_zero.mpr (fun x hx => cb_f.mpr (fun h => by
      obtain ⟨y, y1, y2, y3, y4⟩ := alT_iff.mp (hal x (by omega)) h
      omega))
    have c := shift_le (f := fun x => cb (rp P m8 (R - S + x) = R)) (g := fun x => cb (rp P m8 x = S)) (n := w) (m := w) (fun x hx h => by
      obtain ⟨y, y1, y2, y3, y4⟩ := alT_iff.mp (hal (R - S + x) (by omega)) (cb_t.mp h)
      have ey : y = x := by omega
      rw [ey] at y4
      exact ⟨hx, cb_t.mpr y4⟩)
    unfold mc at *
    omega
/-- where two groups stand in step -/
def SmI (P : Nat → Nat) (m8 : Bool) (R S a b : Nat) : Prop := mc P m8 R (pls P a) = mc P m8 S (pls P b) ∧ (∀ x, x < pls P a → alT P m8 R S x = true) ∧ a ≤ sR P 256 ∧ b ≤ sR P 256 ∧ (a < sR P 256 → rp P m8 (spl P a) = R) ∧ (b < sR P 256 → rp P m8 (spl P b) = S)
theorem pls_le (i : Nat) : pls P i ≤ 256 := by
  unfold pls
  split
  · rename_i h; exact Nat.le_of_lt (spl_spec h).1
  · omega
theorem SmI.z (hR : R < 256) (hS : S < 256) (hh : rp P m8 R = R) (hk : rp P m8 S = S) : SmI P m8 R S (rix P R) (rix P S) := by
  have a := head_rix hR hh
  have b := head_rix hS hk
  have ra := rix_lt (P := P) hR
  have rb := rix_lt (P := P) hS
  refine ⟨?_, fun x hx => ?_, by omega, by omega, fun _ => by rw [a]; exact hh, fun _ => by rw [b]; exact hk⟩
  · rw [pls_lt ra, pls_lt rb, a, b]
    unfold mc
    rw [fb_ct_zero.mpr (fun x hx => cb_f.mpr (no_mem hx)), fb_ct_zero.mpr (fun x hx => cb_f.mpr (no_mem hx))]
  · rw [pls_lt ra, a] at hx
    exact alT_iff.mpr (fun z => absurd z (no_mem hx))
theorem SmI.fin {a b : Nat} (h : SmI P m8 R S a b) (hs : szR P m8 R = szR P m8 S) (he : ¬ a < sR P 256 ∨ ¬ b < sR P 256) : alN P m8 R S 256 = true := by
  obtain ⟨h1, h2, h3, h4, h5, h6⟩ := h
  refine (alN_iff 256).mpr ⟨hs, fun x hx => ?_⟩
  by_cases q : x < pls P a
  · exact h2 x q
  · rcases he with e | e
    · rw [show a = sR P 256 by omega, pls_end] at q; exact absurd hx q
    · rw [show b = sR P 256 by omega, pls_end, mc_sz, ← hs, ← mc_sz] at h1
      refine alT_iff.mpr (fun z => ?_)
      exfalso
      have m := mc_add (P := P) (m8 := m8) (R := R) (pls P a) (256 - pls P a)
      rw [show pls P a + (256 - pls P a) = 256 by have := pls_le (P := P) a; omega] at m
      have zz := fb_ct_zero.mp (show fb_ct (fun x => cb (rp P m8 (pls P a + x) = R)) (256 - pls P a) = 0 by omega) (x - pls P a) (by omega)
      rw [show pls P a + (x - pls P a) = x by omega, cb_t.mpr z] at zz
      cases zz
theorem mc_run {i n : Nat} (hi : i < sR P 256) (hn : n ≤ epl P i + 1 - spl P i) (h : rp P m8 (spl P i) = R) : mc P m8 R (spl P i + n) = mc P m8 R (spl P i) + n := by
  unfold mc
  rw [ct_on]
  intro j hj
  rw [run_rp hi (by omega)]; exact h
/-- a place of a group next to a run's end, in the same row: it would be of the run -/
theorem run_stop {i : Nat} (hi : i < sR P 256) (hd : dk P (spl P i) = true) (hc : epl P i % 16 < 15) : ¬ dk P (epl P i + 1) = true := by
  intro e
  have g := epl_ge hi
  have n : i + 1 < sR P 256 := Nat.lt_of_not_le fun q => by
    have : epl P i = 255 := by unfold epl; rw [if_neg (by omega)]
    omega
  have es : spl P (i + 1) = epl P i + 1 := by have := pls_succ hi; rwa [pls_lt n] at this
  have rr := run_row hi
  have nr := next_run (P := P) n (by rw [es]; omega)
  rw [es] at nr
  exact nr.2 (by rw [e, hd])
theorem SmI.no {a b : Nat} (h : SmI P m8 R S a b) (hR : R < 256) (hS : S < 256) (hdR : dk P R = true) (hdS : dk P S = true) (ha : a < sR P 256) (hb : b < sR P 256) (hne : ¬ (spl P a / 16 + S / 16 = spl P b / 16 + R / 16 ∧ spl P a % 16 + S % 16 = spl P b % 16 + R % 16 ∧ epl P a + spl P b = epl P b + spl P a)) : alN P m8 R S 256 = false := by
  cases e : alN P m8 R S 256
  · rfl
  · exfalso
    obtain ⟨hs, hal⟩ := (alN_iff 256).mp e
    obtain ⟨h1, h2, h3, h4, h5, h6⟩ := h
    have ra := h5 ha
    have rb := h6 hb
    rw [pls_lt ha, pls_lt hb] at h1
    have sa := (spl_spec ha).1
    have sb := (spl_spec hb).1
    have ga := epl_ge ha
    have gb := epl_ge hb
    have rra := run_row ha
    have rrb := run_row hb
    have da : dk P (spl P a) = true := by rw [← hdR, ← ra, rp_dk]
    have db : dk P (spl P b) = true := by rw [← hdS, ← rb, rp_dk]
    obtain ⟨y, y1, y2, y3, y4⟩ := alT_iff.mp (hal _ sa) ra
    have ey : spl P a + S = y + R := by omega
    have yb : spl P b ≤ y := Nat.le_of_not_lt fun q => by
      have m := mc_low hal (u := spl P a) (w := y) (by omega) hR hS ey
      have k := mc_add (P := P) (m8 := m8) (R := S) y (spl P b - y)
      rw [show y + (spl P b - y) = spl P b by omega] at k
      have p : 0 < fb_ct (fun x => cb (rp P m8 (y + x) = S)) (spl P b - y) := fb_ct_pos.mpr ⟨0, by omega, cb_t.mpr y4⟩
      have s2 : mc P m8 R 256 = mc P m8 S 256 := hs
      omega
    have yb2 : y = spl P b := by
      refine Nat.le_antisymm (Nat.le_of_not_lt fun q => ?_) yb
      have m := mc_shift hal (u := spl P a) (w := y) (by omega) (by omega) ey
      have k := mc_add (P := P) (m8 := m8) (R := S) (spl P b) (y - spl P b)
      rw [show spl P b + (y - spl P b) = y by omega] at k
      have p : 0 < fb_ct (fun x => cb (rp P m8 (spl P b + x) = S)) (y - spl P b) := fb_ct_pos.mpr ⟨0, by omega, cb_t.mpr rb⟩
      have s2 : mc P m8 R 256 = mc P m8 S 256 := hs
      omega
    rw [yb2] at y1 y2 ey
    have hlen : ¬ epl P a + spl P b = epl P b + spl P a := fun z => hne ⟨by omega, by omega, z⟩
    rcases Nat.lt_or_ge (epl P b + spl P a) (epl P a + spl P b) with q | q
    · -- the first's run is longer
      obtain ⟨z, z1, z2, z3, z4⟩ := alT_iff.mp (hal (spl P a + (epl P b - spl P b + 1)) (by omega)) (by rw [run_rp ha (by omega)]; exact ra)
      have ez : z = epl P b + 1 := by omega
      refine run_stop hb db (by omega) ?_
      rw [← ez, ← rp_dk (m8 := m8), z4]; exact hdS
    · -- the second's run is longer
      have q : epl P a + spl P b < epl P b + spl P a := by omega
      have e1 := mc_run (n := epl P a + 1 - spl P a) ha (Nat.le_refl _) ra
      have e2 := mc_run (n := epl P a + 2 - spl P a) hb (by omega) rb
      rw [show spl P a + (epl P a + 1 - spl P a) = epl P a + 1 by omega] at e1
      have s3 : mc P m8 S (spl P b + (epl P a + 2 - spl P a)) ≤ mc P m8 S 256 := fb_ct_mono _ (by omega)
      have s2 : mc P m8 R 256 = mc P m8 S 256 := hs
      by_cases l : epl P a + 1 < 256
      case neg =>
        rw [show epl P a + 1 = 256 by omega] at e1
        omega
      have f : ¬ rp P m8 (epl P a + 1) = R := fun z => by
        obtain ⟨w, w1, w2, w3, w4⟩ := alT_iff.mp (hal _ l) z
        refine run_stop ha da (by omega) ?_
        rw [← rp_dk (m8 := m8), z]; exact hdR
      have e3 : mc P m8 R (epl P a + 2) = mc P m8 R (epl P a + 1) := by
        have := mc_add (P := P) (m8 := m8) (R := R) (epl P a + 1) 1
        rw [fb_ct_zero.mpr (fun x hx => cb_f.mpr (by rw [show x = 0 by omega]; exact f))] at this
        exact this
      have m := mc_shift hal (u := epl P a + 2) (w := spl P b + (epl P a + 2 - spl P a)) (by omega) (by omega) (by omega)
      omega
theorem nx_gap {a c : Nat} (ha : a < sR P 256) (hac : a < c) (hc : c ≤ sR P 256) (h : ∀ j, a < j → j < c → ¬ rp P m8 (spl P j) = R) {y : Nat} (h1 : epl P a + 1 ≤ y) (h2 : y < pls P c) : ¬ rp P m8 y = R := by
  have hy : y < 256 := Nat.lt_of_lt_of_le h2 (pls_le c)
  have m := rix_mem (P := P) hy
  have l := rix_lt (P := P) hy
  have a1 : a < rix P y := Nat.lt_of_not_le fun q => by
    rcases Nat.lt_or_eq_of_le q with q | q
    · have := epl_lt q ha
      have := epl_ge ha
      omega
    · rw [q] at m; omega
  have a2 : rix P y < c := Nat.lt_of_not_le fun q => by
    have hc2 : c < sR P 256 := by omega
    rw [pls_lt hc2] at h2
    rcases Nat.lt_or_eq_of_le q with q | q
    · have := spl_lt q l; omega
    · rw [← q] at m; omega
  have := h _ a1 a2
  rw [rp_rix hy] at this
  exact this
theorem mc_gap {n k : Nat} (h : ∀ y, n ≤ y → y < n + k → ¬ rp P m8 y = R) : mc P m8 R (n + k) = mc P m8 R n := by
  rw [mc_add, fb_ct_zero.mpr (fun x hx => cb_f.mpr (h _ (by omega) (by omega)))]; rfl
theorem SmI.step {a b c d : Nat} (h : SmI P m8 R S a b) (ha : a < sR P 256) (hb : b < sR P 256) (hac : a < c) (hbd : b < d) (hc : c ≤ sR P 256) (hd : d ≤ sR P 256) (hga : ∀ j, a < j → j < c → ¬ rp P m8 (spl P j) = R) (hgb : ∀ j, b < j → j < d → ¬ rp P m8 (spl P j) = S) (hc2 : c < sR P 256 → rp P m8 (spl P c) = R) (hd2 : d < sR P 256 → rp P m8 (spl P d) = S) (e1 : spl P a / 16 + S / 16 = spl P b / 16 + R / 16) (e2 : spl P a % 16 + S % 16 = spl P b % 16 + R % 16) (e3 : epl P a + spl P b = epl P b + spl P a) : SmI P m8 R S c d := by
  obtain ⟨h1, h2, h3, h4, h5, h6⟩ := h
  have ra := h5 ha
  have rb := h6 hb
  rw [pls_lt ha, pls_lt hb] at h1
  rw [pls_lt ha] at h2
  have ga := epl_ge ha
  have gb := epl_ge hb
  have rra := run_row ha
  have rrb := run_row hb
  have pa : epl P a + 1 ≤ pls P c := by
    rcases Nat.lt_or_ge c (sR P 256) with q | q
    · rw [pls_lt q]; have := epl_lt hac q; omega
    · rw [show c = sR P 256 by omega, pls_end]; omega
  have pb : epl P b + 1 ≤ pls P d := by
    rcases Nat.lt_or_ge d (sR P 256) with q | q
    · rw [pls_lt q]; have := epl_lt hbd q; omega
    · rw [show d = sR P 256 by omega, pls_end]; omega
  have m1 := mc_run (n := epl P a + 1 - spl P a) ha (Nat.le_refl _) ra
  have m2 := mc_run (n := epl P b + 1 - spl P b) hb (Nat.le_refl _) rb
  have m3 := mc_gap (P := P) (m8 := m8) (R := R) (n := epl P a + 1) (k := pls P c - (epl P a + 1)) (fun y y1 y2 => nx_gap ha hac hc hga y1 (by omega))
  have m4 := mc_gap (P := P) (m8 := m8) (R := S) (n := epl P b + 1) (k := pls P d - (epl P b + 1)) (fun y y1 y2 => nx_gap hb hbd hd hgb y1 (by omega))
  rw [show spl P a + (epl P a + 1 - spl P a) = epl P a + 1 by omega] at m1
  rw [show spl P b + (epl P b + 1 - spl P b) = epl P b + 1 by omega] at m2
  rw [show epl P a + 1 + (pls P c - (epl P a + 1)) = pls P c by omega] at m3
  rw [show epl P b + 1 + (pls P d - (epl P b + 1)) = pls P d by omega] at m4
  refine ⟨by omega, fun x hx => ?_, hc, hd, hc2, hd2⟩
  by_cases q : x < spl P a
  · exact h2 x q
  · by_cases q2 : x ≤ epl P a
    · refine alT_iff.mpr (fun _ => ⟨spl P b + (x - spl P a), by omega, by omega, by omega, ?_⟩)
      rw [run_rp hb (by omega)]; exact rb
    · exact alT_iff.mpr (fun z => absurd z (nx_gap ha hac hc hga (by omega) hx))
theorem nxG_spec {TW : Nat → Int} {n g : Nat} : ∀ (f k : Nat), n - k = f → k ≤ n → k ≤ nxG TW n g k ∧ nxG TW n g k ≤ n ∧ (nxG TW n g k < n → TW (nxG TW n g k) = (g : Int)) ∧ ∀ j, k ≤ j → j < nxG TW n g k → ¬ TW j = (g : Int)
  | 0, k, e, h => by
    have q := nxG_end (TW := TW) (g := g) (show n ≤ k by omega)
    rw [← q]
    exact ⟨by omega, h, fun z => by omega, fun j a b => by omega⟩
  | f + 1, k, e, h => by
    by_cases t : TW k = (g : Int)
    · have q := nxG_yes (show k < n by omega) t
      rw [← q]
      exact ⟨by omega, h, fun _ => t, fun j a b => by omega⟩
    · rw [nxG_no (by omega) t]
      obtain ⟨a, b, c, d⟩ := nxG_spec (TW := TW) (n := n) (g := g) f (k + 1) (by omega) (by omega)
      refine ⟨by omega, b, c, fun j j1 j2 => ?_⟩
      by_cases z : j = k
      · rw [z]; exact t
      · exact d j (by omega) j2
theorem nx_facts {FI_ CH_ SO EO RO TW : Nat → Int} {DA : Nat → Bool} (hO : RunsOK P m8 FI_ CH_ SO EO RO DA TW) (hR : R < 256) (hh : rp P m8 R = R) {a : Nat} (ha : a < sR P 256) : a < nxG TW (sR P 256) (rix P R) (a + 1) ∧ nxG TW (sR P 256) (rix P R) (a + 1) ≤ sR P 256 ∧ (nxG TW (sR P 256) (rix P R) (a + 1) < sR P 256 → rp P m8 (spl P (nxG TW (sR P 256) (rix P R) (a + 1))) = R) ∧ ∀ j, a < j → j < nxG TW (sR P 256) (rix P R) (a + 1) → ¬ rp P m8 (spl P j) = R := by
  obtain ⟨x, y, z, w⟩ := nxG_spec (TW := TW) (g := rix P R) (n := sR P 256) _ (a + 1) rfl (by omega)
  refine ⟨by omega, y, fun q => ?_, fun j j1 j2 e => ?_⟩
  · have t := z q
    rw [hO.2.1 _ q] at t
    exact head_inj (rp_lt (spl_spec q).1) hR (rp_rp _) hh (by omega)
  · have t := w j (by omega) j2
    rw [hO.2.1 _ (by omega), e] at t
    exact t rfl
end AK
