/-! ===== runs recorded in rows ===== -/
def RecI (P : Nat → Nat) (n : Nat) (SO EO RO : Nat → Int) (DA : Nat → Bool) : Prop := ∀ i, i < n → SO i = ((spl P i % 16 : Nat) : Int) ∧ EO i = ((epl P i % 16 : Nat) : Int) ∧ RO i = ((spl P i / 16 : Nat) : Int) ∧ DA i = dk P (spl P i)
section UF
variable {P : Nat → Nat} {m8 : Bool}
theorem epl_of {x y : Nat} (hx : stt P x = true) (hxy : x ≤ y) (hy : y < 256) (hn : ∀ z, x < z → z ≤ y → stt P z = false) (he : y = 255 ∨ stt P (y + 1) = true) : epl P (sR P x) = y ∧ sR P (y + 1) = sR P x + 1 := by
  have hi : sR P x < sR P 256 := sR_lt (by omega) hx
  have hs := spl_of (P := P) (x := x) (by omega) hx
  have hr : ∀ k, x + k ≤ y → rix P (x + k) = sR P x := by
    intro k
    induction k with
    | zero => intro _; exact rix_start hx
    | succ k ih => intro h; rw [← Nat.add_assoc, rix_step (hn (x + k + 1) (by omega) (by omega))]; exact ih (by omega)
  have hry : rix P y = sR P x := by have := hr (y - x) (by omega); rwa [show x + (y - x) = y by omega] at this
  have h1 := (rix_iff hy hi).mp hry
  refine ⟨Nat.le_antisymm (Nat.le_of_not_lt fun q => ?_) h1.2, ?_⟩
  · have g := epl_ge hi
    rcases he with he | he
    · omega
    · have := stt_in (P := P) (z := y + 1) hi (by omega) (by omega)
      rw [he] at this
      cases this
  · have := sR_pos (P := P) y
    unfold rix at hry
    omega
theorem RecI.add {n : Nat} {SO EO RO : Nat → Int} {DA : Nat → Bool} (h : RecI P n SO EO RO DA) {s e r : Int} {b : Bool} (hs : s = ((spl P n % 16 : Nat) : Int)) (he : e = ((epl P n % 16 : Nat) : Int)) (hr : r = ((spl P n / 16 : Nat) : Int)) (hb : b = dk P (spl P n)) : RecI P (n + 1) (uZ SO n s) (uZ EO n e) (uZ RO n r) (uB DA n b) := by
  intro i hi
  by_cases q : i = n
  · subst q; rw [uZ_s, uZ_s, uZ_s, uB_s]; exact ⟨hs, he, hr, hb⟩
  · rw [uZ_n _ _ q, uZ_n _ _ q, uZ_n _ _ q, uB_n _ _ q]; exact h i (by omega)
/-! ===== groups of runs ===== -/
def UFI (T : Nat → Nat) (TW : Nat → Int) (n : Nat) : Prop := ∀ j, j < n → TW j = (T j : Int) ∧ T j ≤ j
/-- what is joined is joined in the picture -/
def SndI (P : Nat → Nat) (m8 : Bool) (T : Nat → Nat) : Prop := ∀ i, i < sR P 256 → Cn P m8 (spl P i) (spl P (T i))
def CoI (P : Nat → Nat) (T0 T : Nat → Nat) : Prop := ∀ i j, i < sR P 256 → j < sR P 256 → root T0 i = root T0 j → root T i = root T j
theorem UFI.id {TW : Nat → Int} {n : Nat} (h : ∀ j, j < n → TW j = (j : Int)) : UFI (fun j => j) TW n := fun j hj => ⟨h j hj, Nat.le_refl _⟩
theorem UFI.rt {T : Nat → Nat} {TW : Nat → Int} {n : Nat} (h : UFI T TW n) {i : Nat} (hi : i < n) : TW (root T i) = (T (root T i) : Int) ∧ T (root T i) = root T i := by
  have a := root_le (T := T) i
  have b := h _ (Nat.lt_of_le_of_lt a hi)
  have c := root_fix (T := T) i
  exact ⟨b.1, by omega⟩
theorem UFI.join {T : Nat → Nat} {TW : Nat → Int} {n : Nat} (h : UFI T TW n) (x y : Nat) : UFI (uN T (max x y) (min x y)) (uZ TW (max x y) ((min x y : Nat) : Int)) n := by
  intro j hj
  by_cases q : j = max x y
  · rw [q, uZ_s]; simp only [uN, if_true]; exact ⟨trivial, by omega⟩
  · rw [uZ_n _ _ q]; simp only [uN, if_neg q]; exact h j hj
theorem SndI.rt {T : Nat → Nat} (h : SndI P m8 T) (hT : ∀ j, j < sR P 256 → T j ≤ j) : ∀ i, i < sR P 256 → Cn P m8 (spl P i) (spl P (root T i)) := by
  intro i
  induction i using Nat.strongRecOn with
  | _ i ih =>
    intro hi
    rw [root_eq]
    by_cases q : T i < i
    · rw [if_pos q]; exact (h i hi).tr (ih (T i) q (by omega))
    · rw [if_neg q]; exact Cn.rf _
theorem SndI.join {T : Nat → Nat} (h : SndI P m8 T) (hT : ∀ j, j < sR P 256 → T j ≤ j) {a b : Nat} (ha : a < sR P 256) (hb : b < sR P 256) (hab : Cn P m8 (spl P a) (spl P b)) : SndI P m8 (uN T (max (root T a) (root T b)) (min (root T a) (root T b))) := by
  have ca := h.rt hT a ha
  have cb' := h.rt hT b hb
  have cxy : Cn P m8 (spl P (root T a)) (spl P (root T b)) := ca.sy.tr (hab.tr cb')
  intro i hi
  generalize root T a = x at cxy ⊢
  generalize root T b = y at cxy ⊢
  by_cases q : i = max x y
  · simp only [uN, if_pos q]
    rw [q]
    rcases Nat.le_total x y with z | z
    · rw [Nat.max_eq_right z, Nat.min_eq_left z]; exact cxy.sy
    · rw [Nat.max_eq_left z, Nat.min_eq_right z]; exact cxy
  · simp only [uN, if_neg q]; exact h i hi
theorem CoI.rf (T : Nat → Nat) : CoI P T T := fun _ _ _ _ h => h
theorem CoI.tr {T0 T1 T2 : Nat → Nat} (h : CoI P T0 T1) (h2 : CoI P T1 T2) : CoI P T0 T2 := fun i j hi hj e => h2 i j hi hj (h i j hi hj e)
theorem root_both {T : Nat → Nat} (a b i : Nat) : root (uN T (max (root T a) (root T b)) (min (root T a) (root T b))) i = if root T i = max (root T a) (root T b) then min (root T a) (root T b) else root T i := root_join (root_fix a) (root_fix b) i
theorem CoI.join (T : Nat → Nat) (a b : Nat) : CoI P T (uN T (max (root T a) (root T b)) (min (root T a) (root T b))) := by
  intro i j _ _ e
  rw [root_both, root_both, e]
theorem root_one (T : Nat → Nat) (a b : Nat) : root (uN T (max (root T a) (root T b)) (min (root T a) (root T b))) a = root (uN T (max (root T a) (root T b)) (min (root T a) (root T b))) b := by
  rw [root_both, root_both]
  rcases Nat.le_total (root T a) (root T b) with z | z
  · rw [Nat.max_eq_right z, Nat.min_eq_left z, if_pos rfl]
    split <;> omega
  · rw [Nat.max_eq_left z, Nat.min_eq_right z, if_pos rfl]
    split <;> omega
/-- pairs of runs, one row above the other, that are through -/
def DoneI (P : Nat → Nat) (T : Nat → Nat) (r : Nat) (cl : Bool) (rc a b : Nat) : Prop := ∀ i j, i < sR P 256 → j < sR P 256 → spl P i / 16 + 1 = r → spl P j / 16 = r → dk P (spl P i) = cl → dk P (spl P j) = cl → ovl P rc i j → (i < a ∨ j < b) → root T i = root T j
theorem DoneI.z {T : Nat → Nat} {r : Nat} {cl : Bool} {rc a b : Nat} (hr : 1 ≤ r) (ha : a ≤ sR P (16 * (r - 1)) + 1) (ha2 : ∀ i, i < a → i < sR P 256 → spl P i / 16 + 1 = r → ¬ dk P (spl P i) = cl) (hb2 : ∀ j, j < b → j < sR P 256 → spl P j / 16 = r → ¬ dk P (spl P j) = cl) : DoneI P T r cl rc a b := by
  intro i j hi hj h1 h2 h3 h4 _ h6
  rcases h6 with h | h
  · exact absurd h3 (ha2 i h hi h1)
  · exact absurd h4 (hb2 j h hj h2)
theorem DoneI.co {T T1 : Nat → Nat} {r : Nat} {cl : Bool} {rc a b : Nat} (h : DoneI P T r cl rc a b) (hc : CoI P T T1) : DoneI P T1 r cl rc a b := fun i j hi hj h1 h2 h3 h4 h5 h6 => hc i j hi hj (h i j hi hj h1 h2 h3 h4 h5 h6)
theorem next_no {i : Nat} {cl : Bool} (hi : i + 1 < sR P 256) (hr : spl P (i + 1) / 16 = spl P i / 16) (hd : dk P (spl P i) = cl) : ¬ dk P (spl P (i + 1)) = cl := fun e => (next_run hi hr).2 (e.trans hd.symm)
/-- the upper pointer goes on -/
theorem DoneI.upA {T : Nat → Nat} {r : Nat} {cl : Bool} {rc a b : Nat} (h : DoneI P T r cl rc a b) (hrc : rc ≤ 1) (ha : a < sR P 256) (hb : b < sR P 256) (hra : spl P a / 16 + 1 = r) (hrb : spl P b / 16 = r) (hda : dk P (spl P a) = cl) (hdb : dk P (spl P b) = cl) (he : epl P a % 16 < epl P b % 16) (hj : ovl P rc a b → root T a = root T b) : DoneI P T r cl rc (a + 2) b := by
  intro i j hi hj' h1 h2 h3 h4 h5 h6
  by_cases q : i < a ∨ j < b
  · exact h i j hi hj' h1 h2 h3 h4 h5 q
  · have hia : i = a ∨ i = a + 1 := by omega
    rcases hia with rfl | rfl
    · by_cases e : j = b
      · subst e; exact hj h5
      · have := runs_apart (P := P) (i := b) (j := j) (by omega) hj' (by omega) (by rw [hdb, h4])
        have r1 := run_row hb
        have r2 := run_row hi
        obtain ⟨o1, o2⟩ := h5
        omega
    · exact absurd h3 (next_no hi (by omega) hda)
theorem DoneI.upB {T : Nat → Nat} {r : Nat} {cl : Bool} {rc a b : Nat} (h : DoneI P T r cl rc a b) (hrc : rc ≤ 1) (ha : a < sR P 256) (hb : b < sR P 256) (hra : spl P a / 16 + 1 = r) (hrb : spl P b / 16 = r) (hda : dk P (spl P a) = cl) (hdb : dk P (spl P b) = cl) (he : ¬ epl P a % 16 < epl P b % 16) (hj : ovl P rc a b → root T a = root T b) : DoneI P T r cl rc a (b + 2) := by
  intro i j hi hj' h1 h2 h3 h4 h5 h6
  by_cases q : i < a ∨ j < b
  · exact h i j hi hj' h1 h2 h3 h4 h5 q
  · have hjb : j = b ∨ j = b + 1 := by omega
    rcases hjb with rfl | rfl
    · by_cases e : i = a
      · subst e; exact hj h5
      · have := runs_apart (P := P) (i := a) (j := i) (by omega) hi (by omega) (by rw [hda, h3])
        have r1 := run_row ha
        have r2 := run_row hj'
        obtain ⟨o1, o2⟩ := h5
        omega
    · exact absurd h4 (next_no hj' (by omega) hdb)
/-- a pointer stands at a run of the colour, or behind the row -/
def PtI (P : Nat → Nat) (r : Nat) (cl : Bool) (a : Nat) : Prop := sR P (16 * r) ≤ a ∧ (a < sR P (16 * (r + 1)) → dk P (spl P a) = cl)
theorem PtI.up {r : Nat} {cl : Bool} {a : Nat} (hr : r < 16) (h : PtI P r cl a) (ha : a < sR P (16 * (r + 1))) : PtI P r cl (a + 2) := by
  have hN := sR_mono (P := P) (show 16 * (r + 1) ≤ 256 by omega)
  have hd := h.2 ha
  refine ⟨by have := h.1; omega, fun q => ?_⟩
  have r0 := (row_iff (P := P) (i := a) (r := r) (by omega)).mp ⟨h.1, ha⟩
  have r1 := (row_iff (P := P) (i := a + 1) (r := r) (by omega)).mp ⟨by have := h.1; omega, by omega⟩
  have r2 := (row_iff (P := P) (i := a + 2) (r := r) (by omega)).mp ⟨by have := h.1; omega, q⟩
  have n1 := (next_run (P := P) (i := a) (by omega) (by omega)).2
  have n2 := (next_run (P := P) (i := a + 1) (by omega) (by rw [show a + 1 + 1 = a + 2 from rfl]; omega)).2
  rw [show a + 1 + 1 = a + 2 from rfl] at n2
  cases h0 : dk P (spl P a) <;> cases h1 : dk P (spl P (a + 1)) <;> cases h2 : dk P (spl P (a + 2)) <;> simp_all
/-- all rows are through -/
def AllI (P : Nat → Nat) (m8 : Bool) (T : Nat → Nat) (n : Nat) : Prop := ∀ p q, Adj P m8 p q → q / 16 = p / 16 + 1 → q / 16 < n → root T (rix P p) = root T (rix P q)
theorem AllI.next {T0 T1 T2 : Nat → Nat} {n : Nat} (h : AllI P m8 T0 n) (h01 : CoI P T0 T1) (h12 : CoI P T1 T2) (hd : DoneI P T1 n true (bZ (true == m8)) (sR P 256) (sR P 256)) (hl : DoneI P T2 n false (bZ (false == m8)) (sR P 256) (sR P 256)) : AllI P m8 T2 (n + 1) := by
  intro p q ha hr hn
  by_cases z : q / 16 < n
  · exact h12 _ _ (rix_lt ha.1) (rix_lt ha.2.1) (h01 _ _ (rix_lt ha.1) (rix_lt ha.2.1) (h p q ha hr z))
  · have e : q / 16 = n := by omega
    have o := ovl_adj ha hr
    have rp1 := run_row (P := P) (rix_lt ha.1)
    have rq1 := run_row (P := P) (rix_lt ha.2.1)
    obtain ⟨p1, p2⟩ := rix_mem (P := P) ha.1
    obtain ⟨q1, q2⟩ := rix_mem (P := P) ha.2.1
    have dp := dk_rix (P := P) ha.1
    have dq := dk_rix (P := P) ha.2.1
    have hpq := ha.2.2.1
    cases hc : dk P p
    · rw [hc] at o dp hpq
      rw [← hpq] at dq
      exact hl _ _ (rix_lt ha.1) (rix_lt ha.2.1) (by omega) (by omega) dp.symm dq.symm o (Or.inl (rix_lt ha.1))
    · rw [hc] at o dp hpq
      rw [← hpq] at dq
      exact h12 _ _ (rix_lt ha.1) (rix_lt ha.2.1) (hd _ _ (rix_lt ha.1) (rix_lt ha.2.1) (by omega) (by omega) dp.symm dq.symm o (Or.inl (rix_lt ha.1)))
/-- a group's least run holds its least place -/
theorem group_rp {T : Nat → Nat} (hT : ∀ j, j < sR P 256 → T j ≤ j) (hs : SndI P m8 T) (ha : AllI P m8 T 16) {x : Nat} (hx : x < 256) : root T (rix P x) = rix P (rp P m8 x) := by
  have adj : ∀ p q, Adj P m8 p q → root T (rix P p) = root T (rix P q) := by
    intro p q h
    obtain ⟨a, b, ⟨c1, c2, c3, c4⟩, -⟩ := adj_bd h
    rcases Nat.lt_trichotomy (p / 16) (q / 16) with z | z | z
    · exact ha p q h (by omega) (by omega)
    · rw [adj_run h z]
    · exact (ha q p h.symm (by omega) (by omega)).symm
  have cn : ∀ y, Cn P m8 x y → root T (rix P x) = root T (rix P y) := fun y h => h (fun z => root T (rix P x) = root T (rix P z)) (fun a b hab e => e.trans (adj a b hab)) rfl
  have e := cn _ (rp_cn x)
  have hR : rp P m8 x < 256 := rp_lt hx
  have le := root_le (T := T) (rix P (rp P m8 x))
  have hg : root T (rix P x) < sR P 256 := by rw [e]; exact Nat.lt_of_le_of_lt le (rix_lt hR)
  have c := hs.rt hT (rix P x) (rix_lt hx)
  have c2 : Cn P m8 x (spl P (root T (rix P x))) := (rix_cn hx).sy.tr c
  have l2 := rp_le c2
  have m := rix_mono (P := P) l2
  rw [spl_rix hg] at m
  omega
end UF
