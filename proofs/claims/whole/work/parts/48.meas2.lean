section ME2
variable {P : Nat → Nat} {m8 : Bool}
def rimB (P : Nat → Nat) (m8 : Bool) (R n : Nat) : Prop := ∃ y, y < n ∧ rp P m8 y = R ∧ onrim y
def MeQ (P : Nat → Nat) (m8 : Bool) (SZ RM BT LT RT : Nat → Int) (RR : Nat → Bool) (R n : Nat) : Prop := SZ (rix P R) = ((fb_ct (fun x => cb (rp P m8 x = R)) n : Nat) : Int) ∧ (dk P R = true → RM (rix P R) = ((fb_sm (fun x => if cb (rp P m8 x = R) then sdN P x else 0) n : Nat) : Int)) ∧ BT (rix P R) = edN P m8 false true R n ∧ LT (rix P R) = edN P m8 true false R n ∧ RT (rix P R) = edN P m8 true true R n ∧ (RR (rix P R) = true ↔ rimB P m8 R n)
def MeI (P : Nat → Nat) (m8 : Bool) (SZ RM BT LT RT : Nat → Int) (RR : Nat → Bool) (n : Nat) : Prop := ∀ R, R < n → rp P m8 R = R → MeQ P m8 SZ RM BT LT RT RR R n
def MeP (P : Nat → Nat) (m8 : Bool) (SZ RM LT RT : Nat → Int) (RR : Nat → Bool) (R n : Nat) : Prop := SZ (rix P R) = ((fb_ct (fun x => cb (rp P m8 x = R)) n : Nat) : Int) ∧ (dk P R = true → RM (rix P R) = ((fb_sm (fun x => if cb (rp P m8 x = R) then sdN P x else 0) n : Nat) : Int)) ∧ (∀ z : Int, 0 ≤ z → z ≤ 15 → min (LT (rix P R)) z = min (edN P m8 true false R n) z) ∧ (∀ z : Int, 0 ≤ z → z ≤ 15 → max (RT (rix P R)) z = max (edN P m8 true true R n) z) ∧ (RR (rix P R) = true ↔ rimB P m8 R n) ∧ (-1 ≤ LT (rix P R) ∧ LT (rix P R) ≤ 16) ∧ (-1 ≤ RT (rix P R) ∧ RT (rix P R) ≤ 16)
def MeO (P : Nat → Nat) (m8 : Bool) (SZ RM BT LT RT : Nat → Int) (RR : Nat → Bool) (R0 n : Nat) : Prop := ∀ R, R < n → rp P m8 R = R → R ≠ R0 → MeQ P m8 SZ RM BT LT RT RR R n
theorem head_rix {R : Nat} (hR : R < 256) (h : rp P m8 R = R) : spl P (rix P R) = R := by
  have s := rp_stt hR h
  rw [rix_start s]; exact spl_of hR s
theorem head_inj {R Q : Nat} (hR : R < 256) (hQ : Q < 256) (h : rp P m8 R = R) (h2 : rp P m8 Q = Q) (e : rix P R = rix P Q) : R = Q := by
  rw [← head_rix hR h, e, head_rix hQ h2]
theorem head_run {i R : Nat} (hi : i < sR P 256) (hR : R < epl P i + 1) (h : rp P m8 R = R) : R < spl P i ∨ R = spl P i := by
  rcases Nat.lt_or_ge R (spl P i) with q | q
  · exact Or.inl q
  · right
    have := run_rp (m8 := m8) (k := R - spl P i) hi (by omega)
    rw [show spl P i + (R - spl P i) = R by omega, h] at this
    have l := rp_self (P := P) (m8 := m8) (spl P i)
    omega
theorem MeP.of {SZ RM BT LT RT : Nat → Int} {RR : Nat → Bool} {R n : Nat} (hn : n ≤ 256) (h : MeQ P m8 SZ RM BT LT RT RR R n) : MeP P m8 SZ RM LT RT RR R n := by
  obtain ⟨h1, h2, h3, h4, h5, h6⟩ := h
  exact ⟨h1, h2, fun z _ _ => by rw [h4], fun z _ _ => by rw [h5], h6, by rw [h4]; exact edN_rng _ _ _ n hn, by rw [h5]; exact edN_rng _ _ _ n hn⟩
theorem no_mem {R y : Nat} (h : y < R) : ¬ rp P m8 y = R := fun e => by have := rp_self (P := P) (m8 := m8) y; omega
theorem MeP.clear {SZ RM LT RT : Nat → Int} {RR : Nat → Bool} {R g : Nat} (hg : g = rix P R) : MeP P m8 (uZ SZ g 0) (uZ RM g 0) (uZ LT g 15) (uZ RT g 0) (uB RR g false) R R := by
  subst hg
  have e1 : fb_ct (fun x => cb (rp P m8 x = R)) R = 0 := fb_ct_zero.mpr (fun y hy => cb_f.mpr (no_mem hy))
  have e2 : fb_sm (fun x => if cb (rp P m8 x = R) then sdN P x else 0) R = 0 := by
    have := sm_off (P := P) (m8 := m8) (R := R) (s := 0) R (fun j hj => no_mem (by omega))
    rw [Nat.zero_add] at this
    exact this
  have e3 : edN P m8 true false R R = 16 := by
    have := edN_off (P := P) (m8 := m8) (c := true) (g := false) (R := R) (s := 0) R (fun j hj => no_mem (by omega))
    rw [Nat.zero_add] at this
    exact this
  have e4 : edN P m8 true true R R = -1 := by
    have := edN_off (P := P) (m8 := m8) (c := true) (g := true) (R := R) (s := 0) R (fun j hj => no_mem (by omega))
    rw [Nat.zero_add] at this
    exact this
  unfold MeP
  rw [uZ_s, uZ_s, uZ_s, uZ_s, uB_s, e1, e2, e3, e4]
  exact ⟨rfl, fun _ => rfl, fun z z1 z2 => by omega, fun z z1 z2 => by omega, ⟨fun z => absurd z (by decide), fun ⟨y, y1, y2, _⟩ => absurd y2 (no_mem y1)⟩, by omega, by omega⟩
theorem MeO.of {SZ RM BT LT RT : Nat → Int} {RR : Nat → Bool} {R0 n : Nat} (h : MeI P m8 SZ RM BT LT RT RR n) : MeO P m8 SZ RM BT LT RT RR R0 n := fun R a b _ => h R a b
theorem MeO.clear {SZ RM BT LT RT : Nat → Int} {RR : Nat → Bool} {R0 n g : Nat} (hn : n ≤ 256) (h0 : R0 < 256) (hh : rp P m8 R0 = R0) (hg : g = rix P R0) (h : MeI P m8 SZ RM BT LT RT RR n) : MeO P m8 (uZ SZ g 0) (uZ RM g 0) BT (uZ LT g 15) (uZ RT g 0) (uB RR g false) R0 n := by
  intro R hR h1 h2
  have q : rix P R ≠ g := fun e => h2 (head_inj (by omega) h0 h1 hh (e.trans hg))
  have := h R hR h1
  unfold MeQ at *
  rw [uZ_n _ _ q, uZ_n _ _ q, uZ_n _ _ q, uZ_n _ _ q, uB_n _ _ q]
  exact this
theorem MeI.step {SZ RM BT LT RT : Nat → Int} {RR : Nat → Bool} {i R0 g : Nat} (hi : i < sR P 256) (hR0 : R0 = rp P m8 (spl P i)) (hg : g = rix P R0) (hq : MeP P m8 SZ RM LT RT RR R0 (spl P i)) (ho : MeO P m8 SZ RM BT LT RT RR R0 (spl P i)) {v sc ec rr : Int} {bb : Bool} (hv : dk P (spl P i) = true → v = ((2 + pop (andn (colN (spl P i % 16) (epl P i % 16)) (lnN P (((spl P i / 16 : Nat) : Int) - 1))) + pop (andn (colN (spl P i % 16) (epl P i % 16)) (lnN P (((spl P i / 16 : Nat) : Int) + 1))) : Nat) : Int)) (hs : sc = ((spl P i % 16 : Nat) : Int)) (he : ec = ((epl P i % 16 : Nat) : Int)) (hr : rr = ((spl P i / 16 : Nat) : Int)) (hbb : bb = true ↔ (RR g = true ∨ spl P i / 16 = 0 ∨ spl P i / 16 = 15 ∨ spl P i % 16 = 0 ∨ epl P i % 16 = 15)) : MeI P m8 (uZ SZ g (SZ g + (ec - sc + 1))) (uZ RM g (RM g + v)) (uZ BT g rr) (uZ LT g (min (LT g) sc)) (uZ RT g (max (RT g) ec)) (uB RR g bb) (epl P i + 1) := by
  have hge := epl_ge hi
  have hrow := run_row hi
  have hk : epl P i + 1 = spl P i + (epl P i + 1 - spl P i) := by omega
  have hm : ∀ j, j < epl P i + 1 - spl P i → rp P m8 (spl P i + j) = R0 := fun j hj => by rw [hR0]; exact run_rp hi (by omega)
  intro R hR hh
  by_cases q : R = R0
  · subst q
    subst hg
    obtain ⟨p1, p2, p3, p4, p5, -, -⟩ := hq
    unfold MeQ
    rw [uZ_s, uZ_s, uZ_s, uZ_s, uZ_s, uB_s]
    have hm' : ∀ j, j ≤ epl P i - spl P i → rp P m8 (spl P i + j) = R := fun j hj => hm j (by omega)
    have hk' : epl P i + 1 = spl P i + (epl P i - spl P i) + 1 := by omega
    refine ⟨?_, fun hd => ?_, ?_, ?_, ?_, ?_⟩
    · rw [hk, ct_on _ hm, p1, hs, he]; omega
    · have d0 : dk P (spl P i) = true := by rw [← hd, hR0, rp_dk]
      rw [hk, sm_on _ hm, p2 hd, run_sides' hi d0, hv d0]; omega
    · rw [hk', edB _ hm' (by omega), hr]
    · rw [hk', edL _ hm' (by omega), hs, p3 _ (by omega) (by omega)]
    · rw [hk', edR _ hm' (by omega), he, p4 _ (by omega) (by omega), show epl P i % 16 = spl P i % 16 + (epl P i - spl P i) by omega]
    · rw [hbb, p5]
      constructor
      · rintro (⟨y, y1, y2, y3⟩ | z | z | z | z)
        · exact ⟨y, by omega, y2, y3⟩
        · exact ⟨spl P i, by omega, hR0.symm, Or.inl z⟩
        · exact ⟨spl P i, by omega, hR0.symm, Or.inr (Or.inl z)⟩
        · exact ⟨spl P i, by omega, hR0.symm, Or.inr (Or.inr (Or.inl z))⟩
        · have := hm' (epl P i - spl P i) (Nat.le_refl _)
          rw [show spl P i + (epl P i - spl P i) = epl P i by omega] at this
          exact ⟨epl P i, by omega, this, Or.inr (Or.inr (Or.inr z))⟩
      · rintro ⟨y, y1, y2, y3⟩
        rcases Nat.lt_or_ge y (spl P i) with z | z
        · exact Or.inl ⟨y, z, y2, y3⟩
        · right
          unfold onrim at y3
          omega
  · have hlt : R < spl P i := by
      rcases head_run hi hR hh with z | z
      · exact z
      · exact absurd (by rw [hR0, ← z, hh]) q
    have s1 := (spl_spec hi).1
    have hne : rix P R ≠ g := fun e => q (head_inj (by omega) (by rw [hR0]; exact rp_lt s1) hh (by rw [hR0, rp_rp]) (e.trans hg))
    have hoff : ∀ j, j < epl P i + 1 - spl P i → ¬ rp P m8 (spl P i + j) = R := fun j hj => by rw [hm j hj]; exact fun e => q e.symm
    obtain ⟨p1, p2, p3, p4, p5, p6⟩ := ho R hlt hh q
    unfold MeQ
    rw [uZ_n _ _ hne, uZ_n _ _ hne, uZ_n _ _ hne, uZ_n _ _ hne, uZ_n _ _ hne, uB_n _ _ hne, hk, ct_off _ hoff, sm_off _ hoff, edN_off _ hoff, edN_off _ hoff, edN_off _ hoff]
    refine ⟨p1, p2, p3, p4, p5, p6.trans ⟨fun ⟨y, y1, y2, y3⟩ => ⟨y, by omega, y2, y3⟩, fun ⟨y, y1, y2, y3⟩ => ⟨y, Nat.lt_of_not_le fun z => ?_, y2, y3⟩⟩⟩
    have := hoff (y - spl P i) (by omega)
    rw [show spl P i + (y - spl P i) = y by omega] at this
    exact this y2
/-! numbers -/
noncomputable def numR (P : Nat → Nat) (m8 : Bool) (R : Nat) : Int := if dk P R = true then ((cD P m8 R : Nat) : Int) else if cb (opn P m8 R) = true then -1 else ((cH P m8 R : Nat) : Int)
def NuI (P : Nat → Nat) (m8 : Bool) (n : Nat) (NU PG HG : Nat → Int) (pc hc lc : Nat) : Prop := (∀ R, R < n → rp P m8 R = R → NU (rix P R) = numR P m8 R) ∧ (∀ R, R < n → isD P m8 R → PG (cD P m8 R) = ((rix P R : Nat) : Int)) ∧ (∀ R, R < n → isH P m8 R → HG (cH P m8 R) = ((rix P R : Nat) : Int)) ∧ pc = cD P m8 n ∧ hc = cH P m8 n ∧ lc = cL P m8 n
theorem NuI.z (NU PG HG : Nat → Int) : NuI P m8 0 NU PG HG 0 0 0 := ⟨fun _ h => absurd h (Nat.not_lt_zero _), fun _ h => absurd h (Nat.not_lt_zero _), fun _ h => absurd h (Nat.not_lt_zero _), rfl, rfl, rfl⟩
theorem hd_ct {i : Nat} {f : Nat → Bool} (hi : i < sR P 256) (hf : ∀ x, f x = true → rp P m8 x = x) : fb_ct f (epl P i + 1) = fb_ct f (spl P i) + (if f (spl P i) = true then 1 else 0) := by
  have hge := epl_ge hi
  have z : fb_ct (fun k => f (spl P i + 1 + k)) (epl P i - spl P i) = 0 := fb_ct_zero.mpr (fun k hk => by
    cases e : f (spl P i + 1 + k)
    · rfl
    · have := head_run (m8 := m8) hi (R := spl P i + 1 + k) (by omega) (hf _ e)
      omega)
  rw [show epl P i + 1 = (spl P i + 1) + (epl P i - spl P i) by omega, fb_ct_split, z]
  rfl
theorem NuI.skip {i : Nat} {NU PG HG : Nat → Int} {pc hc lc : Nat} (hi : i < sR P 256) (hh : ¬ rp P m8 (spl P i) = spl P i) (h : NuI P m8 (spl P i) NU PG HG pc hc lc) : NuI P m8 (epl P i + 1) NU PG HG pc hc lc := by
  obtain ⟨h1, h2, h3, h4, h5, h6⟩ := h
  have lt : ∀ R, R < epl P i + 1 → rp P m8 R = R → R < spl P i := fun R a b => by
    rcases head_run hi a b with z | z
    · exact z
    · exact absurd (by rw [← z]; exact b) hh
  refine ⟨fun R a b => h1 R (lt R a b) b, fun R a b => h2 R (lt R a b.1) b, fun R a b => h3 R (lt R a b.1.1) b, ?_, ?_, ?_⟩
  · rw [h4]; unfold cD; rw [hd_ct (m8 := m8) hi (fun x z => (cb_t.mp z).1), cb_f.mpr (fun z => hh z.1)]; rfl
  · rw [h5]; unfold cH; rw [hd_ct (m8 := m8) hi (fun x z => (cb_t.mp z).1.1), cb_f.mpr (fun z => hh z.1.1)]; rfl
  · rw [h6]; unfold cL; rw [hd_ct (m8 := m8) hi (fun x z => (cb_t.mp z).1), cb_f.mpr (fun z => hh z.1)]; rfl
theorem NuI.nu {i : Nat} {NU NU1 : Nat → Int} (hi : i < sR P 256) (hh : rp P m8 (spl P i) = spl P i) (h : ∀ R, R < spl P i → rp P m8 R = R → NU (rix P R) = numR P m8 R) (h1 : NU1 i = numR P m8 (spl P i)) (h2 : ∀ j, j ≠ i → NU1 j = NU j) : ∀ R, R < epl P i + 1 → rp P m8 R = R → NU1 (rix P R) = numR P m8 R := by
  intro R a b
  rcases head_run hi a b with z | z
  · have s1 := (spl_spec hi).1
    rw [h2 _ (fun e => by have := head_rix (P := P) (m8 := m8) (R := R) (by omega) b; rw [e] at this; omega)]
    exact h R z b
  · rw [z, spl_rix hi]; exact h1
theorem NuI.dark {i : Nat} {NU PG HG : Nat → Int} {pc hc lc : Nat} (hi : i < sR P 256) (hh : rp P m8 (spl P i) = spl P i) (hd : dk P (spl P i) = true) (h : NuI P m8 (spl P i) NU PG HG pc hc lc) {x : Int} : NuI P m8 (epl P i + 1) (uZ (uZ NU i x) i (pc : Int)) (uZ PG pc (i : Int)) HG (pc + 1) hc lc := by
  obtain ⟨h1, h2, h3, h4, h5, h6⟩ := h
  have iD : isD P m8 (spl P i) := ⟨hh, hd⟩
  refine ⟨NuI.nu hi hh h1 (by rw [uZ_s]; unfold numR; rw [if_pos hd, h4]) (fun j hj => by rw [uZ_n _ _ hj, uZ_n _ _ hj]), fun R a b => ?_, fun R a b => ?_, ?_, ?_, ?_⟩
  · rcases head_run hi a b.1 with z | z
    · rw [uZ_n _ _ (by rw [h4]; exact Nat.ne_of_lt (cD_lt z b))]; exact h2 R z b
    · rw [z, ← h4, uZ_s, spl_rix hi]
  · rcases head_run hi a b.1.1 with z | z
    · exact h3 R z b
    · rw [z] at b; have := b.1.2; rw [hd] at this; cases this
  · rw [h4]; unfold cD; rw [hd_ct (m8 := m8) hi (fun x z => (cb_t.mp z).1), cb_t.mpr iD]; rfl
  · rw [h5]; unfold cH; rw [hd_ct (m8 := m8) hi (fun x z => (cb_t.mp z).1.1), cb_f.mpr (fun z => by have := z.1.2; rw [hd] at this; cases this)]; rfl
  · rw [h6]; unfold cL; rw [hd_ct (m8 := m8) hi (fun x z => (cb_t.mp z).1), cb_f.mpr (fun z => by have := z.2; rw [hd] at this; cases this)]; rfl
theorem NuI.opened {i : Nat} {NU PG HG : Nat → Int} {pc hc lc : Nat} (hi : i < sR P 256) (hh : rp P m8 (spl P i) = spl P i) (hd : dk P (spl P i) = false) (hp : opn P m8 (spl P i)) (h : NuI P m8 (spl P i) NU PG HG pc hc lc) : NuI P m8 (epl P i + 1) (uZ NU i (-1)) PG HG pc hc (lc + 1) := by
  obtain ⟨h1, h2, h3, h4, h5, h6⟩ := h
  have nd : ¬ dk P (spl P i) = true := by rw [hd]; decide
  refine ⟨NuI.nu hi hh h1 (by rw [uZ_s]; unfold numR; rw [if_neg nd, if_pos (cb_t.mpr hp)]) (fun j hj => by rw [uZ_n _ _ hj]), fun R a b => ?_, fun R a b => ?_, ?_, ?_, ?_⟩
  · rcases head_run hi a b.1 with z | z
    · exact h2 R z b
    · rw [z] at b; exact absurd b.2 nd
  · rcases head_run hi a b.1.1 with z | z
    · exact h3 R z b
    · rw [z] at b; exact absurd hp b.2
  · rw [h4]; unfold cD; rw [hd_ct (m8 := m8) hi (fun x z => (cb_t.mp z).1), cb_f.mpr (fun z => nd z.2)]; rfl
  · rw [h5]; unfold cH; rw [hd_ct (m8 := m8) hi (fun x z => (cb_t.mp z).1.1), cb_f.mpr (fun z => z.2 hp)]; rfl
  · rw [h6]; unfold cL; rw [hd_ct (m8 := m8) hi (fun x z => (cb_t.mp z).1), cb_t.mpr (show isL P m8 (spl P i) from ⟨hh, hd⟩)]; rfl
theorem NuI.hole {i : Nat} {NU PG HG : Nat → Int} {pc hc lc : Nat} (hi : i < sR P 256) (hh : rp P m8 (spl P i) = spl P i) (hd : dk P (spl P i) = false) (hp : ¬ opn P m8 (spl P i)) (h : NuI P m8 (spl P i) NU PG HG pc hc lc) {x : Int} : NuI P m8 (epl P i + 1) (uZ (uZ NU i x) i (hc : Int)) PG (uZ HG hc (i : Int)) pc (hc + 1) (lc + 1) := by
  obtain ⟨h1, h2, h3, h4, h5, h6⟩ := h
  have nd : ¬ dk P (spl P i) = true := by rw [hd]; decide
  have iH : isH P m8 (spl P i) := ⟨⟨hh, hd⟩, hp⟩
  refine ⟨NuI.nu hi hh h1 (by rw [uZ_s]; unfold numR; rw [if_neg nd, if_neg (fun z => hp (cb_t.mp z)), h5]) (fun j hj => by rw [uZ_n _ _ hj, uZ_n _ _ hj]), fun R a b => ?_, fun R a b => ?_, ?_, ?_, ?_⟩
  · rcases head_run hi a b.1 with z | z
    · exact h2 R z b
    · rw [z] at b; exact absurd b.2 nd
  · rcases head_run hi a b.1.1 with z | z
    · rw [uZ_n _ _ (by rw [h5]; exact Nat.ne_of_lt (cH_lt z b))]; exact h3 R z b
    · rw [z, ← h5, uZ_s, spl_rix hi]
  · rw [h4]; unfold cD; rw [hd_ct (m8 := m8) hi (fun x z => (cb_t.mp z).1), cb_f.mpr (fun z => nd z.2)]; rfl
  · rw [h5]; unfold cH; rw [hd_ct (m8 := m8) hi (fun x z => (cb_t.mp z).1.1), cb_t.mpr iH]; rfl
  · rw [h6]; unfold cL; rw [hd_ct (m8 := m8) hi (fun x z => (cb_t.mp z).1), cb_t.mpr iH.1]; rfl
theorem rim_opn {R : Nat} (h : rp P m8 R = R) : rimB P m8 R 256 ↔ opn P m8 R := by unfold rimB opn; rw [h]
/-- the parting as it is read -/
def PartOK (P : Nat → Nat) (m8 : Bool) (SZ RM BT LT RT : Nat → Int) (RR : Nat → Bool) (NU PG HG : Nat → Int) : Prop := MeI P m8 SZ RM BT LT RT RR 256 ∧ NuI P m8 256 NU PG HG (cD P m8 256) (cH P m8 256) (cL P m8 256)
end ME2
theorem MeP.clear' {P : Nat → Nat} {m8 : Bool} {SZ RM LT RT : Nat → Int} {RR : Nat → Bool} {R n g : Nat} (hn : R = n) (hg : g = rix P R) : MeP P m8 (uZ SZ g 0) (uZ RM g 0) (uZ LT g 15) (uZ RT g 0) (uB RR g false) R n := by
  subst hn; exact MeP.clear hg
