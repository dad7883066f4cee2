/-! ===== what one dot more joins ===== -/
section JN
variable {P : Nat → Nat} {m8 : Bool} {x : Nat}
theorem dk_fl_ne {y : Nat} (h : y ≠ x) : dk (fl1 P x) y = dk P y := by rw [dk_fl1, decide_eq_false h, Bool.xor_false]
theorem dk_fl_eq : dk (fl1 P x) x = !dk P x := by rw [dk_fl1, decide_eq_true rfl]; cases dk P x <;> rfl
def tch (P : Nat → Nat) (m8 : Bool) (x z : Nat) : Prop := ∃ n, n < 256 ∧ dk P n = true ∧ nb m8 n x = true ∧ rp P m8 n = rp P m8 z
theorem ne_dk {y : Nat} (hx0 : dk P x = false) (hd : dk P y = true) : y ≠ x := fun e => by rw [e, hx0] at hd; cases hd
theorem fl_up {y z : Nat} (hx0 : dk P x = false) (hd : dk P y = true) (h : Cn P m8 y z) : Cn (fl1 P x) m8 y z :=
  (h (fun z => dk P z = true ∧ Cn (fl1 P x) m8 y z) (fun a b hab ha => by
    have db : dk P b = true := by rw [← hab.2.2.1]; exact ha.1
    have ea := dk_fl_ne (P := P) (ne_dk hx0 ha.1)
    have eb := dk_fl_ne (P := P) (ne_dk hx0 db)
    exact ⟨db, ha.2.tr (Cn.adj ⟨hab.1, hab.2.1, by rw [ea, eb]; exact hab.2.2.1, by rw [ea]; exact hab.2.2.2⟩)⟩) ⟨hd, Cn.rf y⟩).2
theorem fl_dn {y z : Nat} (hx0 : dk P x = false) (hd : dk P y = true) (hn : ¬ tch P m8 x y) (h : Cn (fl1 P x) m8 y z) : z ≠ x ∧ Cn P m8 y z :=
  h (fun z => z ≠ x ∧ Cn P m8 y z) (fun a b hab ha => by
    have da : dk P a = true := by rw [← ha.2.dkE]; exact hd
    have ea := dk_fl_ne (P := P) ha.1
    by_cases q : b = x
    · subst q
      have nbx := hab.2.2.2
      rw [ea, da] at nbx
      exact absurd ⟨a, hab.1, da, by cases m8 <;> exact nbx, (rp_eq ha.2).symm⟩ hn
    · have eb := dk_fl_ne (P := P) q
      exact ⟨q, ha.2.tr (Cn.adj ⟨hab.1, hab.2.1, by rw [← ea, ← eb]; exact hab.2.2.1, by rw [← ea]; exact hab.2.2.2⟩)⟩) ⟨ne_dk hx0 hd, Cn.rf y⟩
theorem fl_t {y : Nat} (hx : x < 256) (hx0 : dk P x = false) (hd : dk P y = true) (ht : tch P m8 x y) : Cn (fl1 P x) m8 y x := by
  obtain ⟨n, n1, n2, n3, n4⟩ := ht
  refine (fl_up hx0 hd (rp_iff.mp n4.symm)).tr (Cn.adj ⟨n1, hx, ?_, ?_⟩)
  · rw [dk_fl_ne (ne_dk hx0 n2), dk_fl_eq, n2, hx0]; rfl
  · rw [dk_fl_ne (ne_dk hx0 n2), n2]; cases m8 <;> exact n3
theorem isD_fl {z : Nat} (hx : x < 256) (hx0 : dk P x = false) : isD (fl1 P x) m8 z ↔ (z = rp (fl1 P x) m8 x ∨ (isD P m8 z ∧ ¬ tch P m8 x z)) := by
  constructor
  · rintro ⟨h1, h2⟩
    by_cases q : z = x
    · left; rw [q] at h1; rw [q]; exact h1.symm
    · rw [dk_fl_ne q] at h2
      by_cases t : tch P m8 x z
      · left; rw [← rp_eq (fl_t hx hx0 h2 t)]; exact h1.symm
      · right
        have a := rp_le (fl_up hx0 h2 (rp_cn (P := P) (m8 := m8) z))
        have b := rp_self (P := P) (m8 := m8) z
        exact ⟨⟨by omega, h2⟩, t⟩
  · rintro (h | ⟨⟨h1, h2⟩, h3⟩)
    · rw [h]; exact ⟨rp_rp x, by rw [rp_dk, dk_fl_eq, hx0]; rfl⟩
    · have a := rp_le (fl_dn hx0 h2 h3 (rp_cn (P := fl1 P x) (m8 := m8) z)).2
      have b := rp_self (P := fl1 P x) (m8 := m8) z
      exact ⟨by omega, by rw [dk_fl_ne (ne_dk hx0 h2)]; exact h2⟩
theorem ct_one {n j : Nat} (hj : j < n) : fb_ct (fun k => cb (k = j)) n = 1 := by
  have := fb_ct_upd (fun _ => false) true (i := j) (n := n) hj
  rw [fb_ct_zero.mpr (fun _ _ => rfl)] at this
  rw [← show fb_ct (fun k => if k = j then true else false) n = fb_ct (fun k => cb (k = j)) n from fb_ct_cong (fun k _ => by
    by_cases z : k = j
    · rw [if_pos z, cb_t.mpr z]
    · rw [if_neg z, cb_f.mpr z])]
  simpa using this
theorem joins_ct (hx : x < 256) (hx0 : dk P x = false) : cD P m8 256 + 1 = cD (fl1 P x) m8 256 + fb_ct (fun z => cb (isD P m8 z ∧ tch P m8 x z)) 256 := by
  have e1 : cD (fl1 P x) m8 256 = 1 + fb_ct (fun z => cb (isD P m8 z ∧ ¬ tch P m8 x z)) 256 := by
    unfold cD
    rw [fb_ct_cong (q := fun z => cb (z = rp (fl1 P x) m8 x) || cb (isD P m8 z ∧ ¬ tch P m8 x z)) (fun z _ => b_ext' (by rw [cb_t, isD_fl hx hx0, Bool.or_eq_true, cb_t, cb_t])), fb_ct_or, ct_one (rp_lt hx)]
    rintro z _ ⟨a, b⟩
    have a := cb_t.mp a
    have b := cb_t.mp b
    refine (fl_dn hx0 b.1.2 b.2 (show Cn (fl1 P x) m8 z x from ?_)).1 rfl
    rw [a]; exact (rp_cn x).sy
  have e2 : cD P m8 256 = fb_ct (fun z => cb (isD P m8 z ∧ ¬ tch P m8 x z)) 256 + fb_ct (fun z => cb (isD P m8 z ∧ tch P m8 x z)) 256 := by
    rw [← fb_ct_or]
    · unfold cD
      apply fb_ct_cong
      intro z _
      refine b_ext' ?_
      rw [cb_t, Bool.or_eq_true, cb_t, cb_t]
      by_cases t : tch P m8 x z
      · exact ⟨fun h => Or.inr ⟨h, t⟩, fun h => h.elim (fun q => q.1) (fun q => q.1)⟩
      · exact ⟨fun h => Or.inl ⟨h, t⟩, fun h => h.elim (fun q => q.1) (fun q => q.1)⟩
    · rintro z _ ⟨a, b⟩
      exact (cb_t.mp a).2 (cb_t.mp b).2
  omega
/-- parts counted by numbers or by least places -/
theorem by_nums (A : Nat → Bool) : ∀ n, fb_ct (fun z => cb (isD P m8 z) && A (cD P m8 z)) n = fb_ct A (cD P m8 n)
  | 0 => rfl
  | n + 1 => by
    have ih := by_nums A n
    have e : cD P m8 (n + 1) = cD P m8 n + (if cb (isD P m8 n) = true then 1 else 0) := rfl
    show fb_ct _ n + (if (cb (isD P m8 n) && A (cD P m8 n)) = true then 1 else 0) = _
    rw [ih, e]
    cases cb (isD P m8 n)
    · rfl
    · show _ = fb_ct A (cD P m8 n + 1)
      rw [fb_ct_succ, Bool.true_and]
/-- the number seen at the j-th of the nine around a place -/
noncomputable def pnF (P : Nat → Nat) (m8 : Bool) (ro co j : Nat) : Int := if (m8 || decide (j / 3 = 1) || decide (j % 3 = 1)) = true then numA P m8 ((ro : Int) - 1 + ((j / 3 : Nat) : Int)) ((co : Int) - 1 + ((j % 3 : Nat) : Int)) true else -1
theorem numA_t (r c : Int) : numA P m8 r c true = -1 ∨ ∃ v, v < cD P m8 256 ∧ numA P m8 r c true = ((v : Nat) : Int) := by
  unfold numA
  by_cases q : 0 ≤ r ∧ r < 16 ∧ 0 ≤ c ∧ c < 16
  · rw [if_pos q]
    by_cases d : dk P (16 * r.toNat + c.toNat) = true
    · rw [if_pos d]
      right
      refine ⟨_, cD_lt (rp_lt (x := 16 * r.toNat + c.toNat) (by omega)) (isD_rp d), ?_⟩
      unfold numR
      rw [if_pos (by rw [rp_dk]; exact d)]
    · rw [if_neg d]; exact Or.inl rfl
  · rw [if_neg q]; exact Or.inl rfl
theorem pnF_t (ro co j : Nat) : pnF P m8 ro co j = -1 ∨ ∃ v, v < cD P m8 256 ∧ pnF P m8 ro co j = ((v : Nat) : Int) := by
  unfold pnF
  split
  · exact numA_t _ _
  · exact Or.inl rfl
def pnE (P : Nat → Nat) (m8 : Bool) (ro co n : Nat) (v : Nat) : Prop := ∃ j, j < n ∧ pnF P m8 ro co j = (v : Int)
theorem pn_tch {ro co z : Nat} (hr : ro < 16) (hc : co < 16) (hz : isD P m8 z) : pnE P m8 ro co 9 (cD P m8 z) ↔ tch P m8 (16 * ro + co) z := by
  constructor
  · rintro ⟨j, hj, h⟩
    unfold pnF at h
    by_cases nr : (m8 || decide (j / 3 = 1) || decide (j % 3 = 1)) = true
    · rw [if_pos nr] at h
      unfold numA at h
      by_cases q : 0 ≤ (ro : Int) - 1 + ((j / 3 : Nat) : Int) ∧ (ro : Int) - 1 + ((j / 3 : Nat) : Int) < 16 ∧ 0 ≤ (co : Int) - 1 + ((j % 3 : Nat) : Int) ∧ (co : Int) - 1 + ((j % 3 : Nat) : Int) < 16
      · rw [if_pos q] at h
        obtain ⟨a, ha⟩ : ∃ a, a = ((ro : Int) - 1 + ((j / 3 : Nat) : Int)).toNat := ⟨_, rfl⟩
        obtain ⟨b, hb⟩ : ∃ b, b = ((co : Int) - 1 + ((j % 3 : Nat) : Int)).toNat := ⟨_, rfl⟩
        rw [← ha, ← hb] at h
        have a1 : a + 1 = ro + j / 3 := by omega
        have b1 : b + 1 = co + j % 3 := by omega
        by_cases d : dk P (16 * a + b) = true
        · rw [if_pos d] at h
          unfold numR at h
          rw [if_pos (by rw [rp_dk]; exact d)] at h
          have e := cD_inj (isD_rp (m8 := m8) d) hz (by omega)
          refine ⟨16 * a + b, by omega, d, nb_iff.mpr ⟨by omega, ?_⟩, by rw [e]; exact hz.1.symm⟩
          rw [Bool.or_eq_true, Bool.or_eq_true] at nr
          rcases nr with (nr | nr) | nr
          · exact Or.inl nr
          · have := of_decide_eq_true nr; exact Or.inr (Or.inl (by omega))
          · have := of_decide_eq_true nr; exact Or.inr (Or.inr (by omega))
        · rw [if_neg d] at h; omega
      · rw [if_neg q] at h; omega
    · rw [if_neg nr] at h; omega
  · rintro ⟨n, n1, n2, n3, n4⟩
    obtain ⟨⟨c1, c2, c3, c4⟩, c5⟩ := nb_iff.mp n3
    have q1 : (16 * ro + co) / 16 = ro := by omega
    have q2 : (16 * ro + co) % 16 = co := by omega
    rw [q1] at c1 c2 c5
    rw [q2] at c3 c4 c5
    have j1 : (3 * (n / 16 + 1 - ro) + (n % 16 + 1 - co)) / 3 = n / 16 + 1 - ro := by omega
    have j2 : (3 * (n / 16 + 1 - ro) + (n % 16 + 1 - co)) % 3 = n % 16 + 1 - co := by omega
    refine ⟨3 * (n / 16 + 1 - ro) + (n % 16 + 1 - co), by omega, ?_⟩
    unfold pnF
    rw [j1, j2, if_pos ?_]
    · rw [show (ro : Int) - 1 + ((n / 16 + 1 - ro : Nat) : Int) = ((n / 16 : Nat) : Int) by omega, show (co : Int) - 1 + ((n % 16 + 1 - co : Nat) : Int) = ((n % 16 : Nat) : Int) by omega, numA_D n1, if_pos n2, n4, hz.1]
    · rw [Bool.or_eq_true, Bool.or_eq_true]
      rcases c5 with c5 | c5 | c5
      · exact Or.inl (Or.inl c5)
      · exact Or.inl (Or.inr (decide_eq_true (by omega)))
      · exact Or.inr (decide_eq_true (by omega))
theorem joins_num {ro co : Nat} (hr : ro < 16) (hc : co < 16) (hx0 : dk P (16 * ro + co) = false) : ((fb_ct (fun v => cb (pnE P m8 ro co 9 v)) (cD P m8 256) : Nat) : Int) = (cD P m8 256 : Int) - (cD (fl1 P (16 * ro + co)) m8 256 : Int) + 1 := by
  have a := joins_ct (P := P) (m8 := m8) (x := 16 * ro + co) (by omega) hx0
  have b := by_nums (P := P) (m8 := m8) (fun v => cb (pnE P m8 ro co 9 v)) 256
  have c : fb_ct (fun z => cb (isD P m8 z ∧ tch P m8 (16 * ro + co) z)) 256 = fb_ct (fun z => cb (isD P m8 z) && cb (pnE P m8 ro co 9 (cD P m8 z))) 256 := by
    apply fb_ct_cong
    intro z _
    refine b_ext' ?_
    rw [cb_t, Bool.and_eq_true, cb_t, cb_t]
    exact ⟨fun h => ⟨h.1, (pn_tch hr hc h.1).mpr h.2⟩, fun h => ⟨h.1, (pn_tch hr hc h.1).mp h.2⟩⟩
  omega
/-- what has been touched so far -/
def toE (TO : Nat → Int) (t : Nat) (p : Int) : Prop := ∃ s, s < t ∧ TO s = p
def TcI (P : Nat → Nat) (m8 : Bool) (ro co : Nat) (TO : Nat → Int) (t n : Nat) : Prop := t = fb_ct (fun v => cb (pnE P m8 ro co n v)) (cD P m8 256) ∧ (∀ v, v < cD P m8 256 → (pnE P m8 ro co n v ↔ toE TO t (v : Int))) ∧ (∀ s, s < t → 0 ≤ TO s ∧ TO s ≤ 255) ∧ t ≤ n ∧ (4 < n → t + 1 ≤ n)
theorem TcI.z (ro co : Nat) (TO : Nat → Int) : TcI P m8 ro co TO 0 0 := ⟨(fb_ct_zero.mpr (fun v _ => cb_f.mpr (fun ⟨j, h, _⟩ => absurd h (Nat.not_lt_zero j)))).symm, fun v _ => ⟨fun ⟨j, h, _⟩ => absurd h (Nat.not_lt_zero j), fun ⟨j, h, _⟩ => absurd h (Nat.not_lt_zero j)⟩, fun s h => absurd h (Nat.not_lt_zero s), Nat.le_refl _, fun h => absurd h (by decide)⟩
theorem pnE_s {ro co n v : Nat} : pnE P m8 ro co (n + 1) v ↔ (pnE P m8 ro co n v ∨ pnF P m8 ro co n = (v : Int)) := by
  constructor
  · rintro ⟨j, h, e⟩
    by_cases q : j = n
    · subst q; exact Or.inr e
    · exact Or.inl ⟨j, by omega, e⟩
  · rintro (⟨j, h, e⟩ | e)
    · exact ⟨j, by omega, e⟩
    · exact ⟨n, by omega, e⟩
theorem TcI.same {ro co t n : Nat} {TO : Nat → Int} (h : TcI P m8 ro co TO t n) (hs : pnF P m8 ro co n = -1 ∨ toE TO t (pnF P m8 ro co n)) (h4 : n = 4 → pnF P m8 ro co n = -1) : TcI P m8 ro co TO t (n + 1) := by
  obtain ⟨a, b, c, d, e⟩ := h
  have k : ∀ v, v < cD P m8 256 → (pnE P m8 ro co (n + 1) v ↔ pnE P m8 ro co n v) := by
    intro v hv
    rw [pnE_s]
    constructor
    · rintro (z | z)
      · exact z
      · rcases hs with q | q
        · rw [q] at z; omega
        · rw [z] at q; exact (b v hv).mpr q
    · exact Or.inl
  refine ⟨a.trans (fb_ct_cong (fun v hv => b_ext' (by rw [cb_t, cb_t, k v hv]))), fun v hv => (k v hv).trans (b v hv), c, by omega, fun _ => by omega⟩
theorem TcI.more {ro co t n v : Nat} {TO : Nat → Int} (h : TcI P m8 ro co TO t n) (hv : v < cD P m8 256) (hp : pnF P m8 ro co n = (v : Int)) (hn : ¬ toE TO t (v : Int)) (h4 : ¬ n = 4) (hv2 : v ≤ 255) : TcI P m8 ro co (uZ TO t (v : Int)) (t + 1) (n + 1) := by
  obtain ⟨a, b, c, d, e⟩ := h
  have nv : cb (pnE P m8 ro co n v) = false := cb_f.mpr (fun z => hn ((b v hv).mp z))
  refine ⟨?_, fun u hu => ?_, fun s hs => ?_, by omega, fun _ => by omega⟩
  · have up := fb_ct_upd (fun v => cb (pnE P m8 ro co n v)) true (i := v) hv
    rw [nv] at up
    simp only [Bool.false_eq_true, if_false, if_true] at up
    rw [a, ← Nat.add_zero (fb_ct _ _ + 1), ← show fb_ct (fun k => if k = v then true else cb (pnE P m8 ro co n k)) (cD P m8 256) = fb_ct (fun v => cb (pnE P m8 ro co (n + 1) v)) (cD P m8 256) from fb_ct_cong (fun k _ => b_ext' (by
      rw [cb_t, pnE_s, hp]
      by_cases z : k = v
      · rw [if_pos z, z]; exact ⟨fun _ => Or.inr rfl, fun _ => rfl⟩
      · rw [if_neg z, cb_t]; exact ⟨Or.inl, fun q => q.elim id (fun q => absurd (by omega) z)⟩))]
    omega
  · rw [pnE_s, hp]
    constructor
    · rintro (z | z)
      · obtain ⟨s, s1, s2⟩ := (b u hu).mp z
        exact ⟨s, by omega, by rw [uZ_n _ _ (by omega)]; exact s2⟩
      · exact ⟨t, by omega, by rw [uZ_s]; exact z⟩
    · rintro ⟨s, s1, s2⟩
      by_cases q : s = t
      · subst q; rw [uZ_s] at s2; exact Or.inr s2
      · rw [uZ_n _ _ q] at s2; exact Or.inl ((b u hu).mpr ⟨s, by omega, s2⟩)
  · by_cases q : s = t
    · subst q; rw [uZ_s]; omega
    · rw [uZ_n _ _ q]; exact c s (by omega)
theorem pnF_4 {ro co : Nat} (hr : ro < 16) (hc : co < 16) (hx0 : dk P (16 * ro + co) = false) : pnF P m8 ro co 4 = -1 := by
  unfold pnF
  rw [if_pos (by cases m8 <;> rfl), show (ro : Int) - 1 + ((4 / 3 : Nat) : Int) = (ro : Int) by omega, show (co : Int) - 1 + ((4 % 3 : Nat) : Int) = (co : Int) by omega, numA_in hr hc, if_neg (by rw [hx0]; decide)]
end JN
