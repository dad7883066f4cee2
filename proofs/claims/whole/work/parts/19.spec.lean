/-! ===== what each call answers ===== -/
def rowS (P : Nat → Nat) (r w : Int) : Int := if 0 ≤ r ∧ r ≤ 15 then (if w = 0 then (P r.toNat : Int) else if w = 1 then (rnN (P r.toNat) : Int) else -1000000002) else -1000000001
def rimT (P : Nat → Nat) (n : Nat) : Nat := fb_sm (fun x => if dk P x then sdN P x else 0) n
noncomputable def toldS (P : Nat → Nat) (m8 : Bool) (md : Int) (um : Nat) (w : Int) : Int :=
  if w = 0 then md else if w = 1 then (dots P : Int) else if w = 2 then (cD P m8 256 : Int) else if w = 3 then (cH P m8 256 : Int) else if w = 4 then (cL P m8 256 : Int) else if w = 5 then (cD P m8 256 : Int) - (cH P m8 256 : Int) + 1000 else
  if w = 6 then (runsT P : Int) else if w = 7 then (rimT P 256 : Int) else if w = 8 then mxD P m8 (cD P m8 256) else if w = 9 then lgB P m8 (cD P m8 256) else if w = 10 then (um : Int) else -1000000002
theorem toldS_out {P : Nat → Nat} {m8 : Bool} {md : Int} {um : Nat} {w : Int} (h : w < 0 ∨ 10 < w) : toldS P m8 md um w = -1000000002 := by
  unfold toldS
  rw [if_neg (by omega), if_neg (by omega), if_neg (by omega), if_neg (by omega), if_neg (by omega), if_neg (by omega), if_neg (by omega), if_neg (by omega), if_neg (by omega), if_neg (by omega), if_neg (by omega)]
noncomputable def dotS (P : Nat → Nat) (m8 : Bool) (x : Nat) (w : Int) : Int :=
  if w = 0 then (bZ (dk P x) : Int) else if w = 1 then (if dk P x then (cD P m8 (rp P m8 x) : Int) else -1) else if w = 2 then (if dk P x then -1 else if cb (opn P m8 x) then -1 else (cH P m8 (rp P m8 x) : Int)) else
  if w = 3 then (if dk P x then -1 else (cD P m8 256 : Int) - (cD (fl1 P x) m8 256 : Int) + 1) else if w = 4 then (if dk P x then (cD (fl1 P x) m8 256 : Int) - (cD P m8 256 : Int) + 1 else -1) else -1000000002
theorem dotS_out {P : Nat → Nat} {m8 : Bool} {x : Nat} {w : Int} (h : w < 0 ∨ 4 < w) : dotS P m8 x w = -1000000002 := by
  unfold dotS
  rw [if_neg (by omega), if_neg (by omega), if_neg (by omega), if_neg (by omega), if_neg (by omega)]
noncomputable def partS (P : Nat → Nat) (m8 : Bool) (p : Nat) (w : Int) : Int :=
  if w = 0 then (szR P m8 (selD P m8 p) : Int) else if w = 1 then (rimR P m8 (selD P m8 p) : Int) else if w = 2 then edN P m8 false false (selD P m8 p) 256 else if w = 3 then edN P m8 false true (selD P m8 p) 256 else if w = 4 then edN P m8 true false (selD P m8 p) 256 else
  if w = 5 then edN P m8 true true (selD P m8 p) 256 else if w = 6 then (hoN P m8 p (cH P m8 256) : Int) else if w = 7 then lieR P m8 (selD P m8 p) else if w = 8 then (deepR P m8 (selD P m8 p) : Int) else if w = 9 then (selD P m8 p : Int) else -1000000002
theorem partS_out {P : Nat → Nat} {m8 : Bool} {p : Nat} {w : Int} (h : w < 0 ∨ 9 < w) : partS P m8 p w = -1000000002 := by
  unfold partS
  rw [if_neg (by omega), if_neg (by omega), if_neg (by omega), if_neg (by omega), if_neg (by omega), if_neg (by omega), if_neg (by omega), if_neg (by omega), if_neg (by omega), if_neg (by omega)]
noncomputable def holeS (P : Nat → Nat) (m8 : Bool) (k : Nat) (w : Int) : Int :=
  if w = 0 then (szR P m8 (selH P m8 k) : Int) else if w = 1 then (cD P m8 (rp P m8 (selH P m8 k - 16)) : Int) else if w = 2 then (inN P m8 k (cD P m8 256) : Int) else if w = 3 then (selH P m8 k : Int) else -1000000002
theorem holeS_out {P : Nat → Nat} {m8 : Bool} {k : Nat} {w : Int} (h : w < 0 ∨ 3 < w) : holeS P m8 k w = -1000000002 := by
  unfold holeS
  rw [if_neg (by omega), if_neg (by omega), if_neg (by omega), if_neg (by omega)]
theorem mxD_rng {P : Nat → Nat} {m8 : Bool} : ∀ n, -1 ≤ mxD P m8 n ∧ mxD P m8 n ≤ 256
  | 0 => by unfold mxD; omega
  | n + 1 => by
    have a := mxD_rng (P := P) (m8 := m8) n
    have b : deepR P m8 (selD P m8 n) ≤ 256 := dpN_le 256 _
    unfold mxD
    omega
theorem rimT_le (P : Nat → Nat) (n : Nat) : rimT P n ≤ n * 4 := fb_sm_bound (fun k _ => by split; exact sdN_le _ _; omega)
/-! ===== draws, many dots turned, the state that goes on ===== -/
def rowsF (P : Nat → Nat) (md : Int) : Nat → Int := fun k => if k < 16 then (P k : Int) else md
theorem nxS_ex (v : Nat) : ∃ z : Nat, z = (v * 1103515245 + 12345) % 2147483648 := ⟨_, rfl⟩
/-- the seed behind a draw (held so that nothing unfolds it) -/
noncomputable def nxS (v : Nat) : Nat := Classical.choose (nxS_ex v)
theorem nxS_eq (v : Nat) : nxS v = (v * 1103515245 + 12345) % 2147483648 := Classical.choose_spec (nxS_ex v)
noncomputable def dSd (v : Nat) : Nat → Nat
  | 0 => v
  | n + 1 => nxS (dSd v n)
def plc (v : Nat) : Nat := v / 65536 % 256
noncomputable def dP (P : Nat → Nat) (v : Nat) : Nat → (Nat → Nat)
  | 0 => P
  | n + 1 => fl1 (dP P v n) (plc (dSd v (n + 1)))
noncomputable def dU (U : Nat → Int) (P : Nat → Nat) (md : Int) (v a : Nat) : Nat → (Nat → Int)
  | 0 => U
  | n + 1 => pushN (dU U P md v a n) (rowsF (dP P v n) md) ((a + n) % 30) 17
theorem push_cg {U U2 F F2 : Nat → Int} {a : Nat} (hU : ∀ k, k < 510 → U k = U2 k) (hF : ∀ k, k < 17 → F k = F2 k) : ∀ k, k < 510 → pushN U F a 17 k = pushN U2 F2 a 17 k := by
  intro k hk
  unfold pushN
  by_cases q : 17 * a ≤ k ∧ k < 17 * a + 17
  · rw [if_pos q, if_pos q]; exact hF _ (by omega)
  · rw [if_neg q, if_neg q]; exact hU k hk
theorem Pic.rows {F : Nat → Int} {P : Nat → Nat} {md : Int} (h : Pic F P) (hm : F 16 = md) : ∀ k, k < 17 → F k = rowsF P md k := by
  intro k hk
  unfold rowsF
  by_cases q : k < 16
  · rw [if_pos q]; exact (h k q).1
  · rw [if_neg q, show k = 16 by omega]; exact hm
theorem nxS_lt (v : Nat) : nxS v < 2147483648 := by rw [nxS_eq]; exact Nat.mod_lt _ (by decide)
theorem plc_lt (v : Nat) : plc v < 256 := Nat.mod_lt _ (by decide)
theorem Pic.fl {F : Nat → Int} {P : Nat → Nat} (h : Pic F P) {x : Nat} (hx : x < 256) : Pic (uZ F (x / 16) ((P (x / 16) ^^^ bit x : Nat) : Int)) (fl1 P x) := h.put _ (xor_le (h _ (by omega)).2 (bit_lt x))
/-- the same moved: all that is of one is, moved, of the other -/
noncomputable def alT (P : Nat → Nat) (m8 : Bool) (R S x : Nat) : Bool :=
  !(cb (rp P m8 x = R)) || (decide ((0 ≤ (x : Int) / 16 + ((S : Int) / 16 - (R : Int) / 16) ∧ (x : Int) / 16 + ((S : Int) / 16 - (R : Int) / 16) ≤ 15) ∧ (0 ≤ (x : Int) % 16 + ((S : Int) % 16 - (R : Int) % 16) ∧ (x : Int) % 16 + ((S : Int) % 16 - (R : Int) % 16) ≤ 15)) && cb (rp P m8 (16 * ((x : Int) / 16 + ((S : Int) / 16 - (R : Int) / 16)) + ((x : Int) % 16 + ((S : Int) % 16 - (R : Int) % 16))).toNat = S))
noncomputable def alN (P : Nat → Nat) (m8 : Bool) (R S : Nat) : Nat → Bool
  | 0 => decide ((szR P m8 R : Int) = (szR P m8 S : Int))
  | n + 1 => alN P m8 R S n && alT P m8 R S n
theorem alN_f {P : Nat → Nat} {m8 : Bool} {R S n : Nat} (h : alN P m8 R S n = false) : ∀ k, alN P m8 R S (n + k) = false
  | 0 => h
  | k + 1 => by
    show (alN P m8 R S (n + k) && alT P m8 R S (n + k)) = false
    rw [alN_f h k]; rfl
def toP (F : Nat → Int) (a : Nat) : Nat → Nat := fun k => (F (a + k)).toNat
theorem ld_step {F U : Nat → Int} {a i : Nat} (h : ∀ k, k < i → F k = U (a + k)) : ∀ k, k < i + 1 → uZ F i (U (a + i)) k = U (a + k) := by
  intro k hk
  by_cases e : k = i
  · subst e; rw [uZ_s]
  · rw [uZ_n _ _ e]; exact h k (by omega)
theorem Pic.ld {F U : Nat → Int} {a : Nat} (h : ∀ k, k < 17 → F k = U (a + k)) (hb : ∀ k, k < 17 → 0 ≤ U (a + k) ∧ U (a + k) ≤ 65535) : Pic F (toP U a) := by
  intro k hk
  have := hb k (by omega)
  unfold toP
  exact ⟨by rw [h k (by omega)]; omega, by omega⟩
theorem zl_draw {v : Nat} (h : v < 2147483648) : (((zI (v : Int)).toInt64 * 1103515245 + 12345) - ((zI (v : Int)).toInt64 * 1103515245 + 12345) / 2147483648 * 2147483648).toInt32 = zI ((nxS v : Nat) : Int) := by
  rw [zI_nat, nI_l (by omega)]
  rw [show (1103515245 : Int64) = lN 1103515245 from rfl, show (12345 : Int64) = lN 12345 from rfl, show (2147483648 : Int64) = lN 2147483648 from rfl]
  rw [lN_mul, lN_add]
  have hb : v * 1103515245 + 12345 < 2 ^ 63 := by
    have : v * 1103515245 ≤ 2147483647 * 1103515245 := Nat.mul_le_mul_right _ (by omega)
    omega
  rw [pk_lRem hb (by decide) (by decide), lN_i, zI_nat, nxS_eq]
theorem push_step34 {U U1 F : Nat → Int} {a i : Nat} (h : ∀ k, k < 34 → U1 k = pushN U F a i k) : ∀ k, k < 34 → uZ U1 (17 * a + i) (F i) k = pushN U F a (i + 1) k := by
  intro k hk
  by_cases e : k = 17 * a + i
  · subst e
    rw [uZ_s]
    unfold pushN
    rw [if_pos (by omega), show 17 * a + i - 17 * a = i by omega]
  · rw [uZ_n _ _ e, h k hk]
    unfold pushN
    by_cases q : 17 * a ≤ k ∧ k < 17 * a + i
    · rw [if_pos q, if_pos (by omega)]
    · rw [if_neg q, if_neg (by omega)]
theorem Lab.dotH {P : Nat → Nat} {m8 : Bool} {NU DF LF HA : Nat → Int} (h : Lab P m8 NU DF LF HA) {x : Nat} (hx : x < 256) (hd : dk P x = false) : HA (cL P m8 (rp P m8 x)) = if cb (opn P m8 x) then -1 else (cH P m8 (rp P m8 x) : Int) := by
  have := h.2.2 _ (rp_lt hx) (isL_rp hd)
  by_cases ho : opn P m8 x
  · rw [if_pos (cb_t.mpr ho)]; exact this.2.1 ((opn_rp _).mpr ho)
  · rw [if_neg (fun z => ho (cb_t.mp z))]; exact this.2.2 (fun z => ho ((opn_rp _).mp z))
theorem fct_yes {q : Nat → Bool} {n t : Nat} (ht : t = fb_ct q n) (h : q n = true) : t + 1 = fb_ct q (n + 1) := by rw [fb_ct_succ, h, ht]; rfl
theorem fct_no {q : Nat → Bool} {n t : Nat} (ht : t = fb_ct q n) (h : q n = false) : t = fb_ct q (n + 1) := by rw [fb_ct_succ, h, ht]; rfl
