/-! ===== what each call answers ===== -/
def rowS (P : Nat → Nat) (r w : Int) : Int := if 0 ≤ r ∧ r ≤ 15 then (if w = 0 then (P r.toNat : Int) else if w = 1 then (rnN (P r.toNat) : Int) else -1000000002) else -1000000001
def rimT (P : Nat → Nat) (n : Nat) : Nat := fb_sm (fun x => if dk P x then sdN P x else 0) n
noncomputable def toldS (P : Nat → Nat) (m8 : Bool) (md : Int) (um : Nat) (w : Int) : Int :=
  if w = 0 then md else if w = 1 then (dots P : Int) else if w = 2 then (cD P m8 256 : Int) else if w = 3 then (cH P m8 256 : Int) else if w = 4 then (cL P m8 256 : Int) else if w = 5 then (cD P m8 256 : Int) - (cH P m8 256 : Int) + 1000 else
  if w = 6 then (runsT P : Int) else if w = 7 then (rimT P 256 : Int) else if w = 8 then mxD P m8 (cD P m8 256) else if w = 9 then lgB P m8 (cD P m8 256) else if w = 10 then (um : Int) else -1000000002
theorem toldS_out {P : Nat → Nat} {m8 : Bool} {md : Int} {um : Nat} {w : Int} (h : w < 0 ∨ 10 < w) : toldS P m8 md um w = -1000000002 := by
  unfold toldS
  rw [if_neg (by omega), if_neg (by omega), if_neg (by omega), if_neg (by omega), if_neg (by omega), if_neg (by omega), if_neg (by omega), if_neg (by omega), if_neg (by omega), if_neg (by omega), if_neg (by omega)]
noncomputable def dotS (P : Nat → Nat) (m8 : Bool) (x : Nat) (w : Int) : Int :=
  if w = 0 then (bZ (dk P x) : Int) else if w = 1 then (if dk P x then (cD P m8 (rp P m8 x) : Int) else -1) else if w = 2 then (if dk P x then -1 else if cb (opn P m8 x) then -1 else (cH P m8 (rp P m8 x) : Int)) else
  if w = 3 then (if dk P x then -1 else (cD P m8 256 : Int) - (cD (fl1 P x) m8 256 : Int) + 1) else if w = 4 then (if dk P x then (cD (fl1 P x) m8 256 : Int) - (cD P m8 256 : Int) + 1 else -1) else -1000000002
theorem dotS_out {P : Nat → Nat} {m8 : Bool} {x : Nat} {w : Int} (h : w < 0 ∨ 4 < w) : dotS P m8 x w = -1000000002 := by
  unfold dotS
  rw [if_neg (by omega), if_neg (by omega), if_neg (by omega), if_neg (by omega), if_neg (by omega)]
noncomputable def partS (P : Nat → Nat) (m8 : Bool) (p : Nat) (w : Int) : Int :=
  if w = 0 then (szR P m8 (selD P m8 p) : Int) else if w = 1 then (rimR P m8 (selD P m8 p) : Int) else if w = 2 then edN P m8 false false (selD P m8 p) 256 else if w = 3 then edN P m8 false true (selD P m8 p) 256 else if w = 4 then edN P m8 true false (selD P m8 p) 256 else
  if w = 5 then edN P m8 true true (selD P m8 p) 256 else if w = 6 then (hoN P m8 p (cH P m8 256) : Int) else if w = 7 then lieR P m8 (selD P m8 p) else if w = 8 then (deepR P m8 (selD P m8 p) : Int) else if w = 9 then (selD P m8 p : Int) else -1000000002
theorem partS_out {P : Nat → Nat} {m8 : Bool} {p : Nat} {w : Int} (h : w < 0 ∨ 9 < w) : partS P m8 p w = -1000000002 := by
  unfold partS
  rw [if_neg (by omega), if_neg (by omega), if_neg (by omega), if_neg (by omega), if_neg (by omega), if_neg (by omega), if_neg (by omega), if_neg (by omega), if_neg (by omega), if_neg (by omega)]
noncomputable def holeS (P : Nat → Nat) (m8 : Bool) (k : Nat) (w : Int) : Int :=
  if w = 0 then (szR P m8 (selH P m8 k) : Int) else if w = 1 then (cD P m8 (rp P m8 (selH P m8 k - 16)) : Int) else if w = 2 then (inN P m8 k (cD P m8 256) : Int) else if w = 3 then (selH P m8 k : Int) else -1000000002
theorem holeS_out {P : Nat → Nat} {m8 : Bool} {k : Nat} {w : Int} (h : w < 0 ∨ 3 < w) : holeS P m8 k w = -1000000002 := by
  unfold holeS
  rw [if_neg (by omega), if_neg (by omega), if_neg (by omega), if_neg (by omega)]
theorem mxD_rng {P : Nat → Nat} {m8 : Bool} : ∀ n, -1 ≤ mxD P m8 n ∧ mxD P m8 n ≤ 256
  | 0 => by unfold mxD; omega
  | n + 1 => by
    have a := mxD_rng (P := P) (m8 := m8) n
    have b : deepR P m8 (selD P m8 n) ≤ 256 := dpN_le 256 _
    unfold mxD
    omega
theorem rimT_le (P : Nat → Nat) (n : Nat) : rimT P n ≤ n * 4 := fb_sm_bound (fun k _ => by split; exact sdN_le _ _; omega)
