/-! ===== deeds: what is kept to be undone; dots turned ===== -/
def pushN (U F : Nat → Int) (a i : Nat) : Nat → Int := fun k => if 17 * a ≤ k ∧ k < 17 * a + i then F (k - 17 * a) else U k
theorem push_step {U U1 F : Nat → Int} {a i : Nat} (h : ∀ k, k < 510 → U1 k = pushN U F a i k) : ∀ k, k < 510 → uZ U1 (17 * a + i) (F i) k = pushN U F a (i + 1) k := by
  intro k hk
  by_cases e : k = 17 * a + i
  · subst e
    rw [uZ_s]
    unfold pushN
    rw [if_pos (by omega), show 17 * a + i - 17 * a = i by omega]
  · rw [uZ_n _ _ e, h k hk]
    unfold pushN
    by_cases q : 17 * a ≤ k ∧ k < 17 * a + i
    · rw [if_pos q, if_pos (by omega)]
    · rw [if_neg q, if_neg (by omega)]
theorem um_min {u : Nat} : ((u : Int) + ((bZ (decide (¬ (30 : Int) ≤ (u : Int))) : Nat) : Int)) = ((if u < 30 then u + 1 else u : Nat) : Int) := by
  by_cases h : u < 30
  · rw [if_pos h, decide_eq_true (by omega)]; rfl
  · rw [if_neg h, decide_eq_false (by omega)]; simp [bZ]
def bit (x : Nat) : Nat := 1 <<< (x % 16)
theorem bit_lt (x : Nat) : bit x < 65536 := by
  unfold bit
  rw [Nat.shiftLeft_eq, Nat.one_mul]
  have : 2 ^ (x % 16) ≤ 2 ^ 15 := Nat.pow_le_pow_right (by decide) (by omega)
  omega
theorem zb_bitk {k : Nat} (h : k < 16) : zI 1 <<< (zI (k : Int) &&& 31) = zI ((1 <<< k : Nat) : Int) := by
  have e := zb_shlZ (a := 1) (by decide) (d := (k : Int)) (by omega)
  simpa using e
theorem bit_tb (x i : Nat) : (bit x).testBit i = decide (i = x % 16) := by
  unfold bit
  rw [Nat.one_shiftLeft, Nat.testBit_two_pow]
  exact decide_eq_decide.mpr ⟨fun h => h.symm, fun h => h.symm⟩
/-- a picture with one dot turned -/
def fl1 (P : Nat → Nat) (x : Nat) : Nat → Nat := uN P (x / 16) (P (x / 16) ^^^ bit x)
theorem dk_fl1 (P : Nat → Nat) (x y : Nat) : dk (fl1 P x) y = (dk P y ^^ decide (y = x)) := by
  unfold dk fl1 uN
  by_cases h : y / 16 = x / 16
  · rw [if_pos h, Nat.testBit_xor, bit_tb, h]
    congr 1
    exact decide_eq_decide.mpr ⟨fun q => by omega, fun q => by rw [q]⟩
  · rw [if_neg h, decide_eq_false (fun q => h (by rw [q])), Bool.xor_false]
theorem dk_row {P : Nat → Nat} {r k : Nat} (hk : k < 16) : dk P (16 * r + k) = (P r).testBit k := by
  unfold dk
  rw [show (16 * r + k) / 16 = r by omega, show (16 * r + k) % 16 = k by omega]
/-- pictures with the same dots have the same rows -/
theorem rows_eq {P Q : Nat → Nat} (hP : ∀ k, k < 16 → P k < 65536) (hQ : ∀ k, k < 16 → Q k < 65536) (h : ∀ x, x < 256 → dk P x = dk Q x) : ∀ k, k < 16 → P k = Q k := by
  intro k hk
  refine nat_ext16 (hP k hk) (hQ k hk) (fun i hi => ?_)
  rw [← dk_row hi, ← dk_row hi]
  exact h _ (by omega)
/-- dots turned one by one: those of a kind among the first i -/
def FlI (P T : Nat → Nat) (f : Nat → Bool) (i : Nat) : Prop := ∀ x, x < 256 → dk T x = (dk P x ^^ (decide (x < i) && f x))
theorem FlI.z (P : Nat → Nat) (f : Nat → Bool) : FlI P P f 0 := fun x _ => by rw [decide_eq_false (Nat.not_lt_zero x), Bool.false_and, Bool.xor_false]
theorem FlI.no {P T : Nat → Nat} {f : Nat → Bool} {i : Nat} (h : FlI P T f i) (hf : f i = false) : FlI P T f (i + 1) := by
  intro x hx
  rw [h x hx]
  by_cases e : x = i
  · subst e; rw [hf, Bool.and_false, Bool.and_false]
  · congr 2; exact decide_eq_decide.mpr (by omega)
theorem FlI.yes {P T : Nat → Nat} {f : Nat → Bool} {i : Nat} (h : FlI P T f i) (hf : f i = true) : FlI P (fl1 T i) f (i + 1) := by
  intro x hx
  rw [dk_fl1, h x hx]
  by_cases e : x = i
  · subst e; rw [hf, decide_eq_false (Nat.lt_irrefl x), decide_eq_true (Nat.lt_succ_self x), decide_eq_true rfl]; simp
  · rw [decide_eq_false e, Bool.xor_false]; congr 2; exact decide_eq_decide.mpr (by omega)
theorem FlI.end {P T : Nat → Nat} {f : Nat → Bool} (h : FlI P T f 256) : ∀ x, x < 256 → dk T x = (dk P x ^^ f x) := fun x hx => by rw [h x hx, decide_eq_true hx, Bool.true_and]
/-- whether one of the first k of the nine is of the other kind -/
def nrT (P : Nat → Nat) (m8 : Bool) (x : Nat) (dark : Bool) (k : Nat) : Bool :=
  (decide (¬ k = 4) && (m8 || decide (k % 2 = 1))) && (if ((0 ≤ (x : Int) / 16 + (k : Int) / 3 - 1 ∧ (x : Int) / 16 + (k : Int) / 3 - 1 ≤ 15) ∧ (0 ≤ (x : Int) % 16 + (k : Int) % 3 - 1 ∧ (x : Int) % 16 + (k : Int) % 3 - 1 ≤ 15)) then !((P ((x : Int) / 16 + (k : Int) / 3 - 1).toNat).testBit ((x : Int) % 16 + (k : Int) % 3 - 1).toNat == dark) else dark)
def nrN (P : Nat → Nat) (m8 : Bool) (x : Nat) (dark : Bool) : Nat → Bool
  | 0 => false
  | k + 1 => nrN P m8 x dark k || nrT P m8 x dark k
