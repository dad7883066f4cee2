/-! ===== ints as whole numbers ===== -/
def zI (z : Int) : Int32 := Int32.ofInt z
theorem zI_add (a b : Int) : zI a + zI b = zI (a + b) := (Int32.ofInt_add a b).symm
theorem zI_sub (a b : Int) : zI a - zI b = zI (a - b) := (Int32.ofInt_sub a b).symm
theorem zI_mul (a b : Int) : zI a * zI b = zI (a * b) := (Int32.ofInt_mul a b).symm
theorem zI_neg (a : Int) : -zI a = zI (-a) := (Int32.ofInt_neg a).symm
theorem zI_toInt {a : Int} (h : -2147483648 ≤ a ∧ a ≤ 2147483647) : (zI a).toInt = a := Int32.toInt_ofInt_of_le (by omega) (by omega)
theorem zI_self (x : Int32) : zI x.toInt = x := Int32.ofInt_toInt x
theorem zI_ex (x : Int32) : ∃ z : Int, (-2147483648 ≤ z ∧ z ≤ 2147483647) ∧ x = zI z := ⟨x.toInt, ⟨by have := Int32.le_toInt x; omega, by have := Int32.toInt_lt x; omega⟩, (zI_self x).symm⟩
theorem zI_nat (n : Nat) : zI (n : Int) = nI n := Int32.ofInt_eq_ofNat
theorem zI_lt {a b : Int} (ha : -2147483648 ≤ a ∧ a ≤ 2147483647) (hb : -2147483648 ≤ b ∧ b ≤ 2147483647) : zI a < zI b ↔ a < b := by
  rw [Int32.lt_iff_toInt_lt, zI_toInt ha, zI_toInt hb]
theorem zI_le {a b : Int} (ha : -2147483648 ≤ a ∧ a ≤ 2147483647) (hb : -2147483648 ≤ b ∧ b ≤ 2147483647) : zI a ≤ zI b ↔ a ≤ b := by
  rw [Int32.le_iff_toInt_le, zI_toInt ha, zI_toInt hb]
theorem zI_eq {a b : Int} (ha : -2147483648 ≤ a ∧ a ≤ 2147483647) (hb : -2147483648 ≤ b ∧ b ≤ 2147483647) : zI a = zI b ↔ a = b := by
  rw [← Int32.toInt_inj, zI_toInt ha, zI_toInt hb]
theorem zI_0 : zI 0 = 0 := rfl
theorem zI_cl (k : Nat) (h : k < 2147483648) : (zI (k : Int)).toNatClampNeg = k := by rw [zI_nat]; exact nI_clamp h
theorem zI_in {a : Int} {n : Nat} (k : Nat) (e : a = (k : Int)) (h : k < n) (hn : n ≤ 65536) : vp_in (zI a) n := by
  subst e; rw [zI_nat]; exact nI_in h (by omega)
theorem zI_div {a b : Int} (ha : 0 ≤ a ∧ a ≤ 2147483647) (hb : 0 < b ∧ b ≤ 2147483647) : zI a / zI b = zI (a / b) := by
  obtain ⟨x, rfl⟩ : ∃ x : Nat, a = x := ⟨a.toNat, by omega⟩
  obtain ⟨y, rfl⟩ : ∃ y : Nat, b = y := ⟨b.toNat, by omega⟩
  rw [zI_nat, zI_nat, pk_div (by omega) (by omega) (by omega), ← zI_nat]
  rfl
theorem zI_rem {a b : Int} (ha : 0 ≤ a ∧ a ≤ 2147483647) (hb : 0 < b ∧ b ≤ 2147483647) : zI a - zI a / zI b * zI b = zI (a % b) := by
  obtain ⟨x, rfl⟩ : ∃ x : Nat, a = x := ⟨a.toNat, by omega⟩
  obtain ⟨y, rfl⟩ : ∃ y : Nat, b = y := ⟨b.toNat, by omega⟩
  rw [zI_nat, zI_nat, pk_rem (by omega) (by omega) (by omega), ← zI_nat]
  rfl
/-- a truth as an int -/
def bI (b : Bool) : Int32 := zI (if b then 1 else 0)
theorem bI_t {b : Bool} (h : b = true) : zI 1 = bI b := by subst h; rfl
theorem bI_f {b : Bool} (h : b = false) : zI 0 = bI b := by subst h; rfl
theorem bI_eq0 (b : Bool) : bI b = 0 ↔ b = false := by cases b <;> decide
theorem bI_inj {a b : Bool} : bI a = bI b ↔ a = b := by cases a <;> cases b <;> decide
theorem bI_narrow (b : Bool) : narrow .boolean (.int (bI b)) = .int (bI b) := by cases b <;> decide
theorem bI_nar (b : Bool) : vp_nar .boolean (bI b) = bI b := by cases b <;> decide
theorem bI_fits (b : Bool) : fits .boolean (.int (bI b)) = true := by cases b <;> decide
/-- arrays of whole numbers, of truths -/
def aZ (F : Nat → Int) : Nat → Int32 := fun k => zI (F k)
def aB (F : Nat → Bool) : Nat → Int32 := fun k => bI (F k)
def uZ (F : Nat → Int) (k : Nat) (v : Int) : Nat → Int := fun j => if j = k then v else F j
def uB (F : Nat → Bool) (k : Nat) (v : Bool) : Nat → Bool := fun j => if j = k then v else F j
theorem uZ_s (F : Nat → Int) (k : Nat) (v : Int) : uZ F k v k = v := by simp [uZ]
theorem uZ_n (F : Nat → Int) {k j : Nat} (v : Int) (h : j ≠ k) : uZ F k v j = F j := by simp [uZ, h]
theorem uB_s (F : Nat → Bool) (k : Nat) (v : Bool) : uB F k v k = v := by simp [uB]
theorem uB_n (F : Nat → Bool) {k j : Nat} (v : Bool) (h : j ≠ k) : uB F k v j = F j := by simp [uB, h]
theorem aZ_upd (F : Nat → Int) (k : Nat) (v : Int) : upd (aZ F) k (zI v) = aZ (uZ F k v) := by
  funext j
  by_cases h : j = k
  · subst h; simp [upd, aZ, uZ]
  · simp [upd, aZ, uZ, h]
theorem aB_upd (F : Nat → Bool) (k : Nat) (v : Bool) : upd (aB F) k (bI v) = aB (uB F k v) := by
  funext j
  by_cases h : j = k
  · subst h; simp [upd, aB, uB]
  · simp [upd, aB, uB, h]
theorem aZ_ex (f : Nat → Int32) : ∃ F : Nat → Int, f = aZ F := ⟨fun k => (f k).toInt, funext fun k => (zI_self (f k)).symm⟩
def cpZ (F G : Nat → Int) (sp dp n : Nat) : Nat → Int := fun j => if dp ≤ j ∧ j < dp + n then F (sp + (j - dp)) else G j
theorem aZ_cpy (F G : Nat → Int) (sp dp n : Nat) : va_cpy (aZ F) (aZ G) sp dp n = aZ (cpZ F G sp dp n) := by
  funext j
  by_cases h : dp ≤ j ∧ j < dp + n
  · rw [pk_cpy_in h.1 h.2]; simp [aZ, cpZ, h]
  · rw [pk_cpy_out (by omega)]; simp only [aZ, cpZ, if_neg h]
/-! ===== bits ===== -/
theorem zb_and (a b : Nat) : zI (a : Int) &&& zI (b : Int) = zI ((a &&& b : Nat) : Int) := by
  rw [zI_nat, zI_nat, zI_nat]
  unfold nI
  apply Int32.toBitVec.inj
  simp [BitVec.ofNat_and]
theorem zb_or (a b : Nat) : zI (a : Int) ||| zI (b : Int) = zI ((a ||| b : Nat) : Int) := by
  rw [zI_nat, zI_nat, zI_nat]
  unfold nI
  apply Int32.toBitVec.inj
  simp [BitVec.ofNat_or]
theorem zb_xor (a b : Nat) : zI (a : Int) ^^^ zI (b : Int) = zI ((a ^^^ b : Nat) : Int) := by
  rw [zI_nat, zI_nat, zI_nat]
  unfold nI
  apply Int32.toBitVec.inj
  simp [BitVec.ofNat_xor]
theorem zb_sm : ∀ n, n < 32 → ((zI ((n : Nat) : Int) &&& 31).toBitVec.smod 32).toNat = n := by decide +kernel
theorem zb_shl {a n : Nat} (hn : n < 32) (h : a * 2 ^ n < 2 ^ 32) : zI (a : Int) <<< (zI (n : Int) &&& 31) = zI ((a <<< n : Nat) : Int) := by
  rw [zI_nat a, pk_shlN _ n (zb_sm n hn) h, Nat.shiftLeft_eq, zI_nat]
theorem zb_shr {a n : Nat} (ha : a < 2 ^ 31) (hn : n < 32) : zI (a : Int) >>> (zI (n : Int) &&& 31) = zI ((a >>> n : Nat) : Int) := by
  rw [zI_nat a, pk_shrN ha _ n (zb_sm n hn), Nat.shiftRight_eq_div_pow, zI_nat]
theorem zb_bit (a n : Nat) : (a >>> n) &&& 1 = if a.testBit n then 1 else 0 := by
  have : (a >>> n) &&& 1 = (a >>> n) % 2 := Nat.and_one_is_mod _
  rw [this, Nat.testBit_eq_decide_div_mod_eq, Nat.shiftRight_eq_div_pow]
  rcases Nat.mod_two_eq_zero_or_one (a / 2 ^ n) with h | h <;> simp [h]
theorem zb_m255 {a : Int} (h : 0 ≤ a ∧ a < 256) : zI a &&& zI 255 = zI a := by
  obtain ⟨x, rfl⟩ : ∃ x : Nat, a = x := ⟨a.toNat, by omega⟩
  have e := zb_and x 255
  rw [show ((255 : Nat) : Int) = 255 from rfl] at e
  rw [e, show (255 : Nat) = 2 ^ 8 - 1 from rfl, Nat.and_two_pow_sub_one_eq_mod, Nat.mod_eq_of_lt (by omega)]
theorem zb_m15 {a : Int} (h : 0 ≤ a ∧ a < 16) : zI a &&& zI 15 = zI a := by
  obtain ⟨x, rfl⟩ : ∃ x : Nat, a = x := ⟨a.toNat, by omega⟩
  have e := zb_and x 15
  rw [show ((15 : Nat) : Int) = 15 from rfl] at e
  rw [e, show (15 : Nat) = 2 ^ 4 - 1 from rfl, Nat.and_two_pow_sub_one_eq_mod, Nat.mod_eq_of_lt (by omega)]
theorem zI_max {a b : Int} (ha : -2147483648 ≤ a ∧ a ≤ 2147483647) (hb : -2147483648 ≤ b ∧ b ≤ 2147483647) : (if zI a < zI b then zI b else zI a) = zI (max a b) := by
  by_cases h : a < b
  · rw [if_pos ((zI_lt ha hb).mpr h), Int.max_eq_right (by omega)]
  · rw [if_neg (fun z => h ((zI_lt ha hb).mp z)), Int.max_eq_left (by omega)]
theorem zI_min {a b : Int} (ha : -2147483648 ≤ a ∧ a ≤ 2147483647) (hb : -2147483648 ≤ b ∧ b ≤ 2147483647) : (if zI b < zI a then zI b else zI a) = zI (min a b) := by
  by_cases h : b < a
  · rw [if_pos ((zI_lt hb ha).mpr h), Int.min_eq_right (by omega)]
  · rw [if_neg (fun z => h ((zI_lt hb ha).mp z)), Int.min_eq_left (by omega)]
