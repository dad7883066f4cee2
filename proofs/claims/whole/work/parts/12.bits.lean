/-! ===== how many bits a set of sixteen has ===== -/
def pop (n : Nat) : Nat := fb_ct (fun k => n.testBit k) 16
theorem pop_le (n : Nat) : pop n ≤ 16 := fb_ct_le _ _
def swa (n : Nat) : Nat := n - ((n >>> 1) &&& 1431655765)
def swb (n : Nat) : Nat := (swa n &&& 858993459) + ((swa n >>> 2) &&& 858993459)
def swc (n : Nat) : Nat := (swb n + swb n >>> 4) &&& 252645135
def swd (n : Nat) : Nat := swc n + swc n >>> 8
def swe (n : Nat) : Nat := swd n + swd n >>> 16
theorem tbz (n i : Nat) : (if n.testBit i = true then 1 else 0) = n / 2 ^ i % 2 := by
  rw [Nat.testBit_eq_decide_div_mod_eq]
  rcases Nat.mod_two_eq_zero_or_one (n / 2 ^ i) with h | h <;> simp [h]
theorem pop_sum (n : Nat) : pop n = n % 2 + n / 2 % 2 + n / 4 % 2 + n / 8 % 2 + n / 16 % 2 + n / 32 % 2 + n / 64 % 2 + n / 128 % 2 + n / 256 % 2 + n / 512 % 2 + n / 1024 % 2 + n / 2048 % 2 + n / 4096 % 2 + n / 8192 % 2 + n / 16384 % 2 + n / 32768 % 2 := by
  simp only [pop, fb_ct, tbz]
  simp
theorem andcat (k h l M m : Nat) (hl : l < 2 ^ k) (hm : m < 2 ^ k) : (2 ^ k * h + l) &&& (2 ^ k * M + m) = 2 ^ k * (h &&& M) + (l &&& m) := by
  apply Nat.eq_of_testBit_eq
  intro j
  have hlm : l &&& m < 2 ^ k := Nat.lt_of_le_of_lt Nat.and_le_left hl
  rw [Nat.testBit_and, Nat.testBit_two_pow_mul_add _ hl, Nat.testBit_two_pow_mul_add _ hm, Nat.testBit_two_pow_mul_add _ hlm]
  by_cases hj : j < k
  · simp [hj, Nat.testBit_and]
  · simp [hj, Nat.testBit_and]
theorem st4 (x M : Nat) : x &&& (4 * M + 1) = 4 * (x / 4 &&& M) + x % 4 % 2 := by
  have e := andcat 2 (x / 4) (x % 4) M 1 (by omega) (by decide)
  rw [show 2 ^ 2 * (x / 4) + x % 4 = x by omega, Nat.and_one_is_mod] at e
  exact e
theorem st16 (x M : Nat) : x &&& (16 * M + 3) = 16 * (x / 16 &&& M) + x % 16 % 4 := by
  have e := andcat 4 (x / 16) (x % 16) M 3 (by omega) (by decide)
  rw [show 2 ^ 4 * (x / 16) + x % 16 = x by omega, show x % 16 &&& 3 = x % 16 % 4 from Nat.and_two_pow_sub_one_eq_mod _ 2] at e
  exact e
theorem st256 (x M : Nat) : x &&& (256 * M + 15) = 256 * (x / 256 &&& M) + x % 256 % 16 := by
  have e := andcat 8 (x / 256) (x % 256) M 15 (by omega) (by decide)
  rw [show 2 ^ 8 * (x / 256) + x % 256 = x by omega, show x % 256 &&& 15 = x % 256 % 16 from Nat.and_two_pow_sub_one_eq_mod _ 4] at e
  exact e
def swA (n M : Nat) : Nat := n - (n / 2 &&& M)
theorem swA_st (n M : Nat) : swA n (4 * M + 1) = 4 * swA (n / 4) M + (n % 4 - n % 4 / 2) := by
  unfold swA
  rw [st4]
  have h1 : n / 2 / 4 = n / 4 / 2 := by omega
  have h2 : (n / 4 / 2 &&& M) ≤ n / 4 / 2 := Nat.and_le_left
  rw [h1]
  generalize (n / 4 / 2 &&& M) = t at h2 ⊢
  omega
def swB (a M : Nat) : Nat := (a &&& M) + (a / 4 &&& M)
theorem swB_st (a M : Nat) : swB a (16 * M + 3) = 16 * swB (a / 16) M + (a % 4 + a / 4 % 4) := by
  unfold swB
  rw [st16, st16]
  have h1 : a / 4 / 16 = a / 16 / 4 := by omega
  rw [h1]
  generalize (a / 16 &&& M) = t
  generalize (a / 16 / 4 &&& M) = u
  omega
def pd (l : Nat) : Nat := l - l / 2
theorem sw_nib (n M K : Nat) : swB (swA n (4 * (4 * M + 1) + 1)) (16 * K + 3) = 16 * swB (swA (n / 16) M) K + (pd (n % 4) + pd (n / 4 % 4)) := by
  have e1 := swA_st n (4 * M + 1)
  have e2 := swA_st (n / 4) M
  rw [show n / 4 / 4 = n / 16 by omega] at e2
  rw [swB_st]
  generalize hA : swA n (4 * (4 * M + 1) + 1) = A at e1 ⊢
  generalize swA (n / 4) (4 * M + 1) = A1 at e1 e2
  generalize hB : swA (n / 16) M = A2 at e2 ⊢
  unfold pd
  have h1 : A / 16 = A2 := by omega
  have h2 : A % 4 = n % 4 - n % 4 / 2 := by omega
  have h3 : A / 4 % 4 = n / 4 % 4 - n / 4 % 4 / 2 := by omega
  rw [h1, h2, h3]
theorem swb_eq (n : Nat) : swb n = swB (swA n 1431655765) 858993459 := by
  unfold swb swa swB swA
  rw [Nat.shiftRight_eq_div_pow, Nat.shiftRight_eq_div_pow]
theorem swb_dig {n : Nat} (h : n < 65536) : swb n = (pd (n % 4) + pd (n / 4 % 4)) + 16 * (pd (n / 16 % 4) + pd (n / 64 % 4)) + 256 * (pd (n / 256 % 4) + pd (n / 1024 % 4)) + 4096 * (pd (n / 4096 % 4) + pd (n / 16384 % 4)) := by
  rw [swb_eq]
  have e0 : swB (swA n 1431655765) 858993459 = 16 * swB (swA (n / 16) 89478485) 53687091 + (pd (n % 4) + pd (n / 4 % 4)) := sw_nib n 89478485 53687091
  have e1 : swB (swA (n / 16) 89478485) 53687091 = 16 * swB (swA ((n / 16) / 16) 5592405) 3355443 + (pd ((n / 16) % 4) + pd ((n / 16) / 4 % 4)) := sw_nib (n / 16) 5592405 3355443
  have e2 : swB (swA (n / 256) 5592405) 3355443 = 16 * swB (swA ((n / 256) / 16) 349525) 209715 + (pd ((n / 256) % 4) + pd ((n / 256) / 4 % 4)) := sw_nib (n / 256) 349525 209715
  have e3 : swB (swA (n / 4096) 349525) 209715 = 16 * swB (swA ((n / 4096) / 16) 21845) 13107 + (pd ((n / 4096) % 4) + pd ((n / 4096) / 4 % 4)) := sw_nib (n / 4096) 21845 13107
  rw [show n / 16 / 16 = n / 256 by omega, show n / 16 / 4 = n / 64 by omega] at e1
  rw [show n / 256 / 16 = n / 4096 by omega, show n / 256 / 4 = n / 1024 by omega] at e2
  rw [show n / 4096 / 16 = 0 by omega, show n / 4096 / 4 = n / 16384 by omega] at e3
  have z : swB (swA 0 21845) 13107 = 0 := by decide
  rw [e0, e1, e2, e3, z]
  omega
theorem pd_le {l : Nat} (h : l < 4) : pd l ≤ 2 := by unfold pd; omega
theorem pd_sum {l : Nat} (h : l < 4) : pd l = l % 2 + l / 2 % 2 := by unfold pd; omega
theorem pdx (x : Nat) : pd (x % 4) = x % 2 + x / 2 % 2 := by unfold pd; omega
theorem sw3 {n e0 e1 e2 e3 : Nat} (h0 : e0 < 5) (h1 : e1 < 5) (h2 : e2 < 5) (h3 : e3 < 5) (e : swb n = e0 + 16 * e1 + 256 * e2 + 4096 * e3) : swc n = (e0 + e1) + 256 * (e2 + e3) := by
  unfold swc
  have y : swb n + swb n >>> 4 = (e0 + e1) + 16 * (e1 + e2) + 256 * (e2 + e3) + 4096 * e3 := by
    rw [Nat.shiftRight_eq_div_pow, e]
    omega
  rw [y, show (252645135 : Nat) = 256 * 986895 + 15 from rfl, st256, show (986895 : Nat) = 256 * 3855 + 15 from rfl, st256]
  clear y e
  generalize hz : (e0 + e1) + 16 * (e1 + e2) + 256 * (e2 + e3) + 4096 * e3 = z
  have q1 : z / 256 = (e2 + e3) + 16 * e3 := by omega
  have q2 : z % 256 % 16 = e0 + e1 := by omega
  rw [q1, q2]
  clear q1 q2 hz
  have q3 : ((e2 + e3) + 16 * e3) / 256 = 0 := by omega
  have q4 : ((e2 + e3) + 16 * e3) % 256 % 16 = e2 + e3 := by omega
  rw [q3, q4, Nat.zero_and]
  omega
theorem sw4 {n f0 f1 : Nat} (h0 : f0 < 9) (h1 : f1 < 9) (e : swc n = f0 + 256 * f1) : swe n &&& 63 = f0 + f1 := by
  have a : swd n = f0 + 257 * f1 := by
    unfold swd
    rw [e, Nat.shiftRight_eq_div_pow]
    omega
  have b : swe n = f0 + 257 * f1 := by
    unfold swe
    rw [a, Nat.shiftRight_eq_div_pow]
    omega
  rw [b, show (63 : Nat) = 2 ^ 6 - 1 from rfl, Nat.and_two_pow_sub_one_eq_mod]
  clear a b e
  omega
theorem sw_pop {n : Nat} (h : n < 65536) : swe n &&& 63 = pop n := by
  have l0 := pd_le (l := n % 4) (by omega)
  have l1 := pd_le (l := n / 4 % 4) (by omega)
  have l2 := pd_le (l := n / 16 % 4) (by omega)
  have l3 := pd_le (l := n / 64 % 4) (by omega)
  have l4 := pd_le (l := n / 256 % 4) (by omega)
  have l5 := pd_le (l := n / 1024 % 4) (by omega)
  have l6 := pd_le (l := n / 4096 % 4) (by omega)
  have l7 := pd_le (l := n / 16384 % 4) (by omega)
  have a := sw3 (by omega) (by omega) (by omega) (by omega) (swb_dig h)
  rw [sw4 (by omega) (by omega) a, pop_sum]
  clear a l0 l1 l2 l3 l4 l5 l6 l7
  rw [pdx n, pdx (n / 4), pdx (n / 16), pdx (n / 64), pdx (n / 256), pdx (n / 1024), pdx (n / 4096), pdx (n / 16384)]
  simp only [Nat.div_div_eq_div_mul, Nat.reduceMul, Nat.add_assoc]
def pw (w n : Nat) : Nat := fb_ct (fun k => n.testBit k) w
theorem pw_succ (w n : Nat) : pw (w + 1) n = n % 2 + pw w (n / 2) := by
  have e := fb_ct_split (fun k => n.testBit k) 1 w
  unfold pw
  rw [Nat.add_comm w 1, e]
  have a : fb_ct (fun k => n.testBit k) 1 = n % 2 := by
    show 0 + (if n.testBit 0 = true then 1 else 0) = n % 2
    rw [tbz]; simp
  rw [a]
  congr 1
  apply fb_ct_cong
  intro k _
  rw [Nat.add_comm 1 k, Nat.testBit_succ]
theorem pw_kn : ∀ w n, n < 2 ^ w → n ≠ 0 → pw w (n &&& (n - 1)) + 1 = pw w n
  | 0, n, h, h0 => by simp at h; omega
  | w + 1, n, h, h0 => by
    rw [pw_succ, pw_succ w n, Nat.and_div_two]
    rcases Nat.mod_two_eq_zero_or_one n with q | q
    · have a : (n &&& (n - 1)) % 2 = 0 := by
        have := Nat.and_mod_two_pow (a := n) (b := n - 1) (n := 1)
        rw [Nat.pow_one] at this
        rw [this, q, Nat.zero_and]
      have b : (n - 1) / 2 = n / 2 - 1 := by omega
      have c := pw_kn w (n / 2) (by rw [Nat.pow_succ] at h; omega) (by omega)
      rw [a, b, q]
      omega
    · have a : (n &&& (n - 1)) % 2 = 0 := by
        have := Nat.and_mod_two_pow (a := n) (b := n - 1) (n := 1)
        rw [Nat.pow_one] at this
        rw [this, show (n - 1) % 2 = 0 by omega, Nat.and_zero]
      have b : (n - 1) / 2 = n / 2 := by omega
      rw [a, b, q, Nat.and_self]
      omega
theorem kn_pop {n : Nat} (h : n < 65536) (h0 : n ≠ 0) : pop (n &&& (n - 1)) + 1 = pop n := pw_kn 16 n h h0
theorem pop_0 : pop 0 = 0 := by decide
theorem swa_le (n : Nat) : swa n ≤ n := Nat.sub_le _ _
theorem sw_sub (n : Nat) : (n >>> 1) &&& 1431655765 ≤ n := Nat.le_trans Nat.and_le_left (by rw [Nat.shiftRight_eq_div_pow]; omega)
theorem swb_le (n : Nat) : swb n ≤ 2 * n := by
  have a := swa_le n
  have b : swa n &&& 858993459 ≤ swa n := Nat.and_le_left
  have c : (swa n >>> 2) &&& 858993459 ≤ swa n >>> 2 := Nat.and_le_left
  have d : swa n >>> 2 = swa n / 4 := Nat.shiftRight_eq_div_pow _ _
  unfold swb
  omega
theorem swc_le (n : Nat) : swc n ≤ 4 * n := by
  have a := swb_le n
  have b : swc n ≤ swb n + swb n >>> 4 := Nat.and_le_left
  rw [Nat.shiftRight_eq_div_pow] at b
  omega
theorem swd_le (n : Nat) : swd n ≤ 8 * n := by
  have a := swc_le n
  have b : swd n = swc n + swc n >>> 8 := rfl
  rw [Nat.shiftRight_eq_div_pow] at b
  omega
theorem zb_ushr {a : Nat} (ha : a < 2 ^ 32) (n : Nat) (hn : (((zI (n : Int)).toUInt32 &&& Int32.toUInt32 31).toBitVec % 32).toNat = n) : ((zI (a : Int)).toUInt32 >>> ((zI (n : Int)).toUInt32 &&& Int32.toUInt32 31)).toInt32 = zI ((a >>> n : Nat) : Int) := by
  rw [zI_nat a, pk_ushrN ha _ n hn, Nat.shiftRight_eq_div_pow, zI_nat]
/-! ===== sets without others, shifted sets ===== -/
def andn (a b : Nat) : Nat := a ^^^ (a &&& b)
theorem andn_tb (a b i : Nat) : (andn a b).testBit i = (a.testBit i && !b.testBit i) := by
  unfold andn
  rw [Nat.testBit_xor, Nat.testBit_and]
  cases a.testBit i <;> cases b.testBit i <;> rfl
theorem tb_hi {a i : Nat} (ha : a < 65536) (hi : 16 ≤ i) : a.testBit i = false := by
  have h : 2 ^ 16 ≤ 2 ^ i := Nat.pow_le_pow_right (by decide) hi
  exact Nat.testBit_lt_two_pow (Nat.lt_of_lt_of_le ha h)
theorem nat_ext16 {a b : Nat} (ha : a < 65536) (hb : b < 65536) (h : ∀ i, i < 16 → a.testBit i = b.testBit i) : a = b := by
  apply Nat.eq_of_testBit_eq
  intro i
  by_cases hi : i < 16
  · exact h i hi
  · rw [tb_hi ha (by omega), tb_hi hb (by omega)]
theorem lt_of_tb {a : Nat} (h : ∀ i, 16 ≤ i → a.testBit i = false) : a < 65536 := by
  have := Nat.lt_pow_two_of_testBit a (n := 16) (fun i hi => h i hi)
  simpa using this
theorem andn_le (a b : Nat) (h : a < 65536) : andn a b < 65536 := lt_of_tb (fun i hi => by rw [andn_tb, tb_hi h hi]; rfl)
theorem xor_le {a b : Nat} (h : a < 65536) (h2 : b < 65536) : a ^^^ b < 65536 := lt_of_tb (fun i hi => by rw [Nat.testBit_xor, tb_hi h hi, tb_hi h2 hi]; rfl)
theorem or_le {a b : Nat} (h : a < 65536) (h2 : b < 65536) : a ||| b < 65536 := lt_of_tb (fun i hi => by rw [Nat.testBit_or, tb_hi h hi, tb_hi h2 hi]; rfl)
theorem and_leR (a : Nat) {b : Nat} (h : b < 65536) : a &&& b < 65536 := lt_of_tb (fun i hi => by rw [Nat.testBit_and, tb_hi h hi]; simp)
theorem and_leL {a : Nat} (h : a < 65536) (b : Nat) : a &&& b < 65536 := lt_of_tb (fun i hi => by rw [Nat.testBit_and, tb_hi h hi]; simp)
theorem m16 (a : Nat) : a &&& 65535 = a % 65536 := by rw [show (65535 : Nat) = 2 ^ 16 - 1 from rfl, Nat.and_two_pow_sub_one_eq_mod]
theorem m16_of {a : Nat} (h : a < 65536) : a &&& 65535 = a := by rw [m16, Nat.mod_eq_of_lt h]
theorem tb_m16 (i : Nat) : (65535 : Nat).testBit i = decide (i < 16) := by rw [show (65535 : Nat) = 2 ^ 16 - 1 from rfl, Nat.testBit_two_pow_sub_one]
theorem zb_not (b : Nat) (hb : b < 2 ^ 32) : zI (b : Int) ^^^ zI (-1) = zI ((2 ^ 32 - 1 - b : Nat) : Int) := by
  rw [zI_nat, zI_nat]
  unfold nI zI
  apply Int32.toBitVec.inj
  rw [Int32.toBitVec_xor, Int32.toBitVec_ofInt]
  rw [show (BitVec.ofInt 32 (-1)) = BitVec.allOnes 32 by decide, BitVec.xor_allOnes]
  apply BitVec.eq_of_toNat_eq
  simp [BitVec.toNat_not]
  omega
theorem zb_andn (a b : Nat) (ha : a < 65536) (hb : b < 131072) : zI (a : Int) &&& (zI (b : Int) ^^^ zI (-1)) = zI ((andn a b : Nat) : Int) := by
  rw [zb_not b (by omega), zb_and]
  congr 2
  apply Nat.eq_of_testBit_eq
  intro i
  rw [andn_tb, Nat.testBit_and]
  by_cases hi : i < 32
  · have e : (2 ^ 32 - 1 - b).testBit i = !b.testBit i := by
      rw [show 2 ^ 32 - 1 - b = 2 ^ 32 - (b + 1) by omega, Nat.testBit_two_pow_sub_succ (by omega : b < 2 ^ 32)]
      simp [hi]
    rw [e]
  · rw [tb_hi ha (by omega)]
    rfl
def wid (s : Nat) : Nat := (s ||| s <<< 1 ||| s >>> 1) &&& 65535
def nar (s : Nat) : Nat := s &&& s <<< 1 &&& s >>> 1
theorem wid_le (s : Nat) : wid s < 65536 := and_leR _ (by decide)
theorem nar_le {s : Nat} (h : s < 65536) : nar s < 65536 := and_leL (and_leL h _) _
theorem wid_tb (s : Nat) {i : Nat} (hi : i < 16) : (wid s).testBit i = (s.testBit i || (decide (1 ≤ i) && s.testBit (i - 1)) || s.testBit (i + 1)) := by
  unfold wid
  rw [Nat.testBit_and, tb_m16, Nat.testBit_or, Nat.testBit_or, Nat.testBit_shiftLeft, Nat.testBit_shiftRight, Nat.add_comm 1 i]
  simp [hi]
theorem nar_tb (s i : Nat) : (nar s).testBit i = (s.testBit i && (decide (1 ≤ i) && s.testBit (i - 1)) && s.testBit (i + 1)) := by
  unfold nar
  rw [Nat.testBit_and, Nat.testBit_and, Nat.testBit_shiftLeft, Nat.testBit_shiftRight, Nat.add_comm 1 i]
/-! ===== rows of a picture ===== -/
def lnZ (F : Nat → Int) (z : Int) : Int := if 0 ≤ z ∧ z < 16 then F z.toNat else 0
def lnN (P : Nat → Nat) (z : Int) : Nat := if 0 ≤ z ∧ z < 16 then P z.toNat else 0
theorem lnZ_in (F : Nat → Int) {z : Int} (h : 0 ≤ z ∧ z < 16) : lnZ F z = F z.toNat := if_pos h
theorem lnZ_out (F : Nat → Int) {z : Int} (h : ¬ (0 ≤ z ∧ z < 16)) : lnZ F z = 0 := if_neg h
/-- an array holds the rows of a picture -/
def Pic (F : Nat → Int) (P : Nat → Nat) : Prop := ∀ k, k < 16 → F k = (P k : Int) ∧ P k < 65536
theorem Pic.ln {F : Nat → Int} {P : Nat → Nat} (h : Pic F P) (z : Int) : lnZ F z = (lnN P z : Int) := by
  unfold lnZ lnN
  by_cases hz : 0 ≤ z ∧ z < 16
  · rw [if_pos hz, if_pos hz]; exact (h _ (by omega)).1
  · rw [if_neg hz, if_neg hz]; rfl
theorem Pic.lnlt {F : Nat → Int} {P : Nat → Nat} (h : Pic F P) (z : Int) : lnN P z < 65536 := by
  unfold lnN
  by_cases hz : 0 ≤ z ∧ z < 16
  · rw [if_pos hz]; exact (h _ (by omega)).2
  · rw [if_neg hz]; decide
theorem lnN_nat (P : Nat → Nat) {r : Nat} (h : r < 16) : lnN P (r : Int) = P r := by unfold lnN; rw [if_pos (by omega)]; rfl
def uN (P : Nat → Nat) (k v : Nat) : Nat → Nat := fun j => if j = k then v else P j
theorem Pic.put {F : Nat → Int} {P : Nat → Nat} (h : Pic F P) (k : Nat) {v : Nat} (hv : v < 65536) : Pic (uZ F k (v : Int)) (uN P k v) := by
  intro j hj
  by_cases e : j = k
  · subst e; simp [uZ, uN, hv]
  · simp [uZ, uN, e]; exact h j hj
theorem Pic.congr {F : Nat → Int} {P P' : Nat → Nat} (h : Pic F P) (e : ∀ k, k < 16 → P k = P' k) : Pic F P' := fun k hk => by rw [← e k hk]; exact h k hk
def dots (P : Nat → Nat) : Nat := fb_sm (fun r => pop (P r)) 16
theorem sm_bd (P : Nat → Nat) (n : Nat) : fb_sm (fun r => pop (P r)) n ≤ n * 16 := fb_sm_bound (fun k _ => pop_le _)
def rnN (s : Nat) : Nat := pop (andn s (s <<< 1))
def runsT (P : Nat → Nat) : Nat := fb_sm (fun r => rnN (P r)) 16
theorem rn_bd (P : Nat → Nat) (n : Nat) : fb_sm (fun r => rnN (P r)) n ≤ n * 16 := fb_sm_bound (fun k _ => pop_le _)
def grN (P : Nat → Nat) (m8 : Bool) (r : Nat) : Nat := if m8 then wid (P r ||| (lnN P ((r : Int) - 1) ||| lnN P ((r : Int) + 1))) else wid (P r) ||| (lnN P ((r : Int) - 1) ||| lnN P ((r : Int) + 1))
def shN (P : Nat → Nat) (m8 : Bool) (r : Nat) : Nat := if m8 then nar (P r &&& (lnN P ((r : Int) - 1) &&& lnN P ((r : Int) + 1))) else nar (P r) &&& (lnN P ((r : Int) - 1) &&& lnN P ((r : Int) + 1))
def sld (s : Nat) (d : Int) : Nat := if d < 0 then s >>> (-d).toNat else (s <<< d.toNat) &&& 65535
def mvN (P : Nat → Nat) (dn rt : Int) (r : Nat) : Nat := sld (lnN P ((r : Int) - dn)) rt
def ovN (P : Nat → Nat) (r : Nat) : Nat := 65535 - P r
theorem ext_fill {G : Nat → Int} {f : Nat → Nat} {i : Nat} {v : Int} (h : ∀ k, k < i → G k = (f k : Int)) (hv : v = (f i : Int)) : ∀ k, k < i + 1 → uZ G i v k = (f k : Int) := by
  intro k hk
  by_cases e : k = i
  · subst e; rw [uZ_s]; exact hv
  · rw [uZ_n G v e]; exact h k (by omega)
theorem cp16 (G F : Nat → Int) {k : Nat} (h : k < 16) : cpZ G F 0 0 16 k = G k := by unfold cpZ; rw [if_pos (by omega), show 0 + (k - 0) = k by omega]
theorem cp_in (G F : Nat → Int) {sp dp n k : Nat} (h : dp ≤ k ∧ k < dp + n) : cpZ G F sp dp n k = G (sp + (k - dp)) := by unfold cpZ; rw [if_pos h]
theorem cp_out (G F : Nat → Int) {sp dp n k : Nat} (h : ¬ (dp ≤ k ∧ k < dp + n)) : cpZ G F sp dp n k = F k := by unfold cpZ; rw [if_neg h]
theorem grN_le {F : Nat → Int} {P : Nat → Nat} (h : Pic F P) (m8 : Bool) (r : Nat) : grN P m8 r < 65536 := by
  unfold grN
  cases m8
  · simp only [Bool.false_eq_true, if_false]; exact or_le (wid_le _) (or_le (h.lnlt _) (h.lnlt _))
  · simp only [if_true]; exact wid_le _
theorem shN_le {F : Nat → Int} {P : Nat → Nat} (h : Pic F P) (m8 : Bool) (r : Nat) : shN P m8 r < 65536 := by
  unfold shN
  cases m8
  · simp only [Bool.false_eq_true, if_false]; exact and_leR _ (and_leL (h.lnlt _) _)
  · simp only [if_true]; exact nar_le (and_leR _ (and_leL (h.lnlt _) _))
theorem sld_le {s : Nat} (h : s < 65536) (d : Int) : sld s d < 65536 := by
  unfold sld
  by_cases hd : d < 0
  · rw [if_pos hd]; exact Nat.lt_of_le_of_lt (by rw [Nat.shiftRight_eq_div_pow]; exact Nat.div_le_self _ _) h
  · rw [if_neg hd]; exact and_leR _ (by decide)
theorem mvN_le {F : Nat → Int} {P : Nat → Nat} (h : Pic F P) (dn rt : Int) (r : Nat) : mvN P dn rt r < 65536 := sld_le (h.lnlt _) rt
theorem ovN_le (P : Nat → Nat) (r : Nat) : ovN P r < 65536 := by unfold ovN; omega
theorem Pic.of {G F : Nat → Int} {f : Nat → Nat} (h : ∀ k, k < 16 → G k = (f k : Int)) (hf : ∀ k, f k < 65536) : Pic (cpZ G F 0 0 16) f := fun k hk => ⟨by rw [cp16 G F hk]; exact h k hk, hf k⟩
theorem zb_ov {a : Nat} (h : a < 65536) : (zI (a : Int) ^^^ zI (-1)) &&& zI 65535 = zI ((65535 - a : Nat) : Int) := by
  rw [zb_not a (by omega)]
  have e := zb_and (2 ^ 32 - 1 - a) 65535
  rw [show ((65535 : Nat) : Int) = 65535 from rfl] at e
  rw [e, m16]
  congr 2
  omega
theorem zb_shrZ {a : Nat} (ha : a < 65536) {d : Int} (hd : 0 ≤ d ∧ d < 32) : zI (a : Int) >>> (zI d &&& 31) = zI ((a >>> d.toNat : Nat) : Int) := by
  obtain ⟨n, rfl⟩ : ∃ n : Nat, d = n := ⟨d.toNat, by omega⟩
  exact zb_shr (by omega) (by omega)
theorem zb_shlZ {a : Nat} (ha : a < 65536) {d : Int} (hd : 0 ≤ d ∧ d < 16) : zI (a : Int) <<< (zI d &&& 31) = zI ((a <<< d.toNat : Nat) : Int) := by
  obtain ⟨n, rfl⟩ : ∃ n : Nat, d = n := ⟨d.toNat, by omega⟩
  refine zb_shl (by omega) ?_
  have : 2 ^ n ≤ 2 ^ 15 := Nat.pow_le_pow_right (by decide) (by omega)
  have h2 : a * 2 ^ n ≤ 65535 * 2 ^ 15 := Nat.mul_le_mul (by omega) this
  omega
theorem zb_shl1 {a : Nat} (h : a < 65536) : zI (a : Int) <<< (zI 1 &&& 31) = zI ((a <<< 1 : Nat) : Int) := zb_shlZ h (d := 1) (by decide)
