theorem dSd_succ (v n : Nat) : dSd v (n + 1) = nxS (dSd v n) := by simp only [dSd]
theorem dP_succ (P : Nat → Nat) (v n : Nat) : dP P v (n + 1) = fl1 (dP P v n) (plc (dSd v (n + 1))) := by simp only [dP]
theorem dU_succ (U : Nat → Int) (P : Nat → Nat) (md : Int) (v a n : Nat) : dU U P md v a (n + 1) = pushN (dU U P md v a n) (rowsF (dP P v n) md) ((a + n) % 30) 17 := by simp only [dU]
theorem dSd_lt {v : Nat} (hv : v < 2147483648) : ∀ n, dSd v n < 2147483648
  | 0 => by rw [show dSd v 0 = v from by simp only [dSd]]; exact hv
  | n + 1 => by rw [dSd_succ]; exact nxS_lt _
theorem dU_step {U U1 U2 F1 : Nat → Int} {P : Nat → Nat} {md : Int} {v a n sa : Nat} (hsa : sa = (a + n) % 30) (hU1 : ∀ k, k < 510 → U1 k = dU U P md v a n k) (hF1 : Pic F1 (dP P v n)) (h16 : F1 16 = md) (h : ∀ k, k < 510 → U2 k = pushN U1 F1 sa 17 k) : ∀ k, k < 510 → U2 k = dU U P md v a (n + 1) k := by
  intro k hk
  rw [h k hk, dU_succ, hsa]
  exact push_cg hU1 (hF1.rows h16) k hk
theorem dP_step {F1 : Nat → Int} {P : Nat → Nat} {v n sv : Nat} (hsv : sv = dSd v n) (hF1 : Pic F1 (dP P v n)) : Pic (uZ F1 (plc (nxS sv) / 16) ((dP P v n (plc (nxS sv) / 16) ^^^ bit (plc (nxS sv)) : Nat) : Int)) (dP P v (n + 1)) := by
  rw [dP_succ, dSd_succ, ← hsv]
  exact hF1.fl (plc_lt _)
