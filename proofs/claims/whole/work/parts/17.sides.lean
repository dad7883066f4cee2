theorem sdN_le (P : Nat → Nat) (x : Nat) : sdN P x ≤ 4 := by
  have a := bZ_le (!(dz P ((x : Int) / 16 - 1) ((x : Int) % 16)))
  have b := bZ_le (!(dz P ((x : Int) / 16 + 1) ((x : Int) % 16)))
  have c := bZ_le (!(dz P ((x : Int) / 16) ((x : Int) % 16 - 1)))
  have d := bZ_le (!(dz P ((x : Int) / 16) ((x : Int) % 16 + 1)))
  unfold sdN
  omega
theorem ct_step {f : Nat → Prop} {n t : Nat} {b : Bool} (ht : t = fb_ct (fun k => cb (f k)) n) (hb : b = true ↔ f n) : t + bZ b = fb_ct (fun k => cb (f k)) (n + 1) := by
  rw [ht, bZ_cb hb]; rfl
theorem sm_t {f : Nat → Bool} {g : Nat → Nat} {n t : Nat} (ht : t = fb_sm (fun x => if f x then g x else 0) n) (h : f n = true) : t + g n = fb_sm (fun x => if f x then g x else 0) (n + 1) := by
  rw [fb_sm_succ, ht]; simp [h]
theorem sm_f {f : Nat → Bool} {g : Nat → Nat} {n t : Nat} (ht : t = fb_sm (fun x => if f x then g x else 0) n) (h : f n = false) : t + 0 = fb_sm (fun x => if f x then g x else 0) (n + 1) := by
  rw [fb_sm_succ, ht]; simp [h]
theorem edN_rng {P : Nat → Nat} {m8 : Bool} (col gr : Bool) (R : Nat) : ∀ n, n ≤ 256 → -1 ≤ edN P m8 col gr R n ∧ edN P m8 col gr R n ≤ 16
  | 0, _ => by unfold edN; cases gr <;> decide
  | n + 1, h => by
    have ih := edN_rng (P := P) (m8 := m8) col gr R n (by omega)
    have hv : -1 ≤ (if col then (n : Int) % 16 else (n : Int) / 16) ∧ (if col then (n : Int) % 16 else (n : Int) / 16) ≤ 16 := by cases col <;> simp <;> omega
    unfold edN
    generalize (if col then (n : Int) % 16 else (n : Int) / 16) = v at hv ⊢
    generalize (cb (rp P m8 n = R) && (if gr then decide (edN P m8 col gr R n < v) else decide (v < edN P m8 col gr R n))) = q
    cases q
    · exact ih
    · exact hv
theorem lgM_le {P : Nat → Nat} {m8 : Bool} : ∀ n, lgM P m8 n ≤ 256
  | 0 => by unfold lgM; omega
  | n + 1 => by
    unfold lgM
    split
    · exact szR_le _
    · exact lgM_le n
theorem lgB_rng {P : Nat → Nat} {m8 : Bool} : ∀ n : Nat, -1 ≤ lgB P m8 n ∧ lgB P m8 n ≤ n
  | 0 => by unfold lgB; omega
  | n + 1 => by
    have := lgB_rng (P := P) (m8 := m8) n
    unfold lgB
    split <;> omega
