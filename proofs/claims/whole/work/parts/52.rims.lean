section RS
variable {P : Nat → Nat} {m8 : Bool}
theorem sm_one {v n j : Nat} (hj : j < n) : fb_sm (fun k => if k = j then v else 0) n = v := by
  have := fb_sm_upd (fun _ => 0) v (i := j) (n := n) hj
  rw [fb_sm_const] at this
  omega
theorem rims_to {n : Nat} : n ≤ 256 → fb_sm (fun k => fb_sm (fun x => if cb (rp P m8 x = selD P m8 k) then sdN P x else 0) n) (cD P m8 256) = fb_sm (fun x => if dk P x then sdN P x else 0) n := by
  induction n with
  | zero => intro _; show fb_sm (fun k => 0) _ = 0; rw [fb_sm_const]; rfl
  | succ n ih =>
    intro hn
    have e : fb_sm (fun k => fb_sm (fun x => if cb (rp P m8 x = selD P m8 k) then sdN P x else 0) (n + 1)) (cD P m8 256) = fb_sm (fun k => fb_sm (fun x => if cb (rp P m8 x = selD P m8 k) then sdN P x else 0) n + (if cb (rp P m8 n = selD P m8 k) then sdN P n else 0)) (cD P m8 256) := rfl
    rw [e, fb_sm_add, ih (by omega)]
    show _ = fb_sm _ n + (if dk P n then sdN P n else 0)
    congr 1
    cases hd : dk P n
    · rw [fb_sm_cong (g := fun _ => 0) (fun k hk => by
        obtain ⟨a, b, c⟩ := selD_spec hk
        rw [cb_f.mpr (fun z => by have := b.2; rw [← z, rp_dk, hd] at this; cases this)]; rfl), fb_sm_const]
      rfl
    · have iD : isD P m8 (rp P m8 n) := isD_rp hd
      have lt : rp P m8 n < 256 := rp_lt (by omega)
      rw [fb_sm_cong (g := fun k => if k = cD P m8 (rp P m8 n) then sdN P n else 0) (fun k hk => by
        obtain ⟨a, b, c⟩ := selD_spec hk
        by_cases z : k = cD P m8 (rp P m8 n)
        · rw [if_pos z, cb_t.mpr (by rw [z, selD_cD lt iD])]; rfl
        · rw [if_neg z, cb_f.mpr (fun y => z (by rw [y, c]))]; rfl), sm_one (cD_lt lt iD)]
      rfl
theorem rims_all : fb_sm (fun k => rimR P m8 (selD P m8 k)) (cD P m8 256) = rimT P 256 := rims_to (Nat.le_refl _)
theorem MeI.sz {SZ RM BT LT RT : Nat → Int} {RR : Nat → Bool} (h : MeI P m8 SZ RM BT LT RT RR 256) {R : Nat} (hR : R < 256) (hh : rp P m8 R = R) : SZ (rix P R) = ((szR P m8 R : Nat) : Int) := (h R hR hh).1
theorem MeI.rm {SZ RM BT LT RT : Nat → Int} {RR : Nat → Bool} (h : MeI P m8 SZ RM BT LT RT RR 256) {R : Nat} (hR : R < 256) (hh : isD P m8 R) : RM (rix P R) = ((rimR P m8 R : Nat) : Int) := (h R hR hh.1).2.1 hh.2
theorem rimR_le (R : Nat) : rimR P m8 R ≤ 1024 := by
  have := fb_sm_bound (f := fun x => if cb (rp P m8 x = R) then sdN P x else 0) (c := 4) (n := 256) (fun k _ => by split; exact sdN_le _ _; omega)
  unfold rimR; omega
end RS
