theorem pic_cp {U F : Nat → Int} {a : Nat} (hb : ∀ k, k < 17 → 0 ≤ U (17 * a + k) ∧ U (17 * a + k) ≤ 65535) : Pic (cpZ U F (a * 17) 0 16) (toP U (17 * a)) := by
  intro k hk
  have := hb k (by omega)
  rw [cp_in _ _ (by omega), show a * 17 + (k - 0) = 17 * a + k by omega]
  unfold toP
  omega
theorem fl_at {P : Nat → Nat} {x : Nat} (hx : x < 256) : dk (fl1 P x) x = !(dk P x) := by
  unfold dk fl1 uN
  rw [if_pos rfl, Nat.testBit_xor, bit_tb, decide_eq_true rfl, Bool.xor_true]
theorem dU_stepC {U U1 U2 F1 : Nat → Int} {P : Nat → Nat} {jb : Int} {v ua i sa : Nat} (hsa : sa = (ua + i) % 30) (hU1 : ∀ k, k < 510 → U1 k = dU U P jb v ua i k) (hF1 : Pic F1 (dP P v i)) (h : ∀ k, k < 510 → U2 k = pushN U1 (uZ F1 16 jb) sa 17 k) : ∀ k, k < 510 → U2 k = dU U P jb v ua (i + 1) k := by
  intro k hk
  rw [h k hk, hsa]
  show _ = pushN (dU U P jb v ua i) (rowsF (dP P v i) jb) ((ua + i) % 30) 17 k
  refine push_cg hU1 (fun k hk => ?_) k hk
  unfold rowsF
  by_cases q : k < 16
  · rw [if_pos q, uZ_n _ _ (by omega)]; exact (hF1 k q).1
  · rw [if_neg q, show k = 16 by omega, uZ_s]
set_option maxRecDepth 20000 in
theorem in_X5_rowAt_X5 : ∀ w ∈ u_ws RX5 TX5 7, w ∈ wsX5_rowAt := by decide +kernel
set_option maxRecDepth 20000 in
theorem in_X5_seed_X5 : ∀ w ∈ u_ws RX5 TX5 7, w ∈ wsX5_seed := by decide +kernel
set_option maxRecDepth 20000 in
theorem in_X5_turn_X5 : ∀ w ∈ u_ws RX5 TX5 7, w ∈ wsX5_turn := by decide +kernel
set_option maxRecDepth 20000 in
theorem in_X5_grow_X5 : ∀ w ∈ u_ws RX5 TX5 7, w ∈ wsX5_grow := by decide +kernel
set_option maxRecDepth 20000 in
theorem in_X5_shrink_X5 : ∀ w ∈ u_ws RX5 TX5 7, w ∈ wsX5_shrink := by decide +kernel
set_option maxRecDepth 20000 in
theorem in_X5_move_X5 : ∀ w ∈ u_ws RX5 TX5 7, w ∈ wsX5_move := by decide +kernel
set_option maxRecDepth 20000 in
theorem in_X5_over_X5 : ∀ w ∈ u_ws RX5 TX5 7, w ∈ wsX5_over := by decide +kernel
set_option maxRecDepth 20000 in
theorem in_X5_undo_X5 : ∀ w ∈ u_ws RX5 TX5 7, w ∈ wsX5_undo := by decide +kernel
set_option maxRecDepth 20000 in
theorem in_X5_undo_X2 : ∀ w ∈ u_ws RX2 TX2 3, w ∈ wsX5_undo := by decide +kernel
set_option maxRecDepth 20000 in
theorem in_X5_drift_X5 : ∀ w ∈ u_ws RX5 TX5 7, w ∈ wsX5_drift := by decide +kernel
set_option maxRecDepth 20000 in
theorem in_X5_keep_X5 : ∀ w ∈ u_ws RX5 TX5 7, w ∈ wsX5_keep := by decide +kernel
set_option maxRecDepth 20000 in
theorem in_X5_goBack_X5 : ∀ w ∈ u_ws RX5 TX5 7, w ∈ wsX5_goBack := by decide +kernel
theorem hd_X3_isDark : yX3_isDark.cls = RX3 ∧ yX3_isDark.cls ≠ "java/lang/invoke/MethodHandle" ∧ yX3_isDark.cls ≠ "java/lang/invoke/VarHandle" ∧ (parseMethodDescriptor yX3_isDark.desc).map (fun d => d.parameters.length) = some 2 := by decide +kernel
theorem hd_X3_darkDots : yX3_darkDots.cls = RX3 ∧ yX3_darkDots.cls ≠ "java/lang/invoke/MethodHandle" ∧ yX3_darkDots.cls ≠ "java/lang/invoke/VarHandle" ∧ (parseMethodDescriptor yX3_darkDots.desc).map (fun d => d.parameters.length) = some 0 := by decide +kernel
theorem hd_X3_becomeGrown : yX3_becomeGrown.cls = RX3 ∧ yX3_becomeGrown.cls ≠ "java/lang/invoke/MethodHandle" ∧ yX3_becomeGrown.cls ≠ "java/lang/invoke/VarHandle" ∧ (parseMethodDescriptor yX3_becomeGrown.desc).map (fun d => d.parameters.length) = some 0 := by decide +kernel
theorem hd_X3_becomeShrunk : yX3_becomeShrunk.cls = RX3 ∧ yX3_becomeShrunk.cls ≠ "java/lang/invoke/MethodHandle" ∧ yX3_becomeShrunk.cls ≠ "java/lang/invoke/VarHandle" ∧ (parseMethodDescriptor yX3_becomeShrunk.desc).map (fun d => d.parameters.length) = some 0 := by decide +kernel
theorem hd_X3_becomeMoved : yX3_becomeMoved.cls = RX3 ∧ yX3_becomeMoved.cls ≠ "java/lang/invoke/MethodHandle" ∧ yX3_becomeMoved.cls ≠ "java/lang/invoke/VarHandle" ∧ (parseMethodDescriptor yX3_becomeMoved.desc).map (fun d => d.parameters.length) = some 2 := by decide +kernel
theorem hd_X3_becomeOver : yX3_becomeOver.cls = RX3 ∧ yX3_becomeOver.cls ≠ "java/lang/invoke/MethodHandle" ∧ yX3_becomeOver.cls ≠ "java/lang/invoke/VarHandle" ∧ (parseMethodDescriptor yX3_becomeOver.desc).map (fun d => d.parameters.length) = some 0 := by decide +kernel
theorem hd_X2_goBackBy : yX2_goBackBy.cls = RX2 ∧ yX2_goBackBy.cls ≠ "java/lang/invoke/MethodHandle" ∧ yX2_goBackBy.cls ≠ "java/lang/invoke/VarHandle" ∧ (parseMethodDescriptor yX2_goBackBy.desc).map (fun d => d.parameters.length) = some 2 := by decide +kernel
theorem hd_X5_drawPlace : yX5_drawPlace.cls = RX5 ∧ yX5_drawPlace.cls ≠ "java/lang/invoke/MethodHandle" ∧ yX5_drawPlace.cls ≠ "java/lang/invoke/VarHandle" ∧ (parseMethodDescriptor yX5_drawPlace.desc).map (fun d => d.parameters.length) = some 0 := by decide +kernel
theorem hd_X0_take : yX0_take.cls = RX0 ∧ yX0_take.cls ≠ "java/lang/invoke/MethodHandle" ∧ yX0_take.cls ≠ "java/lang/invoke/VarHandle" ∧ (parseMethodDescriptor yX0_take.desc).map (fun d => d.parameters.length) = some 3 := by decide +kernel
theorem hd_X2_forget : yX2_forget.cls = RX2 ∧ yX2_forget.cls ≠ "java/lang/invoke/MethodHandle" ∧ yX2_forget.cls ≠ "java/lang/invoke/VarHandle" ∧ (parseMethodDescriptor yX2_forget.desc).map (fun d => d.parameters.length) = some 0 := by decide +kernel
theorem hd_X0_isTaken : yX0_isTaken.cls = RX0 ∧ yX0_isTaken.cls ≠ "java/lang/invoke/MethodHandle" ∧ yX0_isTaken.cls ≠ "java/lang/invoke/VarHandle" ∧ (parseMethodDescriptor yX0_isTaken.desc).map (fun d => d.parameters.length) = some 1 := by decide +kernel
theorem hd_X0_show : yX0_show.cls = RX0 ∧ yX0_show.cls ≠ "java/lang/invoke/MethodHandle" ∧ yX0_show.cls ≠ "java/lang/invoke/VarHandle" ∧ (parseMethodDescriptor yX0_show.desc).map (fun d => d.parameters.length) = some 2 := by decide +kernel
theorem hd_X0_seedOf : yX0_seedOf.cls = RX0 ∧ yX0_seedOf.cls ≠ "java/lang/invoke/MethodHandle" ∧ yX0_seedOf.cls ≠ "java/lang/invoke/VarHandle" ∧ (parseMethodDescriptor yX0_seedOf.desc).map (fun d => d.parameters.length) = some 1 := by decide +kernel
set_option maxHeartbeats 4000000 in
set_option maxRecDepth 100000 in
theorem c_X5_rowAt (l : Launch) (D : va_G) (kI kB : ClassId) (o5 : Nat) (th : Nat) (pa : Nat) (im : Nat) (sd : Int) (st : Bool) (o : Nat) (pp : Nat) (q1 : Nat) (q2 : Nat) (F : Nat → Int) (jb : Int) (P : Nat → Nat) (r : Int) (w : Int) (hF : Pic F P) (rr : -2147483648 ≤ r ∧ r ≤ 2147483647) (rw : -2147483648 ≤ w ∧ w ≤ 2147483647) : gI l yX5_rowAt wsX5_rowAt ({ frames := 2, cells := 0, slots := 0, locals := 40 } : Room) D kI kB [.ref o5, .int (zI r), .int (zI w)] [(o5, .inr (5, [.ref pp, .ref o, .ref th, .ref pa, .ref im, .int (zI sd), .int (bI st)])), (pp, .inr (3, [.ref q1, .ref q2, .int (zI jb)])), (q1, .inl (kI, 16, .inl (aZ F)))] (zI (rowS P r w)) := by
  refine g_start (cc := cX5_rowAt) (maxL := 3) (ret := (some .int)) (by decide) rfl (Nat.le_of_ble_eq_true rfl) ?_
  intro xp xe xs xm xbl xmt xc xX xB xR xM xT xO xL xN wP wD wK ls wl
  have wS : va_S (fun _ => False) xs.heap xs.heap [] := va_S.rf
  have wl : lv_has ls 3 [(0, .ref o5), (1, .int (zI r)), (2, .int (zI w))] := wl
  refine lv_iload_n xX xB dX5_rowAt_0 rfl (lv_at wl 1 rfl) ?_
  refine g_pure (va_runS (As := [.int (zI r)]) (rest := []) ⟨xX, xB, xM, xO, xT⟩ (c_X5_isLine l D kI kB r rr) (va_cwS 1 xT gX5_rowAt_X5_isLine rfl rfl rfl hdn_X5_isLine ⟨Nat.le_of_ble_eq_true rfl, Nat.le_of_ble_eq_true rfl⟩) (g_preS wP wD wK [] (by decide) rfl) rfl rfl wl.1 rfl (lv_room (Nat.le_of_ble_eq_true rfl)) dX5_rowAt_1 ⟨Nat.le_of_ble_eq_true rfl, Nat.le_of_ble_eq_true rfl⟩) wP wS (fun H locs wP wS => ?_)
  refine b_if_ne (tgt := 10) xX xB dX5_rowAt_4 (by decide) (fun h4 => ?_) (fun h4 => ?_)
  · skip
    refine lv_iload_n xX xB dX5_rowAt_10 rfl (lv_at wl 2 rfl) ?_
    by_cases q11_0 : w = 0
    · subst q11_0
      refine z_look (pl := [(0, 25), (1, 34)]) (off := 25) (tgt := 36) xX xB dX5_rowAt_11 rfl (by decide) (by omega) (by decide) (by decide) ?_
      refine lv_aload_n xX xB dX5_rowAt_36 rfl (lv_at wl 0 rfl) ?_
      refine va_get (D := D) (ci := 5) (v := .ref pp) (C := RX5) (T := TX5) (N := 7) xX xB xT in_X5_rowAt_X5 xO wK.1 wP 0 rfl rfl 0 (by decide) (xT _ (List.mem_of_getElem? (i := 2) rfl)) (fun _ h9 => h9) rfl dX5_rowAt_37 ?_
      refine lv_iload_n xX xB dX5_rowAt_40 rfl (lv_at wl 1 rfl) ?_
      refine g_pure (va_runV (As := [.int (zI r)]) (rest := []) ⟨xX, xB, xM, xO, xT⟩ (c_X3_line l D kI kB pp q1 q2 F jb r rr) (cwV 1 xT gX5_rowAt_X3_line rfl rfl rfl hd_X3_line ⟨Nat.le_of_ble_eq_true rfl, Nat.le_of_ble_eq_true rfl⟩) (g_preV (ci := 3) (q0 := 1) wP wD wK [1, 2] (by decide) rfl rfl rfl) rfl rfl wl.1 rfl (lv_room (Nat.le_of_ble_eq_true rfl)) dX5_rowAt_41 ⟨Nat.le_of_ble_eq_true rfl, Nat.le_of_ble_eq_true rfl⟩) wP wS (fun H locs wP wS => ?_)
      refine lv_ri (y := zI (P r.toNat : Int)) (congrArg zI ((lnZ_in F (by have := of_decide_eq_true h4; omega)).trans (hF r.toNat (by have := of_decide_eq_true h4; omega)).1)) ?_
      exact g_iret xX xB xR xL wS dX5_rowAt_44 (congrArg zI (by unfold rowS; rw [if_pos (show 0 ≤ r ∧ r ≤ 15 from (by have := of_decide_eq_true h4; omega))]; rfl))
    by_cases q11_1 : w = 1
    · subst q11_1
      refine z_look (pl := [(0, 25), (1, 34)]) (off := 34) (tgt := 45) xX xB dX5_rowAt_11 rfl (by decide) (by omega) (by decide) (by decide) ?_
      refine lv_aload_n xX xB dX5_rowAt_45 rfl (lv_at wl 0 rfl) ?_
      refine va_get (D := D) (ci := 5) (v := .ref pp) (C := RX5) (T := TX5) (N := 7) xX xB xT in_X5_rowAt_X5 xO wK.1 wP 0 rfl rfl 0 (by decide) (xT _ (List.mem_of_getElem? (i := 2) rfl)) (fun _ h9 => h9) rfl dX5_rowAt_46 ?_
      refine lv_iload_n xX xB dX5_rowAt_49 rfl (lv_at wl 1 rfl) ?_
      refine g_pure (va_runV (As := [.int (zI r)]) (rest := []) ⟨xX, xB, xM, xO, xT⟩ (c_X3_line l D kI kB pp q1 q2 F jb r rr) (cwV 1 xT gX5_rowAt_X3_line rfl rfl rfl hd_X3_line ⟨Nat.le_of_ble_eq_true rfl, Nat.le_of_ble_eq_true rfl⟩) (g_preV (ci := 3) (q0 := 1) wP wD wK [1, 2] (by decide) rfl rfl rfl) rfl rfl wl.1 rfl (lv_room (Nat.le_of_ble_eq_true rfl)) dX5_rowAt_50 ⟨Nat.le_of_ble_eq_true rfl, Nat.le_of_ble_eq_true rfl⟩) wP wS (fun H locs wP wS => ?_)
      refine lv_ri (y := zI (P r.toNat : Int)) (congrArg zI ((lnZ_in F (by have := of_decide_eq_true h4; omega)).trans (hF r.toNat (by have := of_decide_eq_true h4; omega)).1)) ?_
      refine g_pure (va_runS (As := [.int (zI ((P r.toNat : Nat) : Int))]) (rest := []) ⟨xX, xB, xM, xO, xT⟩ (c_X5_runsOf l D kI kB (P r.toNat) (hF r.toNat (by have := of_decide_eq_true h4; omega)).2) (va_cwS 1 xT gX5_rowAt_X5_runsOf rfl rfl rfl hdn_X5_runsOf ⟨Nat.le_of_ble_eq_true rfl, Nat.le_of_ble_eq_true rfl⟩) (g_preS wP wD wK [] (by decide) rfl) rfl rfl wl.1 rfl (lv_room (Nat.le_of_ble_eq_true rfl)) dX5_rowAt_53 ⟨Nat.le_of_ble_eq_true rfl, Nat.le_of_ble_eq_true rfl⟩) wP wS (fun H locs wP wS => ?_)
      exact g_iret xX xB xR xL wS dX5_rowAt_56 (congrArg zI (by unfold rowS; rw [if_pos (show 0 ≤ r ∧ r ≤ 15 from (by have := of_decide_eq_true h4; omega))]; rfl))
    have h11 : ¬ w = 0 ∧ ¬ w = 1 := ⟨q11_0, q11_1⟩
    refine z_look (pl := [(0, 25), (1, 34)]) (off := 46) (tgt := 57) xX xB dX5_rowAt_11 rfl (by decide) (by omega) (by rw [Op.lookupswitch.offset_cons, if_neg (by omega), Op.lookupswitch.offset_cons, if_neg (by omega)]; rfl) (by decide) ?_
    refine z_ldc xX xB (-1000000002) (by decide) xO (xT _ (List.mem_of_getElem? (i := 3) rfl)) dX5_rowAt_57 ?_
    exact g_iret xX xB xR xL wS dX5_rowAt_59 (congrArg zI (by unfold rowS; rw [if_pos (show 0 ≤ r ∧ r ≤ 15 from (by have := of_decide_eq_true h4; omega)), if_neg h11.1, if_neg h11.2]))
  · skip
    refine z_ldc xX xB (-1000000001) (by decide) xO (xT _ (List.mem_of_getElem? (i := 1) rfl)) dX5_rowAt_7 ?_
    exact g_iret xX xB xR xL wS dX5_rowAt_9 (congrArg zI (by unfold rowS; rw [if_neg (fun z => of_decide_eq_false h4 (by omega))]))

set_option maxHeartbeats 4000000 in
set_option maxRecDepth 100000 in
theorem c_X5_seed_o (l : Launch) (D : va_G) (kI kB : ClassId) (o5 : Nat) (th : Nat) (pa : Nat) (im : Nat) (sd : Int) (st : Bool) (o : Nat) (pp : Nat) (v : Int) (rr : -2147483648 ≤ v ∧ v ≤ 2147483647) (hb : v < 0) : gI l yX5_seed wsX5_seed ({ frames := 0, cells := 0, slots := 0, locals := 0 } : Room) D kI kB [.ref o5, .int (zI v)] [(o5, .inr (5, [.ref pp, .ref o, .ref th, .ref pa, .ref im, .int (zI sd), .int (bI st)]))] (zI (-1000000002)) := by
  refine g_start (cc := cX5_seed) (maxL := 3) (ret := (some .int)) (by decide) rfl (Nat.le_of_ble_eq_true rfl) ?_
  intro xp xe xs xm xbl xmt xc xX xB xR xM xT xO xL xN wP wD wK ls wl
  have wS : va_S (fun _ => False) xs.heap xs.heap [] := va_S.rf
  have wl : lv_has ls 3 [(0, .ref o5), (1, .int (zI v))] := wl
  refine lv_iload_n xX xB dX5_seed_0 rfl (lv_at wl 1 rfl) ?_
  refine z_if_ge (tgt := 7) xX xB dX5_seed_1 (by decide) (by omega) (fun h1 => ?_) (fun h1 => ?_)
  · exact absurd h1 (by omega)
  · skip
    refine z_ldc xX xB (-1000000002) (by decide) xO (xT _ (List.mem_of_getElem? (i := 1) rfl)) dX5_seed_4 ?_
    exact g_iret xX xB xR xL wS dX5_seed_6 rfl

set_option maxHeartbeats 4000000 in
set_option maxRecDepth 100000 in
theorem c_X5_seed (l : Launch) (D : va_G) (kI kB : ClassId) (o5 : Nat) (th : Nat) (pa : Nat) (im : Nat) (sd : Int) (st : Bool) (o : Nat) (pp : Nat) (v : Int) (rr : -2147483648 ≤ v ∧ v ≤ 2147483647) (hb : 0 ≤ v) : gM l yX5_seed wsX5_seed ({ frames := 0, cells := 0, slots := 0, locals := 0 } : Room) D kI kB [.ref o5, .int (zI v)] [(o5, .inr (5, [.ref pp, .ref o, .ref th, .ref pa, .ref im, .int (zI sd), .int (bI st)]))] (fun (_ : Unit) => [(o5, .inr (5, [.ref pp, .ref o, .ref th, .ref pa, .ref im, .int (zI v), .int (bI st)]))]) (fun (r : Int32) (_ : Unit) => r = zI sd ∧ True) := by
  refine g_start (cc := cX5_seed) (maxL := 3) (ret := (some .int)) (by decide) rfl (Nat.le_of_ble_eq_true rfl) ?_
  intro xp xe xs xm xbl xmt xc xX xB xR xM xT xO xL xN wP wD wK ls wl
  have wS : va_S (gA [(o5, .inr (5, [.ref pp, .ref o, .ref th, .ref pa, .ref im, .int (zI sd), .int (bI st)]))]) xs.heap xs.heap [] := va_S.rf
  have wl : lv_has ls 3 [(0, .ref o5), (1, .int (zI v))] := wl
  refine lv_iload_n xX xB dX5_seed_0 rfl (lv_at wl 1 rfl) ?_
  refine z_if_ge (tgt := 7) xX xB dX5_seed_1 (by decide) (by omega) (fun h1 => ?_) (fun h1 => ?_)
  · skip
    refine lv_aload_n xX xB dX5_seed_7 rfl (lv_at wl 0 rfl) ?_
    refine va_get (D := D) (ci := 5) (v := .int (zI sd)) (C := RX5) (T := TX5) (N := 7) xX xB xT in_X5_seed_X5 xO wK.1 wP 0 rfl rfl 5 (by decide) (xT _ (List.mem_of_getElem? (i := 2) rfl)) (fun _ h9 => h9) rfl dX5_seed_8 ?_
    refine lv_istore_n (lv' := [(2, .int (zI sd)), (0, .ref o5), (1, .int (zI v))]) xX xB dX5_seed_11 rfl wl (by decide) rfl (fun ls wl => ?_)
    refine lv_aload_n xX xB dX5_seed_12 rfl (lv_at wl 1 rfl) ?_
    refine lv_iload_n xX xB dX5_seed_13 rfl (lv_at wl 2 rfl) ?_
    refine va_put (D := D) (ci := 5) (v := .int (zI v)) (ty := .int) (C := RX5) (T := TX5) (N := 7) xX xB xT in_X5_seed_X5 tyX5 tyX5_ok nmX5 xO wK.1 wP wD wS 0 rfl rfl 5 (by decide) (xT _ (List.mem_of_getElem? (i := 2) rfl)) (fun _ h9 => h9) rfl (by decide +kernel) rfl rfl (Nat.le_of_ble_eq_true rfl) dX5_seed_14 (fun H locs wP wD wS => ?_)
    have wP : va_P D gC [(o5, .inr (5, [.ref pp, .ref o, .ref th, .ref pa, .ref im, .int (zI v), .int (bI st)]))] H := wP
    have wD : va_D (gA [(o5, .inr (5, [.ref pp, .ref o, .ref th, .ref pa, .ref im, .int (zI sd), .int (bI st)]))]) [(o5, .inr (5, [.ref pp, .ref o, .ref th, .ref pa, .ref im, .int (zI v), .int (bI st)]))] := wD
    refine lv_iload_n xX xB dX5_seed_17 rfl (lv_at wl 0 rfl) ?_
    exact g_mret () xX xB xR xL wP wS dX5_seed_18 ⟨rfl, trivial⟩
  · exact absurd h1 (by omega)

set_option maxHeartbeats 4000000 in
set_option maxRecDepth 100000 in
theorem c_X5_turn_u (l : Launch) (D : va_G) (kI kB : ClassId) (o5 : Nat) (th : Nat) (pa : Nat) (im : Nat) (sd : Int) (st : Bool) (o : Nat) (pp : Nat) (ro : Int) (co : Int) (rr : -2147483648 ≤ ro ∧ ro ≤ 2147483647) (rv : -2147483648 ≤ co ∧ co ≤ 2147483647) (hb : ¬ ((0 ≤ ro ∧ ro ≤ 15) ∧ (0 ≤ co ∧ co ≤ 15))) : gI l yX5_turn wsX5_turn ({ frames := 1, cells := 0, slots := 0, locals := 20 } : Room) D kI kB [.ref o5, .int (zI ro), .int (zI co)] [(o5, .inr (5, [.ref pp, .ref o, .ref th, .ref pa, .ref im, .int (zI sd), .int (bI st)]))] (zI (-1000000001)) := by
  refine g_start (cc := cX5_turn) (maxL := 3) (ret := (some .int)) (by decide) rfl (Nat.le_of_ble_eq_true rfl) ?_
  intro xp xe xs xm xbl xmt xc xX xB xR xM xT xO xL xN wP wD wK ls wl
  have wS : va_S (fun _ => False) xs.heap xs.heap [] := va_S.rf
  have wl : lv_has ls 3 [(0, .ref o5), (1, .int (zI ro)), (2, .int (zI co))] := wl
  refine lv_iload_n xX xB dX5_turn_0 rfl (lv_at wl 1 rfl) ?_
  refine g_pure (va_runS (As := [.int (zI ro)]) (rest := []) ⟨xX, xB, xM, xO, xT⟩ (c_X5_isLine l D kI kB ro rr) (va_cwS 1 xT gX5_turn_X5_isLine rfl rfl rfl hdn_X5_isLine ⟨Nat.le_of_ble_eq_true rfl, Nat.le_of_ble_eq_true rfl⟩) (g_preS wP wD wK [] (by decide) rfl) rfl rfl wl.1 rfl (lv_room (Nat.le_of_ble_eq_true rfl)) dX5_turn_1 ⟨Nat.le_of_ble_eq_true rfl, Nat.le_of_ble_eq_true rfl⟩) wP wS (fun H locs wP wS => ?_)
  refine b_if_eq (tgt := 14) xX xB dX5_turn_4 (by decide) (fun h4 => ?_) (fun h4 => ?_)
  · skip
    refine z_ldc xX xB (-1000000001) (by decide) xO (xT _ (List.mem_of_getElem? (i := 1) rfl)) dX5_turn_14 ?_
    exact g_iret xX xB xR xL wS dX5_turn_16 rfl
  · skip
    refine lv_iload_n xX xB dX5_turn_7 rfl (lv_at wl 2 rfl) ?_
    refine g_pure (va_runS (As := [.int (zI co)]) (rest := []) ⟨xX, xB, xM, xO, xT⟩ (c_X5_isLine l D kI kB co rv) (va_cwS 1 xT gX5_turn_X5_isLine rfl rfl rfl hdn_X5_isLine ⟨Nat.le_of_ble_eq_true rfl, Nat.le_of_ble_eq_true rfl⟩) (g_preS wP wD wK [] (by decide) rfl) rfl rfl wl.1 rfl (lv_room (Nat.le_of_ble_eq_true rfl)) dX5_turn_8 ⟨Nat.le_of_ble_eq_true rfl, Nat.le_of_ble_eq_true rfl⟩) wP wS (fun H locs wP wS => ?_)
    refine b_if_ne (tgt := 17) xX xB dX5_turn_11 (by decide) (fun h11 => ?_) (fun h11 => ?_)
    · exact absurd h11 (fun z => hb (by have := of_decide_eq_true h4; have := of_decide_eq_true z; omega))
    · skip
      refine z_ldc xX xB (-1000000001) (by decide) xO (xT _ (List.mem_of_getElem? (i := 1) rfl)) dX5_turn_14 ?_
      exact g_iret xX xB xR xL wS dX5_turn_16 rfl

set_option maxHeartbeats 4000000 in
set_option maxRecDepth 100000 in
theorem c_X5_turn (l : Launch) (D : va_G) (kI kB : ClassId) (o5 : Nat) (th : Nat) (pa : Nat) (im : Nat) (sd : Int) (st : Bool) (o : Nat) (ps : Nat) (ua : Nat) (um : Nat) (U : Nat → Int) (pp : Nat) (q1 : Nat) (q2 : Nat) (F : Nat → Int) (jb : Int) (P : Nat → Nat) (ro : Nat) (co : Nat) (hua : ua < 30) (hum : um ≤ 30) (hF : Pic F P) (hro : ro < 16) (hco : co < 16) : gM l yX5_turn wsX5_turn ({ frames := 4, cells := 0, slots := 0, locals := 81 } : Room) D kI kB [.ref o5, .int (zI (ro : Int)), .int (zI (co : Int))] [(o5, .inr (5, [.ref pp, .ref o, .ref th, .ref pa, .ref im, .int (zI sd), .int (bI st)])), (pa, .inr (2, [.ref ps, .int (zI (ua : Int)), .int (zI (um : Int))])), (ps, .inl (kI, 510, .inl (aZ U))), (pp, .inr (3, [.ref q1, .ref q2, .int (zI jb)])), (q1, .inl (kI, 16, .inl (aZ F)))] (fun (w_ : (Nat → Int) × (Nat → Int)) => [(o5, .inr (5, [.ref pp, .ref o, .ref th, .ref pa, .ref im, .int (zI sd), .int (bI true)])), (pa, .inr (2, [.ref ps, .int (zI (((ua + 1) % 30 : Nat) : Int)), .int (zI ((if um < 30 then um + 1 else um : Nat) : Int))])), (ps, .inl (kI, 510, .inl (aZ (w_.2)))), (pp, .inr (3, [.ref q1, .ref q2, .int (zI jb)])), (q1, .inl (kI, 16, .inl (aZ (w_.1))))]) (fun (r : Int32) (w_ : (Nat → Int) × (Nat → Int)) => r = zI ((bZ (!(dk P (16 * ro + co))) : Nat) : Int) ∧ Pic (w_.1) (fl1 P (16 * ro + co)) ∧ (∀ k, k < 510 → (w_.2) k = pushN U (uZ F 16 jb) ua 17 k)) := by
  refine g_start (cc := cX5_turn) (maxL := 3) (ret := (some .int)) (by decide) rfl (Nat.le_of_ble_eq_true rfl) ?_
  intro xp xe xs xm xbl xmt xc xX xB xR xM xT xO xL xN wP wD wK ls wl
  have wS : va_S (gA [(o5, .inr (5, [.ref pp, .ref o, .ref th, .ref pa, .ref im, .int (zI sd), .int (bI st)])), (pa, .inr (2, [.ref ps, .int (zI (ua : Int)), .int (zI (um : Int))])), (ps, .inl (kI, 510, .inl (aZ U))), (pp, .inr (3, [.ref q1, .ref q2, .int (zI jb)])), (q1, .inl (kI, 16, .inl (aZ F)))]) xs.heap xs.heap [] := va_S.rf
  have wl : lv_has ls 3 [(0, .ref o5), (1, .int (zI (ro : Int))), (2, .int (zI (co : Int)))] := wl
  have hbl : (1 <<< co : Nat) < 65536 := by have := bit_lt co; unfold bit at this; rwa [show co % 16 = co by omega] at this
  have hfl : Pic (uZ F ro ((P ro ^^^ 1 <<< co : Nat) : Int)) (fl1 P (16 * ro + co)) := by have z := hF.fl (x := 16 * ro + co) (by omega); unfold bit at z; rw [show (16 * ro + co) / 16 = ro by omega, show (16 * ro + co) % 16 = co by omega] at z; exact z
  refine lv_iload_n xX xB dX5_turn_0 rfl (lv_at wl 1 rfl) ?_
  refine g_pure (va_runS (As := [.int (zI (ro : Int))]) (rest := []) ⟨xX, xB, xM, xO, xT⟩ (c_X5_isLine l D kI kB (ro : Int) (by omega)) (va_cwS 1 xT gX5_turn_X5_isLine rfl rfl rfl hdn_X5_isLine ⟨Nat.le_of_ble_eq_true rfl, Nat.le_of_ble_eq_true rfl⟩) (g_preS wP wD wK [] (by decide) rfl) rfl rfl wl.1 rfl (lv_room (Nat.le_of_ble_eq_true rfl)) dX5_turn_1 ⟨Nat.le_of_ble_eq_true rfl, Nat.le_of_ble_eq_true rfl⟩) wP wS (fun H locs wP wS => ?_)
  refine b_if_eq (tgt := 14) xX xB dX5_turn_4 (by decide) (fun h4 => ?_) (fun h4 => ?_)
  · exact absurd h4 (by rw [decide_eq_true (by omega)]; decide)
  · skip
    refine lv_iload_n xX xB dX5_turn_7 rfl (lv_at wl 2 rfl) ?_
    refine g_pure (va_runS (As := [.int (zI (co : Int))]) (rest := []) ⟨xX, xB, xM, xO, xT⟩ (c_X5_isLine l D kI kB (co : Int) (by omega)) (va_cwS 1 xT gX5_turn_X5_isLine rfl rfl rfl hdn_X5_isLine ⟨Nat.le_of_ble_eq_true rfl, Nat.le_of_ble_eq_true rfl⟩) (g_preS wP wD wK [] (by decide) rfl) rfl rfl wl.1 rfl (lv_room (Nat.le_of_ble_eq_true rfl)) dX5_turn_8 ⟨Nat.le_of_ble_eq_true rfl, Nat.le_of_ble_eq_true rfl⟩) wP wS (fun H locs wP wS => ?_)
    refine b_if_ne (tgt := 17) xX xB dX5_turn_11 (by decide) (fun h11 => ?_) (fun h11 => ?_)
    · skip
      refine lv_aload_n xX xB dX5_turn_17 rfl (lv_at wl 0 rfl) ?_
      refine g_modv (va_runV (As := []) (rest := []) ⟨xX, xB, xM, xO, xT⟩ (c_X5_remember l D kI kB o5 th pa im sd st o ps ua um U pp q1 q2 F jb hua hum) (cwV 0 xT gX5_turn_X5_remember rfl rfl rfl hd_X5_remember ⟨Nat.le_of_ble_eq_true rfl, Nat.le_of_ble_eq_true rfl⟩) (g_preV (ci := 5) (q0 := 0) wP wD wK [0, 1, 2, 3, 4] (by decide) rfl rfl rfl) rfl rfl wl.1 rfl (lv_room (Nat.le_of_ble_eq_true rfl)) dX5_turn_18 ⟨Nat.le_of_ble_eq_true rfl, Nat.le_of_ble_eq_true rfl⟩) wP wD wS [0, 1, 2, 3, 4] rfl (fun _ => rfl) (fun U1_1 H locs hc18 wP wD wS => ?_)
      try dsimp only at hc18
      have wP : va_P D gC [(o5, .inr (5, [.ref pp, .ref o, .ref th, .ref pa, .ref im, .int (zI sd), .int (bI true)])), (pa, .inr (2, [.ref ps, .int (zI (((ua + 1) % 30 : Nat) : Int)), .int (zI ((if um < 30 then um + 1 else um : Nat) : Int))])), (ps, .inl (kI, 510, .inl (aZ U1_1))), (pp, .inr (3, [.ref q1, .ref q2, .int (zI jb)])), (q1, .inl (kI, 16, .inl (aZ F)))] H := wP
      have wD : va_D (gA [(o5, .inr (5, [.ref pp, .ref o, .ref th, .ref pa, .ref im, .int (zI sd), .int (bI st)])), (pa, .inr (2, [.ref ps, .int (zI (ua : Int)), .int (zI (um : Int))])), (ps, .inl (kI, 510, .inl (aZ U))), (pp, .inr (3, [.ref q1, .ref q2, .int (zI jb)])), (q1, .inl (kI, 16, .inl (aZ F)))]) [(o5, .inr (5, [.ref pp, .ref o, .ref th, .ref pa, .ref im, .int (zI sd), .int (bI true)])), (pa, .inr (2, [.ref ps, .int (zI (((ua + 1) % 30 : Nat) : Int)), .int (zI ((if um < 30 then um + 1 else um : Nat) : Int))])), (ps, .inl (kI, 510, .inl (aZ U1_1))), (pp, .inr (3, [.ref q1, .ref q2, .int (zI jb)])), (q1, .inl (kI, 16, .inl (aZ F)))] := wD
      refine lv_aload_n xX xB dX5_turn_21 rfl (lv_at wl 0 rfl) ?_
      refine va_get (D := D) (ci := 5) (v := .ref pp) (C := RX5) (T := TX5) (N := 7) xX xB xT in_X5_turn_X5 xO wK.1 wP 0 rfl rfl 0 (by decide) (xT _ (List.mem_of_getElem? (i := 2) rfl)) (fun _ h9 => h9) rfl dX5_turn_22 ?_
      refine lv_iload_n xX xB dX5_turn_25 rfl (lv_at wl 1 rfl) ?_
      refine z_iconst xX xB dX5_turn_26 ?_
      refine lv_iload_n xX xB dX5_turn_27 rfl (lv_at wl 2 rfl) ?_
      refine lv_ishl xX xB dX5_turn_28 ?_
      refine lv_ri (y := zI ((1 <<< co : Nat) : Int)) (zb_bitk hco) ?_
      refine g_modv (va_runV (As := [.int (zI (ro : Int)), .int (zI ((1 <<< co : Nat) : Int))]) (rest := []) ⟨xX, xB, xM, xO, xT⟩ (c_X3_flip l D kI kB pp q1 q2 F jb P ro (1 <<< co) hF hro hbl) (cwV 2 xT gX5_turn_X3_flip rfl rfl rfl hd_X3_flip ⟨Nat.le_of_ble_eq_true rfl, Nat.le_of_ble_eq_true rfl⟩) (g_preV (ci := 3) (q0 := 3) wP wD wK [3, 4] (by decide) rfl rfl rfl) rfl rfl wl.1 rfl (lv_room (Nat.le_of_ble_eq_true rfl)) dX5_turn_29 ⟨Nat.le_of_ble_eq_true rfl, Nat.le_of_ble_eq_true rfl⟩) wP wD wS [3, 4] rfl (fun _ => rfl) (fun u_ H locs hc29 wP wD wS => ?_)
      try dsimp only at hc29
      have wP : va_P D gC [(o5, .inr (5, [.ref pp, .ref o, .ref th, .ref pa, .ref im, .int (zI sd), .int (bI true)])), (pa, .inr (2, [.ref ps, .int (zI (((ua + 1) % 30 : Nat) : Int)), .int (zI ((if um < 30 then um + 1 else um : Nat) : Int))])), (ps, .inl (kI, 510, .inl (aZ U1_1))), (pp, .inr (3, [.ref q1, .ref q2, .int (zI jb)])), (q1, .inl (kI, 16, .inl (aZ (uZ F ro ((P ro ^^^ (1 <<< co) : Nat) : Int)))))] H := wP
      have wD : va_D (gA [(o5, .inr (5, [.ref pp, .ref o, .ref th, .ref pa, .ref im, .int (zI sd), .int (bI st)])), (pa, .inr (2, [.ref ps, .int (zI (ua : Int)), .int (zI (um : Int))])), (ps, .inl (kI, 510, .inl (aZ U))), (pp, .inr (3, [.ref q1, .ref q2, .int (zI jb)])), (q1, .inl (kI, 16, .inl (aZ F)))]) [(o5, .inr (5, [.ref pp, .ref o, .ref th, .ref pa, .ref im, .int (zI sd), .int (bI true)])), (pa, .inr (2, [.ref ps, .int (zI (((ua + 1) % 30 : Nat) : Int)), .int (zI ((if um < 30 then um + 1 else um : Nat) : Int))])), (ps, .inl (kI, 510, .inl (aZ U1_1))), (pp, .inr (3, [.ref q1, .ref q2, .int (zI jb)])), (q1, .inl (kI, 16, .inl (aZ (uZ F ro ((P ro ^^^ (1 <<< co) : Nat) : Int)))))] := wD
      refine lv_aload_n xX xB dX5_turn_32 rfl (lv_at wl 0 rfl) ?_
      refine va_get (D := D) (ci := 5) (v := .ref pp) (C := RX5) (T := TX5) (N := 7) xX xB xT in_X5_turn_X5 xO wK.1 wP 0 rfl rfl 0 (by decide) (xT _ (List.mem_of_getElem? (i := 2) rfl)) (fun _ h9 => h9) rfl dX5_turn_33 ?_
      refine lv_iload_n xX xB dX5_turn_36 rfl (lv_at wl 1 rfl) ?_
      refine lv_iload_n xX xB dX5_turn_37 rfl (lv_at wl 2 rfl) ?_
      refine g_pure (va_runV (As := [.int (zI (ro : Int)), .int (zI (co : Int))]) (rest := []) ⟨xX, xB, xM, xO, xT⟩ (c_X3_isDark l D kI kB pp q1 q2 (uZ F ro ((P ro ^^^ (1 <<< co) : Nat) : Int)) jb (fl1 P (16 * ro + co)) ro co hfl hro hco) (cwV 2 xT gX5_turn_X3_isDark rfl rfl rfl hd_X3_isDark ⟨Nat.le_of_ble_eq_true rfl, Nat.le_of_ble_eq_true rfl⟩) (g_preV (ci := 3) (q0 := 3) wP wD wK [3, 4] (by decide) rfl rfl rfl) rfl rfl wl.1 rfl (lv_room (Nat.le_of_ble_eq_true rfl)) dX5_turn_38 ⟨Nat.le_of_ble_eq_true rfl, Nat.le_of_ble_eq_true rfl⟩) wP wS (fun H locs wP wS => ?_)
      refine t_b_eq xX xB dX5_turn_41 dX5_turn_44 dX5_turn_45 dX5_turn_48 ?_
      exact g_mret (uZ F ro ((P ro ^^^ (1 <<< co) : Nat) : Int), U1_1) xX xB xR xL wP wS dX5_turn_49 ⟨by rw [bI_Z, ← dk_row (P := fl1 P (16 * ro + co)) hco, fl_at (by omega)], hfl, hc18⟩
    · exact absurd h11 (by rw [decide_eq_true (by omega)]; decide)

set_option maxHeartbeats 4000000 in
set_option maxRecDepth 100000 in
theorem c_X5_grow (l : Launch) (D : va_G) (kI kB : ClassId) (o5 : Nat) (th : Nat) (pa : Nat) (im : Nat) (sd : Int) (st : Bool) (o : Nat) (ps : Nat) (ua : Nat) (um : Nat) (U : Nat → Int) (pp : Nat) (q1 : Nat) (q2 : Nat) (F : Nat → Int) (jb : Int) (G : Nat → Int) (P : Nat → Nat) (m8 : Bool) (hF : Pic F P) (rj : -2147483648 ≤ jb ∧ jb ≤ 2147483647) (hm : m8 = decide (jb = 8)) (hua : ua < 30) (hum : um ≤ 30) : gM l yX5_grow wsX5_grow ({ frames := 4, cells := 0, slots := 0, locals := 81 } : Room) D kI kB [.ref o5] [(o5, .inr (5, [.ref pp, .ref o, .ref th, .ref pa, .ref im, .int (zI sd), .int (bI st)])), (pa, .inr (2, [.ref ps, .int (zI (ua : Int)), .int (zI (um : Int))])), (ps, .inl (kI, 510, .inl (aZ U))), (pp, .inr (3, [.ref q1, .ref q2, .int (zI jb)])), (q1, .inl (kI, 16, .inl (aZ F))), (q2, .inl (kI, 16, .inl (aZ G)))] (fun (w_ : (Nat → Int) × (Nat → Int) × (Nat → Nat) × (Nat → Int)) => [(o5, .inr (5, [.ref pp, .ref o, .ref th, .ref pa, .ref im, .int (zI sd), .int (bI true)])), (pa, .inr (2, [.ref ps, .int (zI (((ua + 1) % 30 : Nat) : Int)), .int (zI ((if um < 30 then um + 1 else um : Nat) : Int))])), (ps, .inl (kI, 510, .inl (aZ (w_.2.2.2)))), (pp, .inr (3, [.ref q1, .ref q2, .int (zI jb)])), (q1, .inl (kI, 16, .inl (aZ (w_.1)))), (q2, .inl (kI, 16, .inl (aZ (w_.2.1))))]) (fun (r : Int32) (w_ : (Nat → Int) × (Nat → Int) × (Nat → Nat) × (Nat → Int)) => r = zI ((fb_ct (fun x => (dk P x == false) && nrN P m8 x false 9) 256 : Nat) : Int) ∧ Pic (w_.1) (w_.2.2.1) ∧ (∀ x, x < 256 → dk (w_.2.2.1) x = (dk P x ^^ (fun x => (dk P x == false) && nrN P m8 x false 9) x)) ∧ (∀ k, k < 510 → (w_.2.2.2) k = pushN U (uZ F 16 jb) ua 17 k)) := by
  refine g_start (cc := cX5_grow) (maxL := 2) (ret := (some .int)) (by decide) rfl (Nat.le_of_ble_eq_true rfl) ?_
  intro xp xe xs xm xbl xmt xc xX xB xR xM xT xO xL xN wP wD wK ls wl
  have wS : va_S (gA [(o5, .inr (5, [.ref pp, .ref o, .ref th, .ref pa, .ref im, .int (zI sd), .int (bI st)])), (pa, .inr (2, [.ref ps, .int (zI (ua : Int)), .int (zI (um : Int))])), (ps, .inl (kI, 510, .inl (aZ U))), (pp, .inr (3, [.ref q1, .ref q2, .int (zI jb)])), (q1, .inl (kI, 16, .inl (aZ F))), (q2, .inl (kI, 16, .inl (aZ G)))]) xs.heap xs.heap [] := va_S.rf
  have wl : lv_has ls 2 [(0, .ref o5)] := wl
  subst hm
  refine lv_aload_n xX xB dX5_grow_0 rfl (lv_at wl 0 rfl) ?_
  refine g_modv (va_runV (As := []) (rest := []) ⟨xX, xB, xM, xO, xT⟩ (c_X5_remember l D kI kB o5 th pa im sd st o ps ua um U pp q1 q2 F jb hua hum) (cwV 0 xT gX5_grow_X5_remember rfl rfl rfl hd_X5_remember ⟨Nat.le_of_ble_eq_true rfl, Nat.le_of_ble_eq_true rfl⟩) (g_preV (ci := 5) (q0 := 0) wP wD wK [0, 1, 2, 3, 4] (by decide) rfl rfl rfl) rfl rfl wl.1 rfl (lv_room (Nat.le_of_ble_eq_true rfl)) dX5_grow_1 ⟨Nat.le_of_ble_eq_true rfl, Nat.le_of_ble_eq_true rfl⟩) wP wD wS [0, 1, 2, 3, 4] rfl (fun _ => rfl) (fun U1_1 H locs hc1 wP wD wS => ?_)
  try dsimp only at hc1
  have wP : va_P D gC [(o5, .inr (5, [.ref pp, .ref o, .ref th, .ref pa, .ref im, .int (zI sd), .int (bI true)])), (pa, .inr (2, [.ref ps, .int (zI (((ua + 1) % 30 : Nat) : Int)), .int (zI ((if um < 30 then um + 1 else um : Nat) : Int))])), (ps, .inl (kI, 510, .inl (aZ U1_1))), (pp, .inr (3, [.ref q1, .ref q2, .int (zI jb)])), (q1, .inl (kI, 16, .inl (aZ F))), (q2, .inl (kI, 16, .inl (aZ G)))] H := wP
  have wD : va_D (gA [(o5, .inr (5, [.ref pp, .ref o, .ref th, .ref pa, .ref im, .int (zI sd), .int (bI st)])), (pa, .inr (2, [.ref ps, .int (zI (ua : Int)), .int (zI (um : Int))])), (ps, .inl (kI, 510, .inl (aZ U))), (pp, .inr (3, [.ref q1, .ref q2, .int (zI jb)])), (q1, .inl (kI, 16, .inl (aZ F))), (q2, .inl (kI, 16, .inl (aZ G)))]) [(o5, .inr (5, [.ref pp, .ref o, .ref th, .ref pa, .ref im, .int (zI sd), .int (bI true)])), (pa, .inr (2, [.ref ps, .int (zI (((ua + 1) % 30 : Nat) : Int)), .int (zI ((if um < 30 then um + 1 else um : Nat) : Int))])), (ps, .inl (kI, 510, .inl (aZ U1_1))), (pp, .inr (3, [.ref q1, .ref q2, .int (zI jb)])), (q1, .inl (kI, 16, .inl (aZ F))), (q2, .inl (kI, 16, .inl (aZ G)))] := wD
  refine lv_aload_n xX xB dX5_grow_4 rfl (lv_at wl 0 rfl) ?_
  refine va_get (D := D) (ci := 5) (v := .ref pp) (C := RX5) (T := TX5) (N := 7) xX xB xT in_X5_grow_X5 xO wK.1 wP 0 rfl rfl 0 (by decide) (xT _ (List.mem_of_getElem? (i := 1) rfl)) (fun _ h9 => h9) rfl dX5_grow_5 ?_
  refine g_pure (va_runV (As := []) (rest := []) ⟨xX, xB, xM, xO, xT⟩ (c_X3_darkDots l D kI kB pp q1 q2 F jb P hF) (cwV 0 xT gX5_grow_X3_darkDots rfl rfl rfl hd_X3_darkDots ⟨Nat.le_of_ble_eq_true rfl, Nat.le_of_ble_eq_true rfl⟩) (g_preV (ci := 3) (q0 := 3) wP wD wK [3, 4] (by decide) rfl rfl rfl) rfl rfl wl.1 rfl (lv_room (Nat.le_of_ble_eq_true rfl)) dX5_grow_8 ⟨Nat.le_of_ble_eq_true rfl, Nat.le_of_ble_eq_true rfl⟩) wP wS (fun H locs wP wS => ?_)
  refine lv_istore_n (lv' := [(1, .int (zI (dots P : Int))), (0, .ref o5)]) xX xB dX5_grow_11 rfl wl (by decide) rfl (fun ls wl => ?_)
  refine lv_aload_n xX xB dX5_grow_12 rfl (lv_at wl 1 rfl) ?_
  refine va_get (D := D) (ci := 5) (v := .ref pp) (C := RX5) (T := TX5) (N := 7) xX xB xT in_X5_grow_X5 xO wK.1 wP 0 rfl rfl 0 (by decide) (xT _ (List.mem_of_getElem? (i := 1) rfl)) (fun _ h9 => h9) rfl dX5_grow_13 ?_
  refine g_modv (va_runV (As := []) (rest := []) ⟨xX, xB, xM, xO, xT⟩ (c_X3_becomeGrown l D kI kB pp q1 q2 F G jb P hF rj) (cwV 0 xT gX5_grow_X3_becomeGrown rfl rfl rfl hd_X3_becomeGrown ⟨Nat.le_of_ble_eq_true rfl, Nat.le_of_ble_eq_true rfl⟩) (g_preV (ci := 3) (q0 := 3) wP wD wK [3, 4, 5] (by decide) rfl rfl rfl) rfl rfl wl.1 rfl (lv_room (Nat.le_of_ble_eq_true rfl)) dX5_grow_16 ⟨Nat.le_of_ble_eq_true rfl, Nat.le_of_ble_eq_true rfl⟩) wP wD wS [3, 4, 5] rfl (fun _ => rfl) (fun u_ H locs hc16 wP wD wS => ?_)
  obtain ⟨F1_2, G1_3⟩ := u_
  try dsimp only at hc16
  have wP : va_P D gC [(o5, .inr (5, [.ref pp, .ref o, .ref th, .ref pa, .ref im, .int (zI sd), .int (bI true)])), (pa, .inr (2, [.ref ps, .int (zI (((ua + 1) % 30 : Nat) : Int)), .int (zI ((if um < 30 then um + 1 else um : Nat) : Int))])), (ps, .inl (kI, 510, .inl (aZ U1_1))), (pp, .inr (3, [.ref q1, .ref q2, .int (zI jb)])), (q1, .inl (kI, 16, .inl (aZ F1_2))), (q2, .inl (kI, 16, .inl (aZ G1_3)))] H := wP
  have wD : va_D (gA [(o5, .inr (5, [.ref pp, .ref o, .ref th, .ref pa, .ref im, .int (zI sd), .int (bI st)])), (pa, .inr (2, [.ref ps, .int (zI (ua : Int)), .int (zI (um : Int))])), (ps, .inl (kI, 510, .inl (aZ U))), (pp, .inr (3, [.ref q1, .ref q2, .int (zI jb)])), (q1, .inl (kI, 16, .inl (aZ F))), (q2, .inl (kI, 16, .inl (aZ G)))]) [(o5, .inr (5, [.ref pp, .ref o, .ref th, .ref pa, .ref im, .int (zI sd), .int (bI true)])), (pa, .inr (2, [.ref ps, .int (zI (((ua + 1) % 30 : Nat) : Int)), .int (zI ((if um < 30 then um + 1 else um : Nat) : Int))])), (ps, .inl (kI, 510, .inl (aZ U1_1))), (pp, .inr (3, [.ref q1, .ref q2, .int (zI jb)])), (q1, .inl (kI, 16, .inl (aZ F1_2))), (q2, .inl (kI, 16, .inl (aZ G1_3)))] := wD
  refine lv_aload_n xX xB dX5_grow_19 rfl (lv_at wl 1 rfl) ?_
  refine va_get (D := D) (ci := 5) (v := .ref pp) (C := RX5) (T := TX5) (N := 7) xX xB xT in_X5_grow_X5 xO wK.1 wP 0 rfl rfl 0 (by decide) (xT _ (List.mem_of_getElem? (i := 1) rfl)) (fun _ h9 => h9) rfl dX5_grow_20 ?_
  refine g_pure (va_runV (As := []) (rest := []) ⟨xX, xB, xM, xO, xT⟩ (c_X3_darkDots l D kI kB pp q1 q2 F1_2 jb (grN P (decide (jb = 8))) hc16) (cwV 0 xT gX5_grow_X3_darkDots rfl rfl rfl hd_X3_darkDots ⟨Nat.le_of_ble_eq_true rfl, Nat.le_of_ble_eq_true rfl⟩) (g_preV (ci := 3) (q0 := 3) wP wD wK [3, 4] (by decide) rfl rfl rfl) rfl rfl wl.1 rfl (lv_room (Nat.le_of_ble_eq_true rfl)) dX5_grow_23 ⟨Nat.le_of_ble_eq_true rfl, Nat.le_of_ble_eq_true rfl⟩) wP wS (fun H locs wP wS => ?_)
  refine lv_iload_n xX xB dX5_grow_26 rfl (lv_at wl 0 rfl) ?_
  refine z_isub xX xB dX5_grow_27 ?_
  refine lv_ri (y := zI ((fb_ct (fun x => (dk P x == false) && nrN P (decide (jb = 8)) x false 9) 256 : Nat) : Int)) (congrArg zI (by have := gr_dots (m8 := decide (jb = 8)) hF; omega)) ?_
  exact g_mret (F1_2, G1_3, grN P (decide (jb = 8)), U1_1) xX xB xR xL wP wS dX5_grow_28 ⟨rfl, hc16, gr_dk hF, hc1⟩

set_option maxHeartbeats 4000000 in
set_option maxRecDepth 100000 in
theorem c_X5_shrink (l : Launch) (D : va_G) (kI kB : ClassId) (o5 : Nat) (th : Nat) (pa : Nat) (im : Nat) (sd : Int) (st : Bool) (o : Nat) (ps : Nat) (ua : Nat) (um : Nat) (U : Nat → Int) (pp : Nat) (q1 : Nat) (q2 : Nat) (F : Nat → Int) (jb : Int) (G : Nat → Int) (P : Nat → Nat) (m8 : Bool) (hF : Pic F P) (rj : -2147483648 ≤ jb ∧ jb ≤ 2147483647) (hm : m8 = decide (jb = 8)) (hua : ua < 30) (hum : um ≤ 30) : gM l yX5_shrink wsX5_shrink ({ frames := 4, cells := 0, slots := 0, locals := 81 } : Room) D kI kB [.ref o5] [(o5, .inr (5, [.ref pp, .ref o, .ref th, .ref pa, .ref im, .int (zI sd), .int (bI st)])), (pa, .inr (2, [.ref ps, .int (zI (ua : Int)), .int (zI (um : Int))])), (ps, .inl (kI, 510, .inl (aZ U))), (pp, .inr (3, [.ref q1, .ref q2, .int (zI jb)])), (q1, .inl (kI, 16, .inl (aZ F))), (q2, .inl (kI, 16, .inl (aZ G)))] (fun (w_ : (Nat → Int) × (Nat → Int) × (Nat → Nat) × (Nat → Int)) => [(o5, .inr (5, [.ref pp, .ref o, .ref th, .ref pa, .ref im, .int (zI sd), .int (bI true)])), (pa, .inr (2, [.ref ps, .int (zI (((ua + 1) % 30 : Nat) : Int)), .int (zI ((if um < 30 then um + 1 else um : Nat) : Int))])), (ps, .inl (kI, 510, .inl (aZ (w_.2.2.2)))), (pp, .inr (3, [.ref q1, .ref q2, .int (zI jb)])), (q1, .inl (kI, 16, .inl (aZ (w_.1)))), (q2, .inl (kI, 16, .inl (aZ (w_.2.1))))]) (fun (r : Int32) (w_ : (Nat → Int) × (Nat → Int) × (Nat → Nat) × (Nat → Int)) => r = zI ((fb_ct (fun x => (dk P x == true) && nrN P m8 x true 9) 256 : Nat) : Int) ∧ Pic (w_.1) (w_.2.2.1) ∧ (∀ x, x < 256 → dk (w_.2.2.1) x = (dk P x ^^ (fun x => (dk P x == true) && nrN P m8 x true 9) x)) ∧ (∀ k, k < 510 → (w_.2.2.2) k = pushN U (uZ F 16 jb) ua 17 k)) := by
  refine g_start (cc := cX5_shrink) (maxL := 2) (ret := (some .int)) (by decide) rfl (Nat.le_of_ble_eq_true rfl) ?_
  intro xp xe xs xm xbl xmt xc xX xB xR xM xT xO xL xN wP wD wK ls wl
  have wS : va_S (gA [(o5, .inr (5, [.ref pp, .ref o, .ref th, .ref pa, .ref im, .int (zI sd), .int (bI st)])), (pa, .inr (2, [.ref ps, .int (zI (ua : Int)), .int (zI (um : Int))])), (ps, .inl (kI, 510, .inl (aZ U))), (pp, .inr (3, [.ref q1, .ref q2, .int (zI jb)])), (q1, .inl (kI, 16, .inl (aZ F))), (q2, .inl (kI, 16, .inl (aZ G)))]) xs.heap xs.heap [] := va_S.rf
  have wl : lv_has ls 2 [(0, .ref o5)] := wl
  subst hm
  refine lv_aload_n xX xB dX5_shrink_0 rfl (lv_at wl 0 rfl) ?_
  refine g_modv (va_runV (As := []) (rest := []) ⟨xX, xB, xM, xO, xT⟩ (c_X5_remember l D kI kB o5 th pa im sd st o ps ua um U pp q1 q2 F jb hua hum) (cwV 0 xT gX5_shrink_X5_remember rfl rfl rfl hd_X5_remember ⟨Nat.le_of_ble_eq_true rfl, Nat.le_of_ble_eq_true rfl⟩) (g_preV (ci := 5) (q0 := 0) wP wD wK [0, 1, 2, 3, 4] (by decide) rfl rfl rfl) rfl rfl wl.1 rfl (lv_room (Nat.le_of_ble_eq_true rfl)) dX5_shrink_1 ⟨Nat.le_of_ble_eq_true rfl, Nat.le_of_ble_eq_true rfl⟩) wP wD wS [0, 1, 2, 3, 4] rfl (fun _ => rfl) (fun U1_1 H locs hc1 wP wD wS => ?_)
  try dsimp only at hc1
  have wP : va_P D gC [(o5, .inr (5, [.ref pp, .ref o, .ref th, .ref pa, .ref im, .int (zI sd), .int (bI true)])), (pa, .inr (2, [.ref ps, .int (zI (((ua + 1) % 30 : Nat) : Int)), .int (zI ((if um < 30 then um + 1 else um : Nat) : Int))])), (ps, .inl (kI, 510, .inl (aZ U1_1))), (pp, .inr (3, [.ref q1, .ref q2, .int (zI jb)])), (q1, .inl (kI, 16, .inl (aZ F))), (q2, .inl (kI, 16, .inl (aZ G)))] H := wP
  have wD : va_D (gA [(o5, .inr (5, [.ref pp, .ref o, .ref th, .ref pa, .ref im, .int (zI sd), .int (bI st)])), (pa, .inr (2, [.ref ps, .int (zI (ua : Int)), .int (zI (um : Int))])), (ps, .inl (kI, 510, .inl (aZ U))), (pp, .inr (3, [.ref q1, .ref q2, .int (zI jb)])), (q1, .inl (kI, 16, .inl (aZ F))), (q2, .inl (kI, 16, .inl (aZ G)))]) [(o5, .inr (5, [.ref pp, .ref o, .ref th, .ref pa, .ref im, .int (zI sd), .int (bI true)])), (pa, .inr (2, [.ref ps, .int (zI (((ua + 1) % 30 : Nat) : Int)), .int (zI ((if um < 30 then um + 1 else um : Nat) : Int))])), (ps, .inl (kI, 510, .inl (aZ U1_1))), (pp, .inr (3, [.ref q1, .ref q2, .int (zI jb)])), (q1, .inl (kI, 16, .inl (aZ F))), (q2, .inl (kI, 16, .inl (aZ G)))] := wD
  refine lv_aload_n xX xB dX5_shrink_4 rfl (lv_at wl 0 rfl) ?_
  refine va_get (D := D) (ci := 5) (v := .ref pp) (C := RX5) (T := TX5) (N := 7) xX xB xT in_X5_shrink_X5 xO wK.1 wP 0 rfl rfl 0 (by decide) (xT _ (List.mem_of_getElem? (i := 1) rfl)) (fun _ h9 => h9) rfl dX5_shrink_5 ?_
  refine g_pure (va_runV (As := []) (rest := []) ⟨xX, xB, xM, xO, xT⟩ (c_X3_darkDots l D kI kB pp q1 q2 F jb P hF) (cwV 0 xT gX5_shrink_X3_darkDots rfl rfl rfl hd_X3_darkDots ⟨Nat.le_of_ble_eq_true rfl, Nat.le_of_ble_eq_true rfl⟩) (g_preV (ci := 3) (q0 := 3) wP wD wK [3, 4] (by decide) rfl rfl rfl) rfl rfl wl.1 rfl (lv_room (Nat.le_of_ble_eq_true rfl)) dX5_shrink_8 ⟨Nat.le_of_ble_eq_true rfl, Nat.le_of_ble_eq_true rfl⟩) wP wS (fun H locs wP wS => ?_)
  refine lv_istore_n (lv' := [(1, .int (zI (dots P : Int))), (0, .ref o5)]) xX xB dX5_shrink_11 rfl wl (by decide) rfl (fun ls wl => ?_)
  refine lv_aload_n xX xB dX5_shrink_12 rfl (lv_at wl 1 rfl) ?_
  refine va_get (D := D) (ci := 5) (v := .ref pp) (C := RX5) (T := TX5) (N := 7) xX xB xT in_X5_shrink_X5 xO wK.1 wP 0 rfl rfl 0 (by decide) (xT _ (List.mem_of_getElem? (i := 1) rfl)) (fun _ h9 => h9) rfl dX5_shrink_13 ?_
  refine g_modv (va_runV (As := []) (rest := []) ⟨xX, xB, xM, xO, xT⟩ (c_X3_becomeShrunk l D kI kB pp q1 q2 F G jb P hF rj) (cwV 0 xT gX5_shrink_X3_becomeShrunk rfl rfl rfl hd_X3_becomeShrunk ⟨Nat.le_of_ble_eq_true rfl, Nat.le_of_ble_eq_true rfl⟩) (g_preV (ci := 3) (q0 := 3) wP wD wK [3, 4, 5] (by decide) rfl rfl rfl) rfl rfl wl.1 rfl (lv_room (Nat.le_of_ble_eq_true rfl)) dX5_shrink_16 ⟨Nat.le_of_ble_eq_true rfl, Nat.le_of_ble_eq_true rfl⟩) wP wD wS [3, 4, 5] rfl (fun _ => rfl) (fun u_ H locs hc16 wP wD wS => ?_)
  obtain ⟨F1_2, G1_3⟩ := u_
  try dsimp only at hc16
  have wP : va_P D gC [(o5, .inr (5, [.ref pp, .ref o, .ref th, .ref pa, .ref im, .int (zI sd), .int (bI true)])), (pa, .inr (2, [.ref ps, .int (zI (((ua + 1) % 30 : Nat) : Int)), .int (zI ((if um < 30 then um + 1 else um : Nat) : Int))])), (ps, .inl (kI, 510, .inl (aZ U1_1))), (pp, .inr (3, [.ref q1, .ref q2, .int (zI jb)])), (q1, .inl (kI, 16, .inl (aZ F1_2))), (q2, .inl (kI, 16, .inl (aZ G1_3)))] H := wP
  have wD : va_D (gA [(o5, .inr (5, [.ref pp, .ref o, .ref th, .ref pa, .ref im, .int (zI sd), .int (bI st)])), (pa, .inr (2, [.ref ps, .int (zI (ua : Int)), .int (zI (um : Int))])), (ps, .inl (kI, 510, .inl (aZ U))), (pp, .inr (3, [.ref q1, .ref q2, .int (zI jb)])), (q1, .inl (kI, 16, .inl (aZ F))), (q2, .inl (kI, 16, .inl (aZ G)))]) [(o5, .inr (5, [.ref pp, .ref o, .ref th, .ref pa, .ref im, .int (zI sd), .int (bI true)])), (pa, .inr (2, [.ref ps, .int (zI (((ua + 1) % 30 : Nat) : Int)), .int (zI ((if um < 30 then um + 1 else um : Nat) : Int))])), (ps, .inl (kI, 510, .inl (aZ U1_1))), (pp, .inr (3, [.ref q1, .ref q2, .int (zI jb)])), (q1, .inl (kI, 16, .inl (aZ F1_2))), (q2, .inl (kI, 16, .inl (aZ G1_3)))] := wD
  refine lv_iload_n xX xB dX5_shrink_19 rfl (lv_at wl 0 rfl) ?_
  refine lv_aload_n xX xB dX5_shrink_20 rfl (lv_at wl 1 rfl) ?_
  refine va_get (D := D) (ci := 5) (v := .ref pp) (C := RX5) (T := TX5) (N := 7) xX xB xT in_X5_shrink_X5 xO wK.1 wP 0 rfl rfl 0 (by decide) (xT _ (List.mem_of_getElem? (i := 1) rfl)) (fun _ h9 => h9) rfl dX5_shrink_21 ?_
  refine g_pure (va_runV (As := []) (rest := [.int (zI (dots P : Int))]) ⟨xX, xB, xM, xO, xT⟩ (c_X3_darkDots l D kI kB pp q1 q2 F1_2 jb (shN P (decide (jb = 8))) hc16) (cwV 0 xT gX5_shrink_X3_darkDots rfl rfl rfl hd_X3_darkDots ⟨Nat.le_of_ble_eq_true rfl, Nat.le_of_ble_eq_true rfl⟩) (g_preV (ci := 3) (q0 := 3) wP wD wK [3, 4] (by decide) rfl rfl rfl) rfl rfl wl.1 rfl (lv_room (Nat.le_of_ble_eq_true rfl)) dX5_shrink_24 ⟨Nat.le_of_ble_eq_true rfl, Nat.le_of_ble_eq_true rfl⟩) wP wS (fun H locs wP wS => ?_)
  refine z_isub xX xB dX5_shrink_27 ?_
  refine lv_ri (y := zI ((fb_ct (fun x => (dk P x == true) && nrN P (decide (jb = 8)) x true 9) 256 : Nat) : Int)) (congrArg zI (by have := sh_dots (m8 := decide (jb = 8)) hF; omega)) ?_
  exact g_mret (F1_2, G1_3, shN P (decide (jb = 8)), U1_1) xX xB xR xL wP wS dX5_shrink_28 ⟨rfl, hc16, sh_dk hF, hc1⟩

set_option maxHeartbeats 4000000 in
set_option maxRecDepth 100000 in
theorem c_X5_move_o (l : Launch) (D : va_G) (kI kB : ClassId) (o5 : Nat) (th : Nat) (pa : Nat) (im : Nat) (sd : Int) (st : Bool) (o : Nat) (pp : Nat) (dn : Int) (rt : Int) (rd : -2147483648 ≤ dn ∧ dn ≤ 2147483647) (rr : -2147483648 ≤ rt ∧ rt ≤ 2147483647) (hb : ¬ ((-15 ≤ dn ∧ dn ≤ 15) ∧ (-15 ≤ rt ∧ rt ≤ 15))) : gI l yX5_move wsX5_move ({ frames := 0, cells := 0, slots := 0, locals := 0 } : Room) D kI kB [.ref o5, .int (zI dn), .int (zI rt)] [(o5, .inr (5, [.ref pp, .ref o, .ref th, .ref pa, .ref im, .int (zI sd), .int (bI st)]))] (zI (-1000000002)) := by
  refine g_start (cc := cX5_move) (maxL := 3) (ret := (some .int)) (by decide) rfl (Nat.le_of_ble_eq_true rfl) ?_
  intro xp xe xs xm xbl xmt xc xX xB xR xM xT xO xL xN wP wD wK ls wl
  have wS : va_S (fun _ => False) xs.heap xs.heap [] := va_S.rf
  have wl : lv_has ls 3 [(0, .ref o5), (1, .int (zI dn)), (2, .int (zI rt))] := wl
  refine lv_iload_n xX xB dX5_move_0 rfl (lv_at wl 1 rfl) ?_
  refine z_bipush xX xB dX5_move_1 (by decide) ?_
  refine z_icmp_lt (tgt := 24) xX xB dX5_move_3 (by decide) (by omega) (by omega) (fun h3 => ?_) (fun h3 => ?_)
  · skip
    refine z_ldc xX xB (-1000000002) (by decide) xO (xT _ (List.mem_of_getElem? (i := 1) rfl)) dX5_move_24 ?_
    exact g_iret xX xB xR xL wS dX5_move_26 rfl
  · skip
    refine lv_iload_n xX xB dX5_move_6 rfl (lv_at wl 1 rfl) ?_
    refine z_bipush xX xB dX5_move_7 (by decide) ?_
    refine z_icmp_gt (tgt := 24) xX xB dX5_move_9 (by decide) (by omega) (by omega) (fun h9 => ?_) (fun h9 => ?_)
    · skip
      refine z_ldc xX xB (-1000000002) (by decide) xO (xT _ (List.mem_of_getElem? (i := 1) rfl)) dX5_move_24 ?_
      exact g_iret xX xB xR xL wS dX5_move_26 rfl
    · skip
      refine lv_iload_n xX xB dX5_move_12 rfl (lv_at wl 2 rfl) ?_
      refine z_bipush xX xB dX5_move_13 (by decide) ?_
      refine z_icmp_lt (tgt := 24) xX xB dX5_move_15 (by decide) (by omega) (by omega) (fun h15 => ?_) (fun h15 => ?_)
      · skip
        refine z_ldc xX xB (-1000000002) (by decide) xO (xT _ (List.mem_of_getElem? (i := 1) rfl)) dX5_move_24 ?_
        exact g_iret xX xB xR xL wS dX5_move_26 rfl
      · skip
        refine lv_iload_n xX xB dX5_move_18 rfl (lv_at wl 2 rfl) ?_
        refine z_bipush xX xB dX5_move_19 (by decide) ?_
        refine z_icmp_le (tgt := 27) xX xB dX5_move_21 (by decide) (by omega) (by omega) (fun h21 => ?_) (fun h21 => ?_)
        · exact absurd h21 (by omega)
        · skip
          refine z_ldc xX xB (-1000000002) (by decide) xO (xT _ (List.mem_of_getElem? (i := 1) rfl)) dX5_move_24 ?_
          exact g_iret xX xB xR xL wS dX5_move_26 rfl

set_option maxHeartbeats 4000000 in
set_option maxRecDepth 100000 in
theorem c_X5_move (l : Launch) (D : va_G) (kI kB : ClassId) (o5 : Nat) (th : Nat) (pa : Nat) (im : Nat) (sd : Int) (st : Bool) (o : Nat) (ps : Nat) (ua : Nat) (um : Nat) (U : Nat → Int) (pp : Nat) (q1 : Nat) (q2 : Nat) (F : Nat → Int) (jb : Int) (G : Nat → Int) (P : Nat → Nat) (dn : Int) (rt : Int) (hF : Pic F P) (hua : ua < 30) (hum : um ≤ 30) (hd : -15 ≤ dn ∧ dn ≤ 15) (hr2 : -15 ≤ rt ∧ rt ≤ 15) : gM l yX5_move wsX5_move ({ frames := 4, cells := 0, slots := 0, locals := 81 } : Room) D kI kB [.ref o5, .int (zI dn), .int (zI rt)] [(o5, .inr (5, [.ref pp, .ref o, .ref th, .ref pa, .ref im, .int (zI sd), .int (bI st)])), (pa, .inr (2, [.ref ps, .int (zI (ua : Int)), .int (zI (um : Int))])), (ps, .inl (kI, 510, .inl (aZ U))), (pp, .inr (3, [.ref q1, .ref q2, .int (zI jb)])), (q1, .inl (kI, 16, .inl (aZ F))), (q2, .inl (kI, 16, .inl (aZ G)))] (fun (w_ : (Nat → Int) × (Nat → Int) × (Nat → Int)) => [(o5, .inr (5, [.ref pp, .ref o, .ref th, .ref pa, .ref im, .int (zI sd), .int (bI true)])), (pa, .inr (2, [.ref ps, .int (zI (((ua + 1) % 30 : Nat) : Int)), .int (zI ((if um < 30 then um + 1 else um : Nat) : Int))])), (ps, .inl (kI, 510, .inl (aZ (w_.2.2)))), (pp, .inr (3, [.ref q1, .ref q2, .int (zI jb)])), (q1, .inl (kI, 16, .inl (aZ (w_.1)))), (q2, .inl (kI, 16, .inl (aZ (w_.2.1))))]) (fun (r : Int32) (w_ : (Nat → Int) × (Nat → Int) × (Nat → Int)) => r = zI ((dots (mvN P dn rt) : Nat) : Int) ∧ Pic (w_.1) (mvN P dn rt) ∧ (∀ k, k < 510 → (w_.2.2) k = pushN U (uZ F 16 jb) ua 17 k)) := by
  refine g_start (cc := cX5_move) (maxL := 3) (ret := (some .int)) (by decide) rfl (Nat.le_of_ble_eq_true rfl) ?_
  intro xp xe xs xm xbl xmt xc xX xB xR xM xT xO xL xN wP wD wK ls wl
  have wS : va_S (gA [(o5, .inr (5, [.ref pp, .ref o, .ref th, .ref pa, .ref im, .int (zI sd), .int (bI st)])), (pa, .inr (2, [.ref ps, .int (zI (ua : Int)), .int (zI (um : Int))])), (ps, .inl (kI, 510, .inl (aZ U))), (pp, .inr (3, [.ref q1, .ref q2, .int (zI jb)])), (q1, .inl (kI, 16, .inl (aZ F))), (q2, .inl (kI, 16, .inl (aZ G)))]) xs.heap xs.heap [] := va_S.rf
  have wl : lv_has ls 3 [(0, .ref o5), (1, .int (zI dn)), (2, .int (zI rt))] := wl
  refine lv_iload_n xX xB dX5_move_0 rfl (lv_at wl 1 rfl) ?_
  refine z_bipush xX xB dX5_move_1 (by decide) ?_
  refine z_icmp_lt (tgt := 24) xX xB dX5_move_3 (by decide) (by omega) (by omega) (fun h3 => ?_) (fun h3 => ?_)
  · exact absurd h3 (by omega)
  · skip
    refine lv_iload_n xX xB dX5_move_6 rfl (lv_at wl 1 rfl) ?_
    refine z_bipush xX xB dX5_move_7 (by decide) ?_
    refine z_icmp_gt (tgt := 24) xX xB dX5_move_9 (by decide) (by omega) (by omega) (fun h9 => ?_) (fun h9 => ?_)
    · exact absurd h9 (by omega)
    · skip
      refine lv_iload_n xX xB dX5_move_12 rfl (lv_at wl 2 rfl) ?_
      refine z_bipush xX xB dX5_move_13 (by decide) ?_
      refine z_icmp_lt (tgt := 24) xX xB dX5_move_15 (by decide) (by omega) (by omega) (fun h15 => ?_) (fun h15 => ?_)
      · exact absurd h15 (by omega)
      · skip
        refine lv_iload_n xX xB dX5_move_18 rfl (lv_at wl 2 rfl) ?_
        refine z_bipush xX xB dX5_move_19 (by decide) ?_
        refine z_icmp_le (tgt := 27) xX xB dX5_move_21 (by decide) (by omega) (by omega) (fun h21 => ?_) (fun h21 => ?_)
        · skip
          refine lv_aload_n xX xB dX5_move_27 rfl (lv_at wl 0 rfl) ?_
          refine g_modv (va_runV (As := []) (rest := []) ⟨xX, xB, xM, xO, xT⟩ (c_X5_remember l D kI kB o5 th pa im sd st o ps ua um U pp q1 q2 F jb hua hum) (cwV 0 xT gX5_move_X5_remember rfl rfl rfl hd_X5_remember ⟨Nat.le_of_ble_eq_true rfl, Nat.le_of_ble_eq_true rfl⟩) (g_preV (ci := 5) (q0 := 0) wP wD wK [0, 1, 2, 3, 4] (by decide) rfl rfl rfl) rfl rfl wl.1 rfl (lv_room (Nat.le_of_ble_eq_true rfl)) dX5_move_28 ⟨Nat.le_of_ble_eq_true rfl, Nat.le_of_ble_eq_true rfl⟩) wP wD wS [0, 1, 2, 3, 4] rfl (fun _ => rfl) (fun U1_1 H locs hc28 wP wD wS => ?_)
          try dsimp only at hc28
          have wP : va_P D gC [(o5, .inr (5, [.ref pp, .ref o, .ref th, .ref pa, .ref im, .int (zI sd), .int (bI true)])), (pa, .inr (2, [.ref ps, .int (zI (((ua + 1) % 30 : Nat) : Int)), .int (zI ((if um < 30 then um + 1 else um : Nat) : Int))])), (ps, .inl (kI, 510, .inl (aZ U1_1))), (pp, .inr (3, [.ref q1, .ref q2, .int (zI jb)])), (q1, .inl (kI, 16, .inl (aZ F))), (q2, .inl (kI, 16, .inl (aZ G)))] H := wP
          have wD : va_D (gA [(o5, .inr (5, [.ref pp, .ref o, .ref th, .ref pa, .ref im, .int (zI sd), .int (bI st)])), (pa, .inr (2, [.ref ps, .int (zI (ua : Int)), .int (zI (um : Int))])), (ps, .inl (kI, 510, .inl (aZ U))), (pp, .inr (3, [.ref q1, .ref q2, .int (zI jb)])), (q1, .inl (kI, 16, .inl (aZ F))), (q2, .inl (kI, 16, .inl (aZ G)))]) [(o5, .inr (5, [.ref pp, .ref o, .ref th, .ref pa, .ref im, .int (zI sd), .int (bI true)])), (pa, .inr (2, [.ref ps, .int (zI (((ua + 1) % 30 : Nat) : Int)), .int (zI ((if um < 30 then um + 1 else um : Nat) : Int))])), (ps, .inl (kI, 510, .inl (aZ U1_1))), (pp, .inr (3, [.ref q1, .ref q2, .int (zI jb)])), (q1, .inl (kI, 16, .inl (aZ F))), (q2, .inl (kI, 16, .inl (aZ G)))] := wD
          refine lv_aload_n xX xB dX5_move_31 rfl (lv_at wl 0 rfl) ?_
          refine va_get (D := D) (ci := 5) (v := .ref pp) (C := RX5) (T := TX5) (N := 7) xX xB xT in_X5_move_X5 xO wK.1 wP 0 rfl rfl 0 (by decide) (xT _ (List.mem_of_getElem? (i := 2) rfl)) (fun _ h9 => h9) rfl dX5_move_32 ?_
          refine lv_iload_n xX xB dX5_move_35 rfl (lv_at wl 1 rfl) ?_
          refine lv_iload_n xX xB dX5_move_36 rfl (lv_at wl 2 rfl) ?_
          refine g_modv (va_runV (As := [.int (zI dn), .int (zI rt)]) (rest := []) ⟨xX, xB, xM, xO, xT⟩ (c_X3_becomeMoved l D kI kB pp q1 q2 F G jb P dn rt hF hd hr2) (cwV 2 xT gX5_move_X3_becomeMoved rfl rfl rfl hd_X3_becomeMoved ⟨Nat.le_of_ble_eq_true rfl, Nat.le_of_ble_eq_true rfl⟩) (g_preV (ci := 3) (q0 := 3) wP wD wK [3, 4, 5] (by decide) rfl rfl rfl) rfl rfl wl.1 rfl (lv_room (Nat.le_of_ble_eq_true rfl)) dX5_move_37 ⟨Nat.le_of_ble_eq_true rfl, Nat.le_of_ble_eq_true rfl⟩) wP wD wS [3, 4, 5] rfl (fun _ => rfl) (fun u_ H locs hc37 wP wD wS => ?_)
          obtain ⟨F1_2, G1_3⟩ := u_
          try dsimp only at hc37
          have wP : va_P D gC [(o5, .inr (5, [.ref pp, .ref o, .ref th, .ref pa, .ref im, .int (zI sd), .int (bI true)])), (pa, .inr (2, [.ref ps, .int (zI (((ua + 1) % 30 : Nat) : Int)), .int (zI ((if um < 30 then um + 1 else um : Nat) : Int))])), (ps, .inl (kI, 510, .inl (aZ U1_1))), (pp, .inr (3, [.ref q1, .ref q2, .int (zI jb)])), (q1, .inl (kI, 16, .inl (aZ F1_2))), (q2, .inl (kI, 16, .inl (aZ G1_3)))] H := wP
          have wD : va_D (gA [(o5, .inr (5, [.ref pp, .ref o, .ref th, .ref pa, .ref im, .int (zI sd), .int (bI st)])), (pa, .inr (2, [.ref ps, .int (zI (ua : Int)), .int (zI (um : Int))])), (ps, .inl (kI, 510, .inl (aZ U))), (pp, .inr (3, [.ref q1, .ref q2, .int (zI jb)])), (q1, .inl (kI, 16, .inl (aZ F))), (q2, .inl (kI, 16, .inl (aZ G)))]) [(o5, .inr (5, [.ref pp, .ref o, .ref th, .ref pa, .ref im, .int (zI sd), .int (bI true)])), (pa, .inr (2, [.ref ps, .int (zI (((ua + 1) % 30 : Nat) : Int)), .int (zI ((if um < 30 then um + 1 else um : Nat) : Int))])), (ps, .inl (kI, 510, .inl (aZ U1_1))), (pp, .inr (3, [.ref q1, .ref q2, .int (zI jb)])), (q1, .inl (kI, 16, .inl (aZ F1_2))), (q2, .inl (kI, 16, .inl (aZ G1_3)))] := wD
          refine lv_aload_n xX xB dX5_move_40 rfl (lv_at wl 0 rfl) ?_
          refine va_get (D := D) (ci := 5) (v := .ref pp) (C := RX5) (T := TX5) (N := 7) xX xB xT in_X5_move_X5 xO wK.1 wP 0 rfl rfl 0 (by decide) (xT _ (List.mem_of_getElem? (i := 2) rfl)) (fun _ h9 => h9) rfl dX5_move_41 ?_
          refine g_pure (va_runV (As := []) (rest := []) ⟨xX, xB, xM, xO, xT⟩ (c_X3_darkDots l D kI kB pp q1 q2 F1_2 jb (mvN P dn rt) hc37) (cwV 0 xT gX5_move_X3_darkDots rfl rfl rfl hd_X3_darkDots ⟨Nat.le_of_ble_eq_true rfl, Nat.le_of_ble_eq_true rfl⟩) (g_preV (ci := 3) (q0 := 3) wP wD wK [3, 4] (by decide) rfl rfl rfl) rfl rfl wl.1 rfl (lv_room (Nat.le_of_ble_eq_true rfl)) dX5_move_44 ⟨Nat.le_of_ble_eq_true rfl, Nat.le_of_ble_eq_true rfl⟩) wP wS (fun H locs wP wS => ?_)
          exact g_mret (F1_2, G1_3, U1_1) xX xB xR xL wP wS dX5_move_47 ⟨rfl, hc37, hc28⟩
        · exact absurd h21 (by omega)

set_option maxHeartbeats 4000000 in
set_option maxRecDepth 100000 in
theorem c_X5_over (l : Launch) (D : va_G) (kI kB : ClassId) (o5 : Nat) (th : Nat) (pa : Nat) (im : Nat) (sd : Int) (st : Bool) (o : Nat) (ps : Nat) (ua : Nat) (um : Nat) (U : Nat → Int) (pp : Nat) (q1 : Nat) (q2 : Nat) (F : Nat → Int) (jb : Int) (P : Nat → Nat) (hF : Pic F P) (hua : ua < 30) (hum : um ≤ 30) : gM l yX5_over wsX5_over ({ frames := 4, cells := 0, slots := 0, locals := 81 } : Room) D kI kB [.ref o5] [(o5, .inr (5, [.ref pp, .ref o, .ref th, .ref pa, .ref im, .int (zI sd), .int (bI st)])), (pa, .inr (2, [.ref ps, .int (zI (ua : Int)), .int (zI (um : Int))])), (ps, .inl (kI, 510, .inl (aZ U))), (pp, .inr (3, [.ref q1, .ref q2, .int (zI jb)])), (q1, .inl (kI, 16, .inl (aZ F)))] (fun (w_ : (Nat → Int) × (Nat → Int)) => [(o5, .inr (5, [.ref pp, .ref o, .ref th, .ref pa, .ref im, .int (zI sd), .int (bI true)])), (pa, .inr (2, [.ref ps, .int (zI (((ua + 1) % 30 : Nat) : Int)), .int (zI ((if um < 30 then um + 1 else um : Nat) : Int))])), (ps, .inl (kI, 510, .inl (aZ (w_.2)))), (pp, .inr (3, [.ref q1, .ref q2, .int (zI jb)])), (q1, .inl (kI, 16, .inl (aZ (w_.1))))]) (fun (r : Int32) (w_ : (Nat → Int) × (Nat → Int)) => r = zI ((dots (ovN P) : Nat) : Int) ∧ Pic (w_.1) (ovN P) ∧ (∀ k, k < 510 → (w_.2) k = pushN U (uZ F 16 jb) ua 17 k)) := by
  refine g_start (cc := cX5_over) (maxL := 1) (ret := (some .int)) (by decide) rfl (Nat.le_of_ble_eq_true rfl) ?_
  intro xp xe xs xm xbl xmt xc xX xB xR xM xT xO xL xN wP wD wK ls wl
  have wS : va_S (gA [(o5, .inr (5, [.ref pp, .ref o, .ref th, .ref pa, .ref im, .int (zI sd), .int (bI st)])), (pa, .inr (2, [.ref ps, .int (zI (ua : Int)), .int (zI (um : Int))])), (ps, .inl (kI, 510, .inl (aZ U))), (pp, .inr (3, [.ref q1, .ref q2, .int (zI jb)])), (q1, .inl (kI, 16, .inl (aZ F)))]) xs.heap xs.heap [] := va_S.rf
  have wl : lv_has ls 1 [(0, .ref o5)] := wl
  refine lv_aload_n xX xB dX5_over_0 rfl (lv_at wl 0 rfl) ?_
  refine g_modv (va_runV (As := []) (rest := []) ⟨xX, xB, xM, xO, xT⟩ (c_X5_remember l D kI kB o5 th pa im sd st o ps ua um U pp q1 q2 F jb hua hum) (cwV 0 xT gX5_over_X5_remember rfl rfl rfl hd_X5_remember ⟨Nat.le_of_ble_eq_true rfl, Nat.le_of_ble_eq_true rfl⟩) (g_preV (ci := 5) (q0 := 0) wP wD wK [0, 1, 2, 3, 4] (by decide) rfl rfl rfl) rfl rfl wl.1 rfl (lv_room (Nat.le_of_ble_eq_true rfl)) dX5_over_1 ⟨Nat.le_of_ble_eq_true rfl, Nat.le_of_ble_eq_true rfl⟩) wP wD wS [0, 1, 2, 3, 4] rfl (fun _ => rfl) (fun U1_1 H locs hc1 wP wD wS => ?_)
  try dsimp only at hc1
  have wP : va_P D gC [(o5, .inr (5, [.ref pp, .ref o, .ref th, .ref pa, .ref im, .int (zI sd), .int (bI true)])), (pa, .inr (2, [.ref ps, .int (zI (((ua + 1) % 30 : Nat) : Int)), .int (zI ((if um < 30 then um + 1 else um : Nat) : Int))])), (ps, .inl (kI, 510, .inl (aZ U1_1))), (pp, .inr (3, [.ref q1, .ref q2, .int (zI jb)])), (q1, .inl (kI, 16, .inl (aZ F)))] H := wP
  have wD : va_D (gA [(o5, .inr (5, [.ref pp, .ref o, .ref th, .ref pa, .ref im, .int (zI sd), .int (bI st)])), (pa, .inr (2, [.ref ps, .int (zI (ua : Int)), .int (zI (um : Int))])), (ps, .inl (kI, 510, .inl (aZ U))), (pp, .inr (3, [.ref q1, .ref q2, .int (zI jb)])), (q1, .inl (kI, 16, .inl (aZ F)))]) [(o5, .inr (5, [.ref pp, .ref o, .ref th, .ref pa, .ref im, .int (zI sd), .int (bI true)])), (pa, .inr (2, [.ref ps, .int (zI (((ua + 1) % 30 : Nat) : Int)), .int (zI ((if um < 30 then um + 1 else um : Nat) : Int))])), (ps, .inl (kI, 510, .inl (aZ U1_1))), (pp, .inr (3, [.ref q1, .ref q2, .int (zI jb)])), (q1, .inl (kI, 16, .inl (aZ F)))] := wD
  refine lv_aload_n xX xB dX5_over_4 rfl (lv_at wl 0 rfl) ?_
  refine va_get (D := D) (ci := 5) (v := .ref pp) (C := RX5) (T := TX5) (N := 7) xX xB xT in_X5_over_X5 xO wK.1 wP 0 rfl rfl 0 (by decide) (xT _ (List.mem_of_getElem? (i := 1) rfl)) (fun _ h9 => h9) rfl dX5_over_5 ?_
  refine g_modv (va_runV (As := []) (rest := []) ⟨xX, xB, xM, xO, xT⟩ (c_X3_becomeOver l D kI kB pp q1 q2 F jb P hF) (cwV 0 xT gX5_over_X3_becomeOver rfl rfl rfl hd_X3_becomeOver ⟨Nat.le_of_ble_eq_true rfl, Nat.le_of_ble_eq_true rfl⟩) (g_preV (ci := 3) (q0 := 3) wP wD wK [3, 4] (by decide) rfl rfl rfl) rfl rfl wl.1 rfl (lv_room (Nat.le_of_ble_eq_true rfl)) dX5_over_8 ⟨Nat.le_of_ble_eq_true rfl, Nat.le_of_ble_eq_true rfl⟩) wP wD wS [3, 4] rfl (fun _ => rfl) (fun F1_2 H locs hc8 wP wD wS => ?_)
  try dsimp only at hc8
  have wP : va_P D gC [(o5, .inr (5, [.ref pp, .ref o, .ref th, .ref pa, .ref im, .int (zI sd), .int (bI true)])), (pa, .inr (2, [.ref ps, .int (zI (((ua + 1) % 30 : Nat) : Int)), .int (zI ((if um < 30 then um + 1 else um : Nat) : Int))])), (ps, .inl (kI, 510, .inl (aZ U1_1))), (pp, .inr (3, [.ref q1, .ref q2, .int (zI jb)])), (q1, .inl (kI, 16, .inl (aZ F1_2)))] H := wP
  have wD : va_D (gA [(o5, .inr (5, [.ref pp, .ref o, .ref th, .ref pa, .ref im, .int (zI sd), .int (bI st)])), (pa, .inr (2, [.ref ps, .int (zI (ua : Int)), .int (zI (um : Int))])), (ps, .inl (kI, 510, .inl (aZ U))), (pp, .inr (3, [.ref q1, .ref q2, .int (zI jb)])), (q1, .inl (kI, 16, .inl (aZ F)))]) [(o5, .inr (5, [.ref pp, .ref o, .ref th, .ref pa, .ref im, .int (zI sd), .int (bI true)])), (pa, .inr (2, [.ref ps, .int (zI (((ua + 1) % 30 : Nat) : Int)), .int (zI ((if um < 30 then um + 1 else um : Nat) : Int))])), (ps, .inl (kI, 510, .inl (aZ U1_1))), (pp, .inr (3, [.ref q1, .ref q2, .int (zI jb)])), (q1, .inl (kI, 16, .inl (aZ F1_2)))] := wD
  refine lv_aload_n xX xB dX5_over_11 rfl (lv_at wl 0 rfl) ?_
  refine va_get (D := D) (ci := 5) (v := .ref pp) (C := RX5) (T := TX5) (N := 7) xX xB xT in_X5_over_X5 xO wK.1 wP 0 rfl rfl 0 (by decide) (xT _ (List.mem_of_getElem? (i := 1) rfl)) (fun _ h9 => h9) rfl dX5_over_12 ?_
  refine g_pure (va_runV (As := []) (rest := []) ⟨xX, xB, xM, xO, xT⟩ (c_X3_darkDots l D kI kB pp q1 q2 F1_2 jb (ovN P) hc8) (cwV 0 xT gX5_over_X3_darkDots rfl rfl rfl hd_X3_darkDots ⟨Nat.le_of_ble_eq_true rfl, Nat.le_of_ble_eq_true rfl⟩) (g_preV (ci := 3) (q0 := 3) wP wD wK [3, 4] (by decide) rfl rfl rfl) rfl rfl wl.1 rfl (lv_room (Nat.le_of_ble_eq_true rfl)) dX5_over_15 ⟨Nat.le_of_ble_eq_true rfl, Nat.le_of_ble_eq_true rfl⟩) wP wS (fun H locs wP wS => ?_)
  exact g_mret (F1_2, U1_1) xX xB xR xL wP wS dX5_over_18 ⟨rfl, hc8, hc1⟩

set_option maxHeartbeats 4000000 in
set_option maxRecDepth 100000 in
theorem c_X5_undo_o (l : Launch) (D : va_G) (kI kB : ClassId) (o5 : Nat) (th : Nat) (pa : Nat) (im : Nat) (sd : Int) (st : Bool) (o : Nat) (pp : Nat) (n : Int) (rr : -2147483648 ≤ n ∧ n ≤ 2147483647) (hb : ¬ (1 ≤ n ∧ n ≤ 30)) : gI l yX5_undo wsX5_undo ({ frames := 0, cells := 0, slots := 0, locals := 0 } : Room) D kI kB [.ref o5, .int (zI n)] [(o5, .inr (5, [.ref pp, .ref o, .ref th, .ref pa, .ref im, .int (zI sd), .int (bI st)]))] (zI (-1000000002)) := by
  refine g_start (cc := cX5_undo) (maxL := 2) (ret := (some .int)) (by decide) rfl (Nat.le_of_ble_eq_true rfl) ?_
  intro xp xe xs xm xbl xmt xc xX xB xR xM xT xO xL xN wP wD wK ls wl
  have wS : va_S (fun _ => False) xs.heap xs.heap [] := va_S.rf
  have wl : lv_has ls 2 [(0, .ref o5), (1, .int (zI n))] := wl
  refine lv_iload_n xX xB dX5_undo_0 rfl (lv_at wl 1 rfl) ?_
  refine z_iconst xX xB dX5_undo_1 ?_
  refine z_icmp_lt (tgt := 11) xX xB dX5_undo_2 (by decide) (by omega) (by omega) (fun h2 => ?_) (fun h2 => ?_)
  · skip
    refine z_ldc xX xB (-1000000002) (by decide) xO (xT _ (List.mem_of_getElem? (i := 1) rfl)) dX5_undo_11 ?_
    exact g_iret xX xB xR xL wS dX5_undo_13 rfl
  · skip
    refine lv_iload_n xX xB dX5_undo_5 rfl (lv_at wl 1 rfl) ?_
    refine z_bipush xX xB dX5_undo_6 (by decide) ?_
    refine z_icmp_le (tgt := 14) xX xB dX5_undo_8 (by decide) (by omega) (by omega) (fun h8 => ?_) (fun h8 => ?_)
    · exact absurd h8 (by omega)
    · skip
      refine z_ldc xX xB (-1000000002) (by decide) xO (xT _ (List.mem_of_getElem? (i := 1) rfl)) dX5_undo_11 ?_
      exact g_iret xX xB xR xL wS dX5_undo_13 rfl

set_option maxHeartbeats 4000000 in
set_option maxRecDepth 100000 in
theorem c_X5_undo_n (l : Launch) (D : va_G) (kI kB : ClassId) (o5 : Nat) (th : Nat) (pa : Nat) (im : Nat) (sd : Int) (st : Bool) (o : Nat) (pp : Nat) (ps : Nat) (ua : Nat) (um : Nat) (n : Nat) (hum : um ≤ 30) (hk : 1 ≤ n ∧ n ≤ 30) (hb : um < n) : gI l yX5_undo wsX5_undo ({ frames := 0, cells := 0, slots := 0, locals := 0 } : Room) D kI kB [.ref o5, .int (zI (n : Int))] [(o5, .inr (5, [.ref pp, .ref o, .ref th, .ref pa, .ref im, .int (zI sd), .int (bI st)])), (pa, .inr (2, [.ref ps, .int (zI (ua : Int)), .int (zI (um : Int))]))] (zI (-1000000003)) := by
  refine g_start (cc := cX5_undo) (maxL := 2) (ret := (some .int)) (by decide) rfl (Nat.le_of_ble_eq_true rfl) ?_
  intro xp xe xs xm xbl xmt xc xX xB xR xM xT xO xL xN wP wD wK ls wl
  have wS : va_S (fun _ => False) xs.heap xs.heap [] := va_S.rf
  have wl : lv_has ls 2 [(0, .ref o5), (1, .int (zI (n : Int)))] := wl
  refine lv_iload_n xX xB dX5_undo_0 rfl (lv_at wl 1 rfl) ?_
  refine z_iconst xX xB dX5_undo_1 ?_
  refine z_icmp_lt (tgt := 11) xX xB dX5_undo_2 (by decide) (by omega) (by omega) (fun h2 => ?_) (fun h2 => ?_)
  · exact absurd h2 (by omega)
  · skip
    refine lv_iload_n xX xB dX5_undo_5 rfl (lv_at wl 1 rfl) ?_
    refine z_bipush xX xB dX5_undo_6 (by decide) ?_
    refine z_icmp_le (tgt := 14) xX xB dX5_undo_8 (by decide) (by omega) (by omega) (fun h8 => ?_) (fun h8 => ?_)
    · skip
      refine lv_iload_n xX xB dX5_undo_14 rfl (lv_at wl 1 rfl) ?_
      refine lv_aload_n xX xB dX5_undo_15 rfl (lv_at wl 0 rfl) ?_
      refine va_get (D := D) (ci := 5) (v := .ref pa) (C := RX5) (T := TX5) (N := 7) xX xB xT in_X5_undo_X5 xO wK.1 wP 0 rfl rfl 3 (by decide) (xT _ (List.mem_of_getElem? (i := 2) rfl)) (fun _ h9 => h9) rfl dX5_undo_16 ?_
      refine va_getN (D := D) (ci := 2) (v := .int (zI (um : Int))) (C := RX2) (T := TX2) (N := 3) xX xB xT in_X5_undo_X2 xO wK.1 wP 1 rfl rfl 2 (by decide) (va_Nw.use rfl (wK.2 _ (List.mem_of_getElem? (i := 14) rfl))) (fun _ h9 => h9) rfl dX5_undo_19 ?_
      refine z_icmp_le (tgt := 28) xX xB dX5_undo_22 (by decide) (by omega) (by omega) (fun h22 => ?_) (fun h22 => ?_)
      · exact absurd h22 (by omega)
      · skip
        refine z_ldc xX xB (-1000000003) (by decide) xO (xT _ (List.mem_of_getElem? (i := 3) rfl)) dX5_undo_25 ?_
        exact g_iret xX xB xR xL wS dX5_undo_27 rfl
    · exact absurd h8 (by omega)

set_option maxHeartbeats 4000000 in
set_option maxRecDepth 100000 in
theorem c_X5_undo (l : Launch) (D : va_G) (kI kB : ClassId) (o5 : Nat) (th : Nat) (pa : Nat) (im : Nat) (sd : Int) (st : Bool) (o : Nat) (ps : Nat) (ua : Nat) (um : Nat) (U : Nat → Int) (pp : Nat) (q1 : Nat) (q2 : Nat) (F : Nat → Int) (jb : Int) (n : Nat) (hua : ua < 30) (hum : um ≤ 30) (hk : 1 ≤ n ∧ n ≤ 30) (hb : n ≤ um) (hU : ∀ k, k < 510 → 0 ≤ U k ∧ U k ≤ 65535) : gM l yX5_undo wsX5_undo ({ frames := 3, cells := 0, slots := 0, locals := 62 } : Room) D kI kB [.ref o5, .int (zI (n : Int))] [(o5, .inr (5, [.ref pp, .ref o, .ref th, .ref pa, .ref im, .int (zI sd), .int (bI st)])), (pa, .inr (2, [.ref ps, .int (zI (ua : Int)), .int (zI (um : Int))])), (ps, .inl (kI, 510, .inl (aZ U))), (pp, .inr (3, [.ref q1, .ref q2, .int (zI jb)])), (q1, .inl (kI, 16, .inl (aZ F)))] (fun (_ : Unit) => [(o5, .inr (5, [.ref pp, .ref o, .ref th, .ref pa, .ref im, .int (zI sd), .int (bI true)])), (pa, .inr (2, [.ref ps, .int (zI (((ua + 30 - n) % 30 : Nat) : Int)), .int (zI ((um - n : Nat) : Int))])), (ps, .inl (kI, 510, .inl (aZ U))), (pp, .inr (3, [.ref q1, .ref q2, .int (zI (U (((ua + 30 - n) % 30) * 17 + 16)))])), (q1, .inl (kI, 16, .inl (aZ (cpZ U F (((ua + 30 - n) % 30) * 17) 0 16))))]) (fun (r : Int32) (_ : Unit) => r = zI ((dots (toP U (17 * ((ua + 30 - n) % 30))) : Nat) : Int) ∧ Pic (cpZ U F (((ua + 30 - n) % 30) * 17) 0 16) (toP U (17 * ((ua + 30 - n) % 30)))) := by
  refine g_start (cc := cX5_undo) (maxL := 2) (ret := (some .int)) (by decide) rfl (Nat.le_of_ble_eq_true rfl) ?_
  intro xp xe xs xm xbl xmt xc xX xB xR xM xT xO xL xN wP wD wK ls wl
  have wS : va_S (gA [(o5, .inr (5, [.ref pp, .ref o, .ref th, .ref pa, .ref im, .int (zI sd), .int (bI st)])), (pa, .inr (2, [.ref ps, .int (zI (ua : Int)), .int (zI (um : Int))])), (ps, .inl (kI, 510, .inl (aZ U))), (pp, .inr (3, [.ref q1, .ref q2, .int (zI jb)])), (q1, .inl (kI, 16, .inl (aZ F)))]) xs.heap xs.heap [] := va_S.rf
  have wl : lv_has ls 2 [(0, .ref o5), (1, .int (zI (n : Int)))] := wl
  have hPU : Pic (cpZ U F (((ua + 30 - n) % 30) * 17) 0 16) (toP U (17 * ((ua + 30 - n) % 30))) := pic_cp (fun k hk => hU _ (by omega))
  refine lv_iload_n xX xB dX5_undo_0 rfl (lv_at wl 1 rfl) ?_
  refine z_iconst xX xB dX5_undo_1 ?_
  refine z_icmp_lt (tgt := 11) xX xB dX5_undo_2 (by decide) (by omega) (by omega) (fun h2 => ?_) (fun h2 => ?_)
  · exact absurd h2 (by omega)
  · skip
    refine lv_iload_n xX xB dX5_undo_5 rfl (lv_at wl 1 rfl) ?_
    refine z_bipush xX xB dX5_undo_6 (by decide) ?_
    refine z_icmp_le (tgt := 14) xX xB dX5_undo_8 (by decide) (by omega) (by omega) (fun h8 => ?_) (fun h8 => ?_)
    · skip
      refine lv_iload_n xX xB dX5_undo_14 rfl (lv_at wl 1 rfl) ?_
      refine lv_aload_n xX xB dX5_undo_15 rfl (lv_at wl 0 rfl) ?_
      refine va_get (D := D) (ci := 5) (v := .ref pa) (C := RX5) (T := TX5) (N := 7) xX xB xT in_X5_undo_X5 xO wK.1 wP 0 rfl rfl 3 (by decide) (xT _ (List.mem_of_getElem? (i := 2) rfl)) (fun _ h9 => h9) rfl dX5_undo_16 ?_
      refine va_getN (D := D) (ci := 2) (v := .int (zI (um : Int))) (C := RX2) (T := TX2) (N := 3) xX xB xT in_X5_undo_X2 xO wK.1 wP 1 rfl rfl 2 (by decide) (va_Nw.use rfl (wK.2 _ (List.mem_of_getElem? (i := 14) rfl))) (fun _ h9 => h9) rfl dX5_undo_19 ?_
      refine z_icmp_le (tgt := 28) xX xB dX5_undo_22 (by decide) (by omega) (by omega) (fun h22 => ?_) (fun h22 => ?_)
      · skip
        refine lv_aload_n xX xB dX5_undo_28 rfl (lv_at wl 0 rfl) ?_
        refine va_get (D := D) (ci := 5) (v := .ref pa) (C := RX5) (T := TX5) (N := 7) xX xB xT in_X5_undo_X5 xO wK.1 wP 0 rfl rfl 3 (by decide) (xT _ (List.mem_of_getElem? (i := 2) rfl)) (fun _ h9 => h9) rfl dX5_undo_29 ?_
        refine lv_iload_n xX xB dX5_undo_32 rfl (lv_at wl 1 rfl) ?_
        refine lv_aload_n xX xB dX5_undo_33 rfl (lv_at wl 0 rfl) ?_
        refine va_get (D := D) (ci := 5) (v := .ref pp) (C := RX5) (T := TX5) (N := 7) xX xB xT in_X5_undo_X5 xO wK.1 wP 0 rfl rfl 0 (by decide) (xT _ (List.mem_of_getElem? (i := 4) rfl)) (fun _ h9 => h9) rfl dX5_undo_34 ?_
        refine g_modv (va_runV (As := [.int (zI (n : Int)), .ref pp]) (rest := []) ⟨xX, xB, xM, xO, xT⟩ (c_X2_goBackBy l D kI kB pa ps ua um U pp q1 q2 F jb n hua hum hk hb) (cwV 2 xT gX5_undo_X2_goBackBy rfl rfl rfl hd_X2_goBackBy ⟨Nat.le_of_ble_eq_true rfl, Nat.le_of_ble_eq_true rfl⟩) (g_preV (ci := 2) (q0 := 1) wP wD wK [1, 2, 3, 4] (by decide) rfl rfl rfl) rfl rfl wl.1 rfl (lv_room (Nat.le_of_ble_eq_true rfl)) dX5_undo_37 ⟨Nat.le_of_ble_eq_true rfl, Nat.le_of_ble_eq_true rfl⟩) wP wD wS [1, 2, 3, 4] rfl (fun _ => rfl) (fun u_ H locs hc37 wP wD wS => ?_)
        try dsimp only at hc37
        have wP : va_P D gC [(o5, .inr (5, [.ref pp, .ref o, .ref th, .ref pa, .ref im, .int (zI sd), .int (bI st)])), (pa, .inr (2, [.ref ps, .int (zI (((ua + 30 - n) % 30 : Nat) : Int)), .int (zI ((um - n : Nat) : Int))])), (ps, .inl (kI, 510, .inl (aZ U))), (pp, .inr (3, [.ref q1, .ref q2, .int (zI (U (((ua + 30 - n) % 30) * 17 + 16)))])), (q1, .inl (kI, 16, .inl (aZ (cpZ U F (((ua + 30 - n) % 30) * 17) 0 16))))] H := wP
        have wD : va_D (gA [(o5, .inr (5, [.ref pp, .ref o, .ref th, .ref pa, .ref im, .int (zI sd), .int (bI st)])), (pa, .inr (2, [.ref ps, .int (zI (ua : Int)), .int (zI (um : Int))])), (ps, .inl (kI, 510, .inl (aZ U))), (pp, .inr (3, [.ref q1, .ref q2, .int (zI jb)])), (q1, .inl (kI, 16, .inl (aZ F)))]) [(o5, .inr (5, [.ref pp, .ref o, .ref th, .ref pa, .ref im, .int (zI sd), .int (bI st)])), (pa, .inr (2, [.ref ps, .int (zI (((ua + 30 - n) % 30 : Nat) : Int)), .int (zI ((um - n : Nat) : Int))])), (ps, .inl (kI, 510, .inl (aZ U))), (pp, .inr (3, [.ref q1, .ref q2, .int (zI (U (((ua + 30 - n) % 30) * 17 + 16)))])), (q1, .inl (kI, 16, .inl (aZ (cpZ U F (((ua + 30 - n) % 30) * 17) 0 16))))] := wD
        refine lv_aload_n xX xB dX5_undo_40 rfl (lv_at wl 0 rfl) ?_
        refine z_iconst xX xB dX5_undo_41 ?_
        refine lv_ri (y := bI true) rfl ?_
        refine va_put (D := D) (ci := 5) (v := .int (bI true)) (ty := .boolean) (C := RX5) (T := TX5) (N := 7) xX xB xT in_X5_undo_X5 tyX5 tyX5_ok nmX5 xO wK.1 wP wD wS 0 rfl rfl 6 (by decide) (xT _ (List.mem_of_getElem? (i := 5) rfl)) (fun _ h9 => h9) rfl (by decide +kernel) (bI_narrow _) (bI_fits _) (Nat.le_of_ble_eq_true rfl) dX5_undo_42 (fun H locs wP wD wS => ?_)
        have wP : va_P D gC [(o5, .inr (5, [.ref pp, .ref o, .ref th, .ref pa, .ref im, .int (zI sd), .int (bI true)])), (pa, .inr (2, [.ref ps, .int (zI (((ua + 30 - n) % 30 : Nat) : Int)), .int (zI ((um - n : Nat) : Int))])), (ps, .inl (kI, 510, .inl (aZ U))), (pp, .inr (3, [.ref q1, .ref q2, .int (zI (U (((ua + 30 - n) % 30) * 17 + 16)))])), (q1, .inl (kI, 16, .inl (aZ (cpZ U F (((ua + 30 - n) % 30) * 17) 0 16))))] H := wP
        have wD : va_D (gA [(o5, .inr (5, [.ref pp, .ref o, .ref th, .ref pa, .ref im, .int (zI sd), .int (bI st)])), (pa, .inr (2, [.ref ps, .int (zI (ua : Int)), .int (zI (um : Int))])), (ps, .inl (kI, 510, .inl (aZ U))), (pp, .inr (3, [.ref q1, .ref q2, .int (zI jb)])), (q1, .inl (kI, 16, .inl (aZ F)))]) [(o5, .inr (5, [.ref pp, .ref o, .ref th, .ref pa, .ref im, .int (zI sd), .int (bI true)])), (pa, .inr (2, [.ref ps, .int (zI (((ua + 30 - n) % 30 : Nat) : Int)), .int (zI ((um - n : Nat) : Int))])), (ps, .inl (kI, 510, .inl (aZ U))), (pp, .inr (3, [.ref q1, .ref q2, .int (zI (U (((ua + 30 - n) % 30) * 17 + 16)))])), (q1, .inl (kI, 16, .inl (aZ (cpZ U F (((ua + 30 - n) % 30) * 17) 0 16))))] := wD
        refine lv_aload_n xX xB dX5_undo_45 rfl (lv_at wl 0 rfl) ?_
        refine va_get (D := D) (ci := 5) (v := .ref pp) (C := RX5) (T := TX5) (N := 7) xX xB xT in_X5_undo_X5 xO wK.1 wP 0 rfl rfl 0 (by decide) (xT _ (List.mem_of_getElem? (i := 4) rfl)) (fun _ h9 => h9) rfl dX5_undo_46 ?_
        refine g_pure (va_runV (As := []) (rest := []) ⟨xX, xB, xM, xO, xT⟩ (c_X3_darkDots l D kI kB pp q1 q2 (cpZ U F (((ua + 30 - n) % 30) * 17) 0 16) (U (((ua + 30 - n) % 30) * 17 + 16)) (toP U (17 * ((ua + 30 - n) % 30))) hPU) (cwV 0 xT gX5_undo_X3_darkDots rfl rfl rfl hd_X3_darkDots ⟨Nat.le_of_ble_eq_true rfl, Nat.le_of_ble_eq_true rfl⟩) (g_preV (ci := 3) (q0 := 3) wP wD wK [3, 4] (by decide) rfl rfl rfl) rfl rfl wl.1 rfl (lv_room (Nat.le_of_ble_eq_true rfl)) dX5_undo_49 ⟨Nat.le_of_ble_eq_true rfl, Nat.le_of_ble_eq_true rfl⟩) wP wS (fun H locs wP wS => ?_)
        exact g_mret () xX xB xR xL wP wS dX5_undo_52 ⟨rfl, hPU⟩
      · exact absurd h22 (by omega)
    · exact absurd h8 (by omega)

set_option maxHeartbeats 4000000 in
set_option maxRecDepth 100000 in
theorem c_X5_drift_o (l : Launch) (D : va_G) (kI kB : ClassId) (o5 : Nat) (th : Nat) (pa : Nat) (im : Nat) (sd : Int) (st : Bool) (o : Nat) (pp : Nat) (n : Int) (rr : -2147483648 ≤ n ∧ n ≤ 2147483647) (hb : ¬ (1 ≤ n ∧ n ≤ 60)) : gI l yX5_drift wsX5_drift ({ frames := 0, cells := 0, slots := 0, locals := 0 } : Room) D kI kB [.ref o5, .int (zI n)] [(o5, .inr (5, [.ref pp, .ref o, .ref th, .ref pa, .ref im, .int (zI sd), .int (bI st)]))] (zI (-1000000002)) := by
  refine g_start (cc := cX5_drift) (maxL := 4) (ret := (some .int)) (by decide) rfl (Nat.le_of_ble_eq_true rfl) ?_
  intro xp xe xs xm xbl xmt xc xX xB xR xM xT xO xL xN wP wD wK ls wl
  have wS : va_S (fun _ => False) xs.heap xs.heap [] := va_S.rf
  have wl : lv_has ls 4 [(0, .ref o5), (1, .int (zI n))] := wl
  refine lv_iload_n xX xB dX5_drift_0 rfl (lv_at wl 1 rfl) ?_
  refine z_iconst xX xB dX5_drift_1 ?_
  refine z_icmp_lt (tgt := 11) xX xB dX5_drift_2 (by decide) (by omega) (by omega) (fun h2 => ?_) (fun h2 => ?_)
  · skip
    refine z_ldc xX xB (-1000000002) (by decide) xO (xT _ (List.mem_of_getElem? (i := 1) rfl)) dX5_drift_11 ?_
    exact g_iret xX xB xR xL wS dX5_drift_13 rfl
  · skip
    refine lv_iload_n xX xB dX5_drift_5 rfl (lv_at wl 1 rfl) ?_
    refine z_bipush xX xB dX5_drift_6 (by decide) ?_
    refine z_icmp_le (tgt := 14) xX xB dX5_drift_8 (by decide) (by omega) (by omega) (fun h8 => ?_) (fun h8 => ?_)
    · exact absurd h8 (by omega)
    · skip
      refine z_ldc xX xB (-1000000002) (by decide) xO (xT _ (List.mem_of_getElem? (i := 1) rfl)) dX5_drift_11 ?_
      exact g_iret xX xB xR xL wS dX5_drift_13 rfl

set_option maxHeartbeats 4000000 in
set_option maxRecDepth 100000 in
theorem c_X5_drift (l : Launch) (D : va_G) (kI kB : ClassId) (o5 : Nat) (th : Nat) (pa : Nat) (im : Nat) (st : Bool) (o : Nat) (ps : Nat) (ua : Nat) (um : Nat) (U : Nat → Int) (pp : Nat) (q1 : Nat) (q2 : Nat) (F : Nat → Int) (jb : Int) (v : Nat) (P : Nat → Nat) (n : Nat) (hF : Pic F P) (hua : ua < 30) (hum : um ≤ 30) (hv : v < 2147483648) (hn : 1 ≤ n ∧ n ≤ 60) : gM l yX5_drift wsX5_drift ({ frames := 4, cells := 0, slots := 0, locals := 81 } : Room) D kI kB [.ref o5, .int (zI (n : Int))] [(o5, .inr (5, [.ref pp, .ref o, .ref th, .ref pa, .ref im, .int (zI (v : Int)), .int (bI st)])), (pa, .inr (2, [.ref ps, .int (zI (ua : Int)), .int (zI (um : Int))])), (ps, .inl (kI, 510, .inl (aZ U))), (pp, .inr (3, [.ref q1, .ref q2, .int (zI jb)])), (q1, .inl (kI, 16, .inl (aZ F)))] (fun (w_ : (Nat → Int) × (Nat → Int)) => [(o5, .inr (5, [.ref pp, .ref o, .ref th, .ref pa, .ref im, .int (zI ((dSd v n : Nat) : Int)), .int (bI true)])), (pa, .inr (2, [.ref ps, .int (zI (((ua + n) % 30 : Nat) : Int)), .int (zI ((min (um + n) 30 : Nat) : Int))])), (ps, .inl (kI, 510, .inl (aZ (w_.2)))), (pp, .inr (3, [.ref q1, .ref q2, .int (zI jb)])), (q1, .inl (kI, 16, .inl (aZ (w_.1))))]) (fun (r : Int32) (w_ : (Nat → Int) × (Nat → Int)) => r = zI ((dots (dP P v n) : Nat) : Int) ∧ Pic (w_.1) (dP P v n) ∧ (∀ k, k < 510 → (w_.2) k = dU U P jb v ua n k)) := by
  refine g_start (cc := cX5_drift) (maxL := 4) (ret := (some .int)) (by decide) rfl (Nat.le_of_ble_eq_true rfl) ?_
  intro xp xe xs xm xbl xmt xc xX xB xR xM xT xO xL xN wP wD wK ls wl
  have wS : va_S (gA [(o5, .inr (5, [.ref pp, .ref o, .ref th, .ref pa, .ref im, .int (zI (v : Int)), .int (bI st)])), (pa, .inr (2, [.ref ps, .int (zI (ua : Int)), .int (zI (um : Int))])), (ps, .inl (kI, 510, .inl (aZ U))), (pp, .inr (3, [.ref q1, .ref q2, .int (zI jb)])), (q1, .inl (kI, 16, .inl (aZ F)))]) xs.heap xs.heap [] := va_S.rf
  have wl : lv_has ls 4 [(0, .ref o5), (1, .int (zI (n : Int)))] := wl
  generalize hQ : MQ xbl _ _ xs 0 0 _ = xQ
  refine lv_iload_n xX xB dX5_drift_0 rfl (lv_at wl 1 rfl) ?_
  refine z_iconst xX xB dX5_drift_1 ?_
  refine z_icmp_lt (tgt := 11) xX xB dX5_drift_2 (by decide) (by omega) (by omega) (fun h2 => ?_) (fun h2 => ?_)
  · exact absurd h2 (by omega)
  · skip
    refine lv_iload_n xX xB dX5_drift_5 rfl (lv_at wl 1 rfl) ?_
    refine z_bipush xX xB dX5_drift_6 (by decide) ?_
    refine z_icmp_le (tgt := 14) xX xB dX5_drift_8 (by decide) (by omega) (by omega) (fun h8 => ?_) (fun h8 => ?_)
    · skip
      refine z_iconst xX xB dX5_drift_14 ?_
      refine lv_istore_n (lv' := [(2, .int (zI 0)), (0, .ref o5), (1, .int (zI (n : Int)))]) xX xB dX5_drift_15 rfl wl (by decide) rfl (fun ls wl => ?_)
      have K : ∀ n_ : Nat, ∀ (i : Nat) (sv : Nat) (su : Nat) (sa : Nat) (st1 : Bool) (F1 : Nat → Int) (U1 : Nat → Int), n - i < n_ → (i ≤ n) → (sv = dSd v i) → (su = min (um + i) 30) → (sa = (ua + i) % 30) → (0 < i → st1 = true) → (Pic F1 (dP P v i)) → (∀ k, k < 510 → U1 k = dU U P jb v ua i k) → ∀ (H : Heap) (locs : List Loc) (ls : Array Slot), va_P D gC [(o5, .inr (5, [.ref pp, .ref o, .ref th, .ref pa, .ref im, .int (zI (sv : Int)), .int (bI st1)])), (pa, .inr (2, [.ref ps, .int (zI (sa : Int)), .int (zI (su : Int))])), (ps, .inl (kI, 510, .inl (aZ U1))), (pp, .inr (3, [.ref q1, .ref q2, .int (zI jb)])), (q1, .inl (kI, 16, .inl (aZ F1)))] H → va_D (gA [(o5, .inr (5, [.ref pp, .ref o, .ref th, .ref pa, .ref im, .int (zI (v : Int)), .int (bI st)])), (pa, .inr (2, [.ref ps, .int (zI (ua : Int)), .int (zI (um : Int))])), (ps, .inl (kI, 510, .inl (aZ U))), (pp, .inr (3, [.ref q1, .ref q2, .int (zI jb)])), (q1, .inl (kI, 16, .inl (aZ F)))]) [(o5, .inr (5, [.ref pp, .ref o, .ref th, .ref pa, .ref im, .int (zI (sv : Int)), .int (bI st1)])), (pa, .inr (2, [.ref ps, .int (zI (sa : Int)), .int (zI (su : Int))])), (ps, .inl (kI, 510, .inl (aZ U1))), (pp, .inr (3, [.ref q1, .ref q2, .int (zI jb)])), (q1, .inl (kI, 16, .inl (aZ F1)))] → va_S (gA [(o5, .inr (5, [.ref pp, .ref o, .ref th, .ref pa, .ref im, .int (zI (v : Int)), .int (bI st)])), (pa, .inr (2, [.ref ps, .int (zI (ua : Int)), .int (zI (um : Int))])), (ps, .inl (kI, 510, .inl (aZ U))), (pp, .inr (3, [.ref q1, .ref q2, .int (zI jb)])), (q1, .inl (kI, 16, .inl (aZ F)))]) xs.heap H locs → lv_has ls 4 [(0, .ref o5), (1, .int (zI (n : Int))), (2, .int (zI (i : Int)))] → W xp l xe ({ frames := 4, cells := 0, slots := 0, locals := 81 } : Room) xs xm (List.toArray [.ref o5, .int (zI (n : Int))]) xbl xmt xc H locs 0 0 xQ (F0 xm 16 ls []) := by
        intro n_
        induction n_ with
        | zero =>
          intro i sv su sa st1 F1 U1 hme
          exact absurd hme (Nat.not_lt_zero _)
        | succ n_ ihK =>
          intro i sv su sa st1 F1 U1 hme hi hsv hsu hsa hst hF1 hU1 H locs ls wP wD wS wl
          refine lv_iload_n xX xB dX5_drift_16 rfl (lv_at wl 2 rfl) ?_
          refine lv_iload_n xX xB dX5_drift_17 rfl (lv_at wl 1 rfl) ?_
          refine z_icmp_ge (tgt := 53) xX xB dX5_drift_18 (by decide) (by omega) (by omega) (fun h18 => ?_) (fun h18 => ?_)
          · skip
            have ein : n = i := by omega
            subst ein
            subst hsv
            subst hsu
            subst hsa
            have hst1 : st1 = true := hst (by omega)
            subst hst1
            refine lv_aload_n xX xB dX5_drift_53 rfl (lv_at wl 0 rfl) ?_
            refine va_get (D := D) (ci := 5) (v := .ref pp) (C := RX5) (T := TX5) (N := 7) xX xB xT in_X5_drift_X5 xO wK.1 wP 0 rfl rfl 0 (by decide) (xT _ (List.mem_of_getElem? (i := 2) rfl)) (fun _ h9 => h9) rfl dX5_drift_54 ?_
            refine g_pure (va_runV (As := []) (rest := []) ⟨xX, xB, xM, xO, xT⟩ (c_X3_darkDots l D kI kB pp q1 q2 F1 jb (dP P v n) hF1) (cwV 0 xT gX5_drift_X3_darkDots rfl rfl rfl hd_X3_darkDots ⟨Nat.le_of_ble_eq_true rfl, Nat.le_of_ble_eq_true rfl⟩) (g_preV (ci := 3) (q0 := 3) wP wD wK [3, 4] (by decide) rfl rfl rfl) rfl rfl wl.1 rfl (lv_room (Nat.le_of_ble_eq_true rfl)) dX5_drift_57 ⟨Nat.le_of_ble_eq_true rfl, Nat.le_of_ble_eq_true rfl⟩) wP wS (fun H locs wP wS => ?_)
            subst hQ
            exact g_mret (F1, U1) xX xB xR xL wP wS dX5_drift_60 ⟨rfl, hF1, hU1⟩
          · skip
            have hsvl : sv < 2147483648 := by rw [hsv]; exact dSd_lt hv i
            have hsv2 : nxS sv = dSd v (i + 1) := by rw [hsv, dSd_succ]
            refine lv_aload_n xX xB dX5_drift_21 rfl (lv_at wl 0 rfl) ?_
            refine g_modi (va_runV (As := []) (rest := []) ⟨xX, xB, xM, xO, xT⟩ (c_X5_drawPlace l D kI kB o5 th pa im st1 pp o sv hsvl) (cwV 0 xT gX5_drift_X5_drawPlace rfl rfl rfl hd_X5_drawPlace ⟨Nat.le_of_ble_eq_true rfl, Nat.le_of_ble_eq_true rfl⟩) (g_preV (ci := 5) (q0 := 0) wP wD wK [0] (by decide) rfl rfl rfl) rfl rfl wl.1 rfl (lv_room (Nat.le_of_ble_eq_true rfl)) dX5_drift_22 ⟨Nat.le_of_ble_eq_true rfl, Nat.le_of_ble_eq_true rfl⟩) wP wD wS [0] rfl (fun _ => rfl) (fun r_1 u_ H locs hc22 wP wD wS => ?_)
            try dsimp only at hc22
            have wP : va_P D gC [(o5, .inr (5, [.ref pp, .ref o, .ref th, .ref pa, .ref im, .int (zI ((nxS sv : Nat) : Int)), .int (bI st1)])), (pa, .inr (2, [.ref ps, .int (zI (sa : Int)), .int (zI (su : Int))])), (ps, .inl (kI, 510, .inl (aZ U1))), (pp, .inr (3, [.ref q1, .ref q2, .int (zI jb)])), (q1, .inl (kI, 16, .inl (aZ F1)))] H := wP
            have wD : va_D (gA [(o5, .inr (5, [.ref pp, .ref o, .ref th, .ref pa, .ref im, .int (zI (v : Int)), .int (bI st)])), (pa, .inr (2, [.ref ps, .int (zI (ua : Int)), .int (zI (um : Int))])), (ps, .inl (kI, 510, .inl (aZ U))), (pp, .inr (3, [.ref q1, .ref q2, .int (zI jb)])), (q1, .inl (kI, 16, .inl (aZ F)))]) [(o5, .inr (5, [.ref pp, .ref o, .ref th, .ref pa, .ref im, .int (zI ((nxS sv : Nat) : Int)), .int (bI st1)])), (pa, .inr (2, [.ref ps, .int (zI (sa : Int)), .int (zI (su : Int))])), (ps, .inl (kI, 510, .inl (aZ U1))), (pp, .inr (3, [.ref q1, .ref q2, .int (zI jb)])), (q1, .inl (kI, 16, .inl (aZ F1)))] := wD
            obtain ⟨xR22, hc22⟩ := hc22
            refine lv_ri (y := zI ((plc (nxS sv) : Nat) : Int)) xR22 ?_
            have hpl := plc_lt (nxS sv)
            have hbl : (1 <<< (plc (nxS sv) % 16) : Nat) < 65536 := bit_lt (plc (nxS sv))
            refine lv_istore_n (lv' := [(3, .int (zI ((plc (nxS sv) : Nat) : Int))), (0, .ref o5), (1, .int (zI (n : Int))), (2, .int (zI (i : Int)))]) xX xB dX5_drift_25 rfl wl (by decide) rfl (fun ls wl => ?_)
            refine lv_aload_n xX xB dX5_drift_26 rfl (lv_at wl 1 rfl) ?_
            refine g_modv (va_runV (As := []) (rest := []) ⟨xX, xB, xM, xO, xT⟩ (c_X5_remember l D kI kB o5 th pa im ((nxS sv : Nat) : Int) st1 o ps sa su U1 pp q1 q2 F1 jb (by omega) (by omega)) (cwV 0 xT gX5_drift_X5_remember rfl rfl rfl hd_X5_remember ⟨Nat.le_of_ble_eq_true rfl, Nat.le_of_ble_eq_true rfl⟩) (g_preV (ci := 5) (q0 := 0) wP wD wK [0, 1, 2, 3, 4] (by decide) rfl rfl rfl) rfl rfl wl.1 rfl (lv_room (Nat.le_of_ble_eq_true rfl)) dX5_drift_27 ⟨Nat.le_of_ble_eq_true rfl, Nat.le_of_ble_eq_true rfl⟩) wP wD wS [0, 1, 2, 3, 4] rfl (fun _ => rfl) (fun U1_2 H locs hc27 wP wD wS => ?_)
            try dsimp only at hc27
            have wP : va_P D gC [(o5, .inr (5, [.ref pp, .ref o, .ref th, .ref pa, .ref im, .int (zI ((nxS sv : Nat) : Int)), .int (bI true)])), (pa, .inr (2, [.ref ps, .int (zI (((sa + 1) % 30 : Nat) : Int)), .int (zI ((if su < 30 then su + 1 else su : Nat) : Int))])), (ps, .inl (kI, 510, .inl (aZ U1_2))), (pp, .inr (3, [.ref q1, .ref q2, .int (zI jb)])), (q1, .inl (kI, 16, .inl (aZ F1)))] H := wP
            have wD : va_D (gA [(o5, .inr (5, [.ref pp, .ref o, .ref th, .ref pa, .ref im, .int (zI (v : Int)), .int (bI st)])), (pa, .inr (2, [.ref ps, .int (zI (ua : Int)), .int (zI (um : Int))])), (ps, .inl (kI, 510, .inl (aZ U))), (pp, .inr (3, [.ref q1, .ref q2, .int (zI jb)])), (q1, .inl (kI, 16, .inl (aZ F)))]) [(o5, .inr (5, [.ref pp, .ref o, .ref th, .ref pa, .ref im, .int (zI ((nxS sv : Nat) : Int)), .int (bI true)])), (pa, .inr (2, [.ref ps, .int (zI (((sa + 1) % 30 : Nat) : Int)), .int (zI ((if su < 30 then su + 1 else su : Nat) : Int))])), (ps, .inl (kI, 510, .inl (aZ U1_2))), (pp, .inr (3, [.ref q1, .ref q2, .int (zI jb)])), (q1, .inl (kI, 16, .inl (aZ F1)))] := wD
            refine lv_aload_n xX xB dX5_drift_30 rfl (lv_at wl 1 rfl) ?_
            refine va_get (D := D) (ci := 5) (v := .ref pp) (C := RX5) (T := TX5) (N := 7) xX xB xT in_X5_drift_X5 xO wK.1 wP 0 rfl rfl 0 (by decide) (xT _ (List.mem_of_getElem? (i := 2) rfl)) (fun _ h9 => h9) rfl dX5_drift_31 ?_
            refine lv_iload_n xX xB dX5_drift_34 rfl (lv_at wl 0 rfl) ?_
            refine z_bipush xX xB dX5_drift_35 (by decide) ?_
            refine z_idiv xX xB dX5_drift_37 (by omega) (by decide) ?_
            refine z_iconst xX xB dX5_drift_38 ?_
            refine lv_iload_n xX xB dX5_drift_39 rfl (lv_at wl 0 rfl) ?_
            refine z_bipush xX xB dX5_drift_40 (by decide) ?_
            refine z_irem xX xB dX5_drift_42 (by omega) (by decide) ?_
            refine lv_ishl xX xB dX5_drift_43 ?_
            refine lv_ri (y := zI ((1 <<< (plc (nxS sv) % 16) : Nat) : Int)) (zb_bitk (k := plc (nxS sv) % 16) (by omega)) ?_
            refine g_modv (va_runV (As := [.int (zI (((plc (nxS sv) : Nat) : Int) / 16)), .int (zI ((1 <<< (plc (nxS sv) % 16) : Nat) : Int))]) (rest := []) ⟨xX, xB, xM, xO, xT⟩ (c_X3_flip l D kI kB pp q1 q2 F1 jb (dP P v i) ((plc (nxS sv)) / 16) (1 <<< (plc (nxS sv) % 16)) hF1 (by omega) hbl) (cwV 2 xT gX5_drift_X3_flip rfl rfl rfl hd_X3_flip ⟨Nat.le_of_ble_eq_true rfl, Nat.le_of_ble_eq_true rfl⟩) (g_preV (ci := 3) (q0 := 3) wP wD wK [3, 4] (by decide) rfl rfl rfl) rfl rfl wl.1 rfl (lv_room (Nat.le_of_ble_eq_true rfl)) dX5_drift_44 ⟨Nat.le_of_ble_eq_true rfl, Nat.le_of_ble_eq_true rfl⟩) wP wD wS [3, 4] rfl (fun _ => rfl) (fun u_ H locs hc44 wP wD wS => ?_)
            try dsimp only at hc44
            have wP : va_P D gC [(o5, .inr (5, [.ref pp, .ref o, .ref th, .ref pa, .ref im, .int (zI ((nxS sv : Nat) : Int)), .int (bI true)])), (pa, .inr (2, [.ref ps, .int (zI (((sa + 1) % 30 : Nat) : Int)), .int (zI ((if su < 30 then su + 1 else su : Nat) : Int))])), (ps, .inl (kI, 510, .inl (aZ U1_2))), (pp, .inr (3, [.ref q1, .ref q2, .int (zI jb)])), (q1, .inl (kI, 16, .inl (aZ (uZ F1 ((plc (nxS sv)) / 16) (((dP P v i) ((plc (nxS sv)) / 16) ^^^ (1 <<< (plc (nxS sv) % 16)) : Nat) : Int)))))] H := wP
            have wD : va_D (gA [(o5, .inr (5, [.ref pp, .ref o, .ref th, .ref pa, .ref im, .int (zI (v : Int)), .int (bI st)])), (pa, .inr (2, [.ref ps, .int (zI (ua : Int)), .int (zI (um : Int))])), (ps, .inl (kI, 510, .inl (aZ U))), (pp, .inr (3, [.ref q1, .ref q2, .int (zI jb)])), (q1, .inl (kI, 16, .inl (aZ F)))]) [(o5, .inr (5, [.ref pp, .ref o, .ref th, .ref pa, .ref im, .int (zI ((nxS sv : Nat) : Int)), .int (bI true)])), (pa, .inr (2, [.ref ps, .int (zI (((sa + 1) % 30 : Nat) : Int)), .int (zI ((if su < 30 then su + 1 else su : Nat) : Int))])), (ps, .inl (kI, 510, .inl (aZ U1_2))), (pp, .inr (3, [.ref q1, .ref q2, .int (zI jb)])), (q1, .inl (kI, 16, .inl (aZ (uZ F1 ((plc (nxS sv)) / 16) (((dP P v i) ((plc (nxS sv)) / 16) ^^^ (1 <<< (plc (nxS sv) % 16)) : Nat) : Int)))))] := wD
            refine lv_iinc (v := zI ((i : Int) + 1)) (lv' := [(2, .int (zI ((i : Int) + 1))), (3, .int (zI ((plc (nxS sv) : Nat) : Int))), (0, .ref o5), (1, .int (zI (n : Int)))]) xX xB dX5_drift_47 wl (k := 3) rfl (zI_add _ _) (by decide) rfl (fun ls wl => ?_)
            refine lv_goto (tgt := 16) xX xB dX5_drift_50 (by decide) ?_
            exact ihK (i + 1) (nxS sv) (if su < 30 then su + 1 else su) ((sa + 1) % 30) true (uZ F1 ((plc (nxS sv)) / 16) (((dP P v i) ((plc (nxS sv)) / 16) ^^^ (1 <<< (plc (nxS sv) % 16)) : Nat) : Int)) U1_2 (by omega) (by omega) hsv2 (by split <;> omega) (by omega) (fun _ => rfl) (dP_step hsv hF1) (dU_stepC hsa hU1 hF1 hc27) _ _ _ wP wD wS (lv_sub wl [2, 3, 0] rfl)
      exact K _ 0 v um ua st F U (Nat.lt_succ_self _) (by omega) rfl (by omega) (by omega) (fun z => absurd z (Nat.lt_irrefl 0)) hF (fun _ _ => rfl) _ _ _ wP wD wS (lv_sub wl [1, 2, 0] rfl)
    · exact absurd h8 (by omega)

set_option maxHeartbeats 4000000 in
set_option maxRecDepth 100000 in
theorem c_X5_keep_u (l : Launch) (D : va_G) (kI kB : ClassId) (o5 : Nat) (th : Nat) (pa : Nat) (im : Nat) (sd : Int) (st : Bool) (o : Nat) (pp : Nat) (i : Int) (rr : -2147483648 ≤ i ∧ i ≤ 2147483647) (hb : ¬ (0 ≤ i ∧ i ≤ 1)) : gI l yX5_keep wsX5_keep ({ frames := 1, cells := 0, slots := 0, locals := 20 } : Room) D kI kB [.ref o5, .int (zI i)] [(o5, .inr (5, [.ref pp, .ref o, .ref th, .ref pa, .ref im, .int (zI sd), .int (bI st)]))] (zI (-1000000001)) := by
  refine g_start (cc := cX5_keep) (maxL := 2) (ret := (some .int)) (by decide) rfl (Nat.le_of_ble_eq_true rfl) ?_
  intro xp xe xs xm xbl xmt xc xX xB xR xM xT xO xL xN wP wD wK ls wl
  have wS : va_S (fun _ => False) xs.heap xs.heap [] := va_S.rf
  have wl : lv_has ls 2 [(0, .ref o5), (1, .int (zI i))] := wl
  refine lv_iload_n xX xB dX5_keep_0 rfl (lv_at wl 1 rfl) ?_
  refine g_pure (va_runS (As := [.int (zI i)]) (rest := []) ⟨xX, xB, xM, xO, xT⟩ (c_X5_isImage l D kI kB i rr) (va_cwS 1 xT gX5_keep_X5_isImage rfl rfl rfl hdn_X5_isImage ⟨Nat.le_of_ble_eq_true rfl, Nat.le_of_ble_eq_true rfl⟩) (g_preS wP wD wK [] (by decide) rfl) rfl rfl wl.1 rfl (lv_room (Nat.le_of_ble_eq_true rfl)) dX5_keep_1 ⟨Nat.le_of_ble_eq_true rfl, Nat.le_of_ble_eq_true rfl⟩) wP wS (fun H locs wP wS => ?_)
  refine b_if_ne (tgt := 10) xX xB dX5_keep_4 (by decide) (fun h4 => ?_) (fun h4 => ?_)
  · exact absurd h4 (fun z => hb (by have := of_decide_eq_true z; omega))
  · skip
    refine z_ldc xX xB (-1000000001) (by decide) xO (xT _ (List.mem_of_getElem? (i := 1) rfl)) dX5_keep_7 ?_
    exact g_iret xX xB xR xL wS dX5_keep_9 rfl

set_option maxHeartbeats 4000000 in
set_option maxRecDepth 100000 in
theorem c_X5_keep (l : Launch) (D : va_G) (kI kB : ClassId) (o5 : Nat) (th : Nat) (pa : Nat) (im : Nat) (sd : Int) (st : Bool) (o : Nat) (ps : Nat) (ua : Nat) (um : Nat) (i0 : Nat) (i1 : Nat) (i2 : Nat) (pp : Nat) (q1 : Nat) (q2 : Nat) (F : Nat → Int) (jb : Int) (KP : Nat → Int) (KS : Nat → Int) (KB : Nat → Bool) (i : Nat) (hi : i < 2) : gM l yX5_keep wsX5_keep ({ frames := 3, cells := 0, slots := 0, locals := 63 } : Room) D kI kB [.ref o5, .int (zI (i : Int))] [(o5, .inr (5, [.ref pp, .ref o, .ref th, .ref pa, .ref im, .int (zI sd), .int (bI st)])), (pa, .inr (2, [.ref ps, .int (zI (ua : Int)), .int (zI (um : Int))])), (im, .inr (0, [.ref i0, .ref i1, .ref i2])), (i0, .inl (kI, 34, .inl (aZ KP))), (i1, .inl (kI, 2, .inl (aZ KS))), (i2, .inl (kB, 2, .inl (aB KB))), (pp, .inr (3, [.ref q1, .ref q2, .int (zI jb)])), (q1, .inl (kI, 16, .inl (aZ F)))] (fun (KP1 : Nat → Int) => [(o5, .inr (5, [.ref pp, .ref o, .ref th, .ref pa, .ref im, .int (zI sd), .int (bI st)])), (pa, .inr (2, [.ref ps, .int (zI (ua : Int)), .int (zI 0)])), (im, .inr (0, [.ref i0, .ref i1, .ref i2])), (i0, .inl (kI, 34, .inl (aZ KP1))), (i1, .inl (kI, 2, .inl (aZ (uZ KS i sd)))), (i2, .inl (kB, 2, .inl (aB (uB KB i true)))), (pp, .inr (3, [.ref q1, .ref q2, .int (zI jb)])), (q1, .inl (kI, 16, .inl (aZ F)))]) (fun (r : Int32) (KP1 : Nat → Int) => r = zI 1 ∧ (∀ k, k < 34 → KP1 k = pushN KP (uZ F 16 jb) i 17 k)) := by
  refine g_start (cc := cX5_keep) (maxL := 2) (ret := (some .int)) (by decide) rfl (Nat.le_of_ble_eq_true rfl) ?_
  intro xp xe xs xm xbl xmt xc xX xB xR xM xT xO xL xN wP wD wK ls wl
  have wS : va_S (gA [(o5, .inr (5, [.ref pp, .ref o, .ref th, .ref pa, .ref im, .int (zI sd), .int (bI st)])), (pa, .inr (2, [.ref ps, .int (zI (ua : Int)), .int (zI (um : Int))])), (im, .inr (0, [.ref i0, .ref i1, .ref i2])), (i0, .inl (kI, 34, .inl (aZ KP))), (i1, .inl (kI, 2, .inl (aZ KS))), (i2, .inl (kB, 2, .inl (aB KB))), (pp, .inr (3, [.ref q1, .ref q2, .int (zI jb)])), (q1, .inl (kI, 16, .inl (aZ F)))]) xs.heap xs.heap [] := va_S.rf
  have wl : lv_has ls 2 [(0, .ref o5), (1, .int (zI (i : Int)))] := wl
  refine lv_iload_n xX xB dX5_keep_0 rfl (lv_at wl 1 rfl) ?_
  refine g_pure (va_runS (As := [.int (zI (i : Int))]) (rest := []) ⟨xX, xB, xM, xO, xT⟩ (c_X5_isImage l D kI kB (i : Int) (by omega)) (va_cwS 1 xT gX5_keep_X5_isImage rfl rfl rfl hdn_X5_isImage ⟨Nat.le_of_ble_eq_true rfl, Nat.le_of_ble_eq_true rfl⟩) (g_preS wP wD wK [] (by decide) rfl) rfl rfl wl.1 rfl (lv_room (Nat.le_of_ble_eq_true rfl)) dX5_keep_1 ⟨Nat.le_of_ble_eq_true rfl, Nat.le_of_ble_eq_true rfl⟩) wP wS (fun H locs wP wS => ?_)
  refine b_if_ne (tgt := 10) xX xB dX5_keep_4 (by decide) (fun h4 => ?_) (fun h4 => ?_)
  · skip
    refine lv_aload_n xX xB dX5_keep_10 rfl (lv_at wl 0 rfl) ?_
    refine va_get (D := D) (ci := 5) (v := .ref im) (C := RX5) (T := TX5) (N := 7) xX xB xT in_X5_keep_X5 xO wK.1 wP 0 rfl rfl 4 (by decide) (xT _ (List.mem_of_getElem? (i := 2) rfl)) (fun _ h9 => h9) rfl dX5_keep_11 ?_
    refine lv_iload_n xX xB dX5_keep_14 rfl (lv_at wl 1 rfl) ?_
    refine lv_aload_n xX xB dX5_keep_15 rfl (lv_at wl 0 rfl) ?_
    refine va_get (D := D) (ci := 5) (v := .ref pp) (C := RX5) (T := TX5) (N := 7) xX xB xT in_X5_keep_X5 xO wK.1 wP 0 rfl rfl 0 (by decide) (xT _ (List.mem_of_getElem? (i := 3) rfl)) (fun _ h9 => h9) rfl dX5_keep_16 ?_
    refine lv_aload_n xX xB dX5_keep_19 rfl (lv_at wl 0 rfl) ?_
    refine va_get (D := D) (ci := 5) (v := .int (zI sd)) (C := RX5) (T := TX5) (N := 7) xX xB xT in_X5_keep_X5 xO wK.1 wP 0 rfl rfl 5 (by decide) (xT _ (List.mem_of_getElem? (i := 4) rfl)) (fun _ h9 => h9) rfl dX5_keep_20 ?_
    refine g_modv (va_runV (As := [.int (zI (i : Int)), .ref pp, .int (zI sd)]) (rest := []) ⟨xX, xB, xM, xO, xT⟩ (c_X0_take l D kI kB im i0 i1 i2 KP KS KB pp q1 q2 F jb i sd hi) (cwV 3 xT gX5_keep_X0_take rfl rfl rfl hd_X0_take ⟨Nat.le_of_ble_eq_true rfl, Nat.le_of_ble_eq_true rfl⟩) (g_preV (ci := 0) (q0 := 2) wP wD wK [2, 3, 4, 5, 6, 7] (by decide) rfl rfl rfl) rfl rfl wl.1 rfl (lv_room (Nat.le_of_ble_eq_true rfl)) dX5_keep_23 ⟨Nat.le_of_ble_eq_true rfl, Nat.le_of_ble_eq_true rfl⟩) wP wD wS [2, 3, 4, 5, 6, 7] rfl (fun _ => rfl) (fun KP1_1 H locs hc23 wP wD wS => ?_)
    try dsimp only at hc23
    have wP : va_P D gC [(o5, .inr (5, [.ref pp, .ref o, .ref th, .ref pa, .ref im, .int (zI sd), .int (bI st)])), (pa, .inr (2, [.ref ps, .int (zI (ua : Int)), .int (zI (um : Int))])), (im, .inr (0, [.ref i0, .ref i1, .ref i2])), (i0, .inl (kI, 34, .inl (aZ KP1_1))), (i1, .inl (kI, 2, .inl (aZ (uZ KS i sd)))), (i2, .inl (kB, 2, .inl (aB (uB KB i true)))), (pp, .inr (3, [.ref q1, .ref q2, .int (zI jb)])), (q1, .inl (kI, 16, .inl (aZ F)))] H := wP
    have wD : va_D (gA [(o5, .inr (5, [.ref pp, .ref o, .ref th, .ref pa, .ref im, .int (zI sd), .int (bI st)])), (pa, .inr (2, [.ref ps, .int (zI (ua : Int)), .int (zI (um : Int))])), (im, .inr (0, [.ref i0, .ref i1, .ref i2])), (i0, .inl (kI, 34, .inl (aZ KP))), (i1, .inl (kI, 2, .inl (aZ KS))), (i2, .inl (kB, 2, .inl (aB KB))), (pp, .inr (3, [.ref q1, .ref q2, .int (zI jb)])), (q1, .inl (kI, 16, .inl (aZ F)))]) [(o5, .inr (5, [.ref pp, .ref o, .ref th, .ref pa, .ref im, .int (zI sd), .int (bI st)])), (pa, .inr (2, [.ref ps, .int (zI (ua : Int)), .int (zI (um : Int))])), (im, .inr (0, [.ref i0, .ref i1, .ref i2])), (i0, .inl (kI, 34, .inl (aZ KP1_1))), (i1, .inl (kI, 2, .inl (aZ (uZ KS i sd)))), (i2, .inl (kB, 2, .inl (aB (uB KB i true)))), (pp, .inr (3, [.ref q1, .ref q2, .int (zI jb)])), (q1, .inl (kI, 16, .inl (aZ F)))] := wD
    refine lv_aload_n xX xB dX5_keep_26 rfl (lv_at wl 0 rfl) ?_
    refine va_get (D := D) (ci := 5) (v := .ref pa) (C := RX5) (T := TX5) (N := 7) xX xB xT in_X5_keep_X5 xO wK.1 wP 0 rfl rfl 3 (by decide) (xT _ (List.mem_of_getElem? (i := 5) rfl)) (fun _ h9 => h9) rfl dX5_keep_27 ?_
    refine g_modv (va_runV (As := []) (rest := []) ⟨xX, xB, xM, xO, xT⟩ (c_X2_forget l D kI kB pa ps ua um) (cwV 0 xT gX5_keep_X2_forget rfl rfl rfl hd_X2_forget ⟨Nat.le_of_ble_eq_true rfl, Nat.le_of_ble_eq_true rfl⟩) (g_preV (ci := 2) (q0 := 1) wP wD wK [1] (by decide) rfl rfl rfl) rfl rfl wl.1 rfl (lv_room (Nat.le_of_ble_eq_true rfl)) dX5_keep_30 ⟨Nat.le_of_ble_eq_true rfl, Nat.le_of_ble_eq_true rfl⟩) wP wD wS [1] rfl (fun _ => rfl) (fun u_ H locs hc30 wP wD wS => ?_)
    try dsimp only at hc30
    have wP : va_P D gC [(o5, .inr (5, [.ref pp, .ref o, .ref th, .ref pa, .ref im, .int (zI sd), .int (bI st)])), (pa, .inr (2, [.ref ps, .int (zI (ua : Int)), .int (zI 0)])), (im, .inr (0, [.ref i0, .ref i1, .ref i2])), (i0, .inl (kI, 34, .inl (aZ KP1_1))), (i1, .inl (kI, 2, .inl (aZ (uZ KS i sd)))), (i2, .inl (kB, 2, .inl (aB (uB KB i true)))), (pp, .inr (3, [.ref q1, .ref q2, .int (zI jb)])), (q1, .inl (kI, 16, .inl (aZ F)))] H := wP
    have wD : va_D (gA [(o5, .inr (5, [.ref pp, .ref o, .ref th, .ref pa, .ref im, .int (zI sd), .int (bI st)])), (pa, .inr (2, [.ref ps, .int (zI (ua : Int)), .int (zI (um : Int))])), (im, .inr (0, [.ref i0, .ref i1, .ref i2])), (i0, .inl (kI, 34, .inl (aZ KP))), (i1, .inl (kI, 2, .inl (aZ KS))), (i2, .inl (kB, 2, .inl (aB KB))), (pp, .inr (3, [.ref q1, .ref q2, .int (zI jb)])), (q1, .inl (kI, 16, .inl (aZ F)))]) [(o5, .inr (5, [.ref pp, .ref o, .ref th, .ref pa, .ref im, .int (zI sd), .int (bI st)])), (pa, .inr (2, [.ref ps, .int (zI (ua : Int)), .int (zI 0)])), (im, .inr (0, [.ref i0, .ref i1, .ref i2])), (i0, .inl (kI, 34, .inl (aZ KP1_1))), (i1, .inl (kI, 2, .inl (aZ (uZ KS i sd)))), (i2, .inl (kB, 2, .inl (aB (uB KB i true)))), (pp, .inr (3, [.ref q1, .ref q2, .int (zI jb)])), (q1, .inl (kI, 16, .inl (aZ F)))] := wD
    refine z_iconst xX xB dX5_keep_33 ?_
    exact g_mret KP1_1 xX xB xR xL wP wS dX5_keep_34 ⟨rfl, hc23⟩
  · exact absurd h4 (by rw [decide_eq_true (by omega)]; decide)

set_option maxHeartbeats 4000000 in
set_option maxRecDepth 100000 in
theorem c_X5_goBack_u (l : Launch) (D : va_G) (kI kB : ClassId) (o5 : Nat) (th : Nat) (pa : Nat) (im : Nat) (sd : Int) (st : Bool) (o : Nat) (pp : Nat) (i : Int) (rr : -2147483648 ≤ i ∧ i ≤ 2147483647) (hb : ¬ (0 ≤ i ∧ i ≤ 1)) : gI l yX5_goBack wsX5_goBack ({ frames := 1, cells := 0, slots := 0, locals := 20 } : Room) D kI kB [.ref o5, .int (zI i)] [(o5, .inr (5, [.ref pp, .ref o, .ref th, .ref pa, .ref im, .int (zI sd), .int (bI st)]))] (zI (-1000000001)) := by
  refine g_start (cc := cX5_goBack) (maxL := 2) (ret := (some .int)) (by decide) rfl (Nat.le_of_ble_eq_true rfl) ?_
  intro xp xe xs xm xbl xmt xc xX xB xR xM xT xO xL xN wP wD wK ls wl
  have wS : va_S (fun _ => False) xs.heap xs.heap [] := va_S.rf
  have wl : lv_has ls 2 [(0, .ref o5), (1, .int (zI i))] := wl
  refine lv_iload_n xX xB dX5_goBack_0 rfl (lv_at wl 1 rfl) ?_
  refine g_pure (va_runS (As := [.int (zI i)]) (rest := []) ⟨xX, xB, xM, xO, xT⟩ (c_X5_isImage l D kI kB i rr) (va_cwS 1 xT gX5_goBack_X5_isImage rfl rfl rfl hdn_X5_isImage ⟨Nat.le_of_ble_eq_true rfl, Nat.le_of_ble_eq_true rfl⟩) (g_preS wP wD wK [] (by decide) rfl) rfl rfl wl.1 rfl (lv_room (Nat.le_of_ble_eq_true rfl)) dX5_goBack_1 ⟨Nat.le_of_ble_eq_true rfl, Nat.le_of_ble_eq_true rfl⟩) wP wS (fun H locs wP wS => ?_)
  refine b_if_ne (tgt := 10) xX xB dX5_goBack_4 (by decide) (fun h4 => ?_) (fun h4 => ?_)
  · exact absurd h4 (fun z => hb (by have := of_decide_eq_true z; omega))
  · skip
    refine z_ldc xX xB (-1000000001) (by decide) xO (xT _ (List.mem_of_getElem? (i := 1) rfl)) dX5_goBack_7 ?_
    exact g_iret xX xB xR xL wS dX5_goBack_9 rfl

set_option maxHeartbeats 4000000 in
set_option maxRecDepth 100000 in
theorem c_X5_goBack_n (l : Launch) (D : va_G) (kI kB : ClassId) (o5 : Nat) (th : Nat) (pa : Nat) (im : Nat) (sd : Int) (st : Bool) (o : Nat) (pp : Nat) (i0 : Nat) (i1 : Nat) (i2 : Nat) (KB : Nat → Bool) (i : Nat) (hi : i < 2) (hb : KB i = false) : gI l yX5_goBack wsX5_goBack ({ frames := 2, cells := 0, slots := 0, locals := 41 } : Room) D kI kB [.ref o5, .int (zI (i : Int))] [(o5, .inr (5, [.ref pp, .ref o, .ref th, .ref pa, .ref im, .int (zI sd), .int (bI st)])), (im, .inr (0, [.ref i0, .ref i1, .ref i2])), (i2, .inl (kB, 2, .inl (aB KB)))] (zI (-1000000003)) := by
  refine g_start (cc := cX5_goBack) (maxL := 2) (ret := (some .int)) (by decide) rfl (Nat.le_of_ble_eq_true rfl) ?_
  intro xp xe xs xm xbl xmt xc xX xB xR xM xT xO xL xN wP wD wK ls wl
  have wS : va_S (fun _ => False) xs.heap xs.heap [] := va_S.rf
  have wl : lv_has ls 2 [(0, .ref o5), (1, .int (zI (i : Int)))] := wl
  refine lv_iload_n xX xB dX5_goBack_0 rfl (lv_at wl 1 rfl) ?_
  refine g_pure (va_runS (As := [.int (zI (i : Int))]) (rest := []) ⟨xX, xB, xM, xO, xT⟩ (c_X5_isImage l D kI kB (i : Int) (by omega)) (va_cwS 1 xT gX5_goBack_X5_isImage rfl rfl rfl hdn_X5_isImage ⟨Nat.le_of_ble_eq_true rfl, Nat.le_of_ble_eq_true rfl⟩) (g_preS wP wD wK [] (by decide) rfl) rfl rfl wl.1 rfl (lv_room (Nat.le_of_ble_eq_true rfl)) dX5_goBack_1 ⟨Nat.le_of_ble_eq_true rfl, Nat.le_of_ble_eq_true rfl⟩) wP wS (fun H locs wP wS => ?_)
  refine b_if_ne (tgt := 10) xX xB dX5_goBack_4 (by decide) (fun h4 => ?_) (fun h4 => ?_)
  · skip
    refine lv_aload_n xX xB dX5_goBack_10 rfl (lv_at wl 0 rfl) ?_
    refine va_get (D := D) (ci := 5) (v := .ref im) (C := RX5) (T := TX5) (N := 7) xX xB xT in_X5_goBack_X5 xO wK.1 wP 0 rfl rfl 4 (by decide) (xT _ (List.mem_of_getElem? (i := 2) rfl)) (fun _ h9 => h9) rfl dX5_goBack_11 ?_
    refine lv_iload_n xX xB dX5_goBack_14 rfl (lv_at wl 1 rfl) ?_
    refine g_pure (va_runV (As := [.int (zI (i : Int))]) (rest := []) ⟨xX, xB, xM, xO, xT⟩ (c_X0_isTaken l D kI kB im i0 i1 i2 KB i hi) (cwV 1 xT gX5_goBack_X0_isTaken rfl rfl rfl hd_X0_isTaken ⟨Nat.le_of_ble_eq_true rfl, Nat.le_of_ble_eq_true rfl⟩) (g_preV (ci := 0) (q0 := 1) wP wD wK [1, 2] (by decide) rfl rfl rfl) rfl rfl wl.1 rfl (lv_room (Nat.le_of_ble_eq_true rfl)) dX5_goBack_15 ⟨Nat.le_of_ble_eq_true rfl, Nat.le_of_ble_eq_true rfl⟩) wP wS (fun H locs wP wS => ?_)
    refine b_if_ne (tgt := 24) xX xB dX5_goBack_18 (by decide) (fun h18 => ?_) (fun h18 => ?_)
    · exact absurd h18 (by rw [hb]; decide)
    · skip
      refine z_ldc xX xB (-1000000003) (by decide) xO (xT _ (List.mem_of_getElem? (i := 3) rfl)) dX5_goBack_21 ?_
      exact g_iret xX xB xR xL wS dX5_goBack_23 rfl
  · exact absurd h4 (by rw [decide_eq_true (by omega)]; decide)

set_option maxHeartbeats 4000000 in
set_option maxRecDepth 100000 in
theorem c_X5_goBack (l : Launch) (D : va_G) (kI kB : ClassId) (o5 : Nat) (th : Nat) (pa : Nat) (im : Nat) (sd : Int) (st : Bool) (o : Nat) (ps : Nat) (ua : Nat) (um : Nat) (i0 : Nat) (i1 : Nat) (i2 : Nat) (pp : Nat) (q1 : Nat) (q2 : Nat) (F : Nat → Int) (jb : Int) (KP : Nat → Int) (KS : Nat → Int) (KB : Nat → Bool) (i : Nat) (hi : i < 2) (hb : KB i = true) : gM l yX5_goBack wsX5_goBack ({ frames := 3, cells := 0, slots := 0, locals := 62 } : Room) D kI kB [.ref o5, .int (zI (i : Int))] [(o5, .inr (5, [.ref pp, .ref o, .ref th, .ref pa, .ref im, .int (zI sd), .int (bI st)])), (pa, .inr (2, [.ref ps, .int (zI (ua : Int)), .int (zI (um : Int))])), (im, .inr (0, [.ref i0, .ref i1, .ref i2])), (i0, .inl (kI, 34, .inl (aZ KP))), (i1, .inl (kI, 2, .inl (aZ KS))), (i2, .inl (kB, 2, .inl (aB KB))), (pp, .inr (3, [.ref q1, .ref q2, .int (zI jb)])), (q1, .inl (kI, 16, .inl (aZ F)))] (fun (_ : Unit) => [(o5, .inr (5, [.ref pp, .ref o, .ref th, .ref pa, .ref im, .int (zI (KS i)), .int (bI true)])), (pa, .inr (2, [.ref ps, .int (zI (ua : Int)), .int (zI 0)])), (im, .inr (0, [.ref i0, .ref i1, .ref i2])), (i0, .inl (kI, 34, .inl (aZ KP))), (i1, .inl (kI, 2, .inl (aZ KS))), (i2, .inl (kB, 2, .inl (aB KB))), (pp, .inr (3, [.ref q1, .ref q2, .int (zI (KP (i * 17 + 16)))])), (q1, .inl (kI, 16, .inl (aZ (cpZ KP F (i * 17) 0 16))))]) (fun (r : Int32) (_ : Unit) => r = zI 1 ∧ True) := by
  refine g_start (cc := cX5_goBack) (maxL := 2) (ret := (some .int)) (by decide) rfl (Nat.le_of_ble_eq_true rfl) ?_
  intro xp xe xs xm xbl xmt xc xX xB xR xM xT xO xL xN wP wD wK ls wl
  have wS : va_S (gA [(o5, .inr (5, [.ref pp, .ref o, .ref th, .ref pa, .ref im, .int (zI sd), .int (bI st)])), (pa, .inr (2, [.ref ps, .int (zI (ua : Int)), .int (zI (um : Int))])), (im, .inr (0, [.ref i0, .ref i1, .ref i2])), (i0, .inl (kI, 34, .inl (aZ KP))), (i1, .inl (kI, 2, .inl (aZ KS))), (i2, .inl (kB, 2, .inl (aB KB))), (pp, .inr (3, [.ref q1, .ref q2, .int (zI jb)])), (q1, .inl (kI, 16, .inl (aZ F)))]) xs.heap xs.heap [] := va_S.rf
  have wl : lv_has ls 2 [(0, .ref o5), (1, .int (zI (i : Int)))] := wl
  refine lv_iload_n xX xB dX5_goBack_0 rfl (lv_at wl 1 rfl) ?_
  refine g_pure (va_runS (As := [.int (zI (i : Int))]) (rest := []) ⟨xX, xB, xM, xO, xT⟩ (c_X5_isImage l D kI kB (i : Int) (by omega)) (va_cwS 1 xT gX5_goBack_X5_isImage rfl rfl rfl hdn_X5_isImage ⟨Nat.le_of_ble_eq_true rfl, Nat.le_of_ble_eq_true rfl⟩) (g_preS wP wD wK [] (by decide) rfl) rfl rfl wl.1 rfl (lv_room (Nat.le_of_ble_eq_true rfl)) dX5_goBack_1 ⟨Nat.le_of_ble_eq_true rfl, Nat.le_of_ble_eq_true rfl⟩) wP wS (fun H locs wP wS => ?_)
  refine b_if_ne (tgt := 10) xX xB dX5_goBack_4 (by decide) (fun h4 => ?_) (fun h4 => ?_)
  · skip
    refine lv_aload_n xX xB dX5_goBack_10 rfl (lv_at wl 0 rfl) ?_
    refine va_get (D := D) (ci := 5) (v := .ref im) (C := RX5) (T := TX5) (N := 7) xX xB xT in_X5_goBack_X5 xO wK.1 wP 0 rfl rfl 4 (by decide) (xT _ (List.mem_of_getElem? (i := 2) rfl)) (fun _ h9 => h9) rfl dX5_goBack_11 ?_
    refine lv_iload_n xX xB dX5_goBack_14 rfl (lv_at wl 1 rfl) ?_
    refine g_pure (va_runV (As := [.int (zI (i : Int))]) (rest := []) ⟨xX, xB, xM, xO, xT⟩ (c_X0_isTaken l D kI kB im i0 i1 i2 KB i hi) (cwV 1 xT gX5_goBack_X0_isTaken rfl rfl rfl hd_X0_isTaken ⟨Nat.le_of_ble_eq_true rfl, Nat.le_of_ble_eq_true rfl⟩) (g_preV (ci := 0) (q0 := 2) wP wD wK [2, 5] (by decide) rfl rfl rfl) rfl rfl wl.1 rfl (lv_room (Nat.le_of_ble_eq_true rfl)) dX5_goBack_15 ⟨Nat.le_of_ble_eq_true rfl, Nat.le_of_ble_eq_true rfl⟩) wP wS (fun H locs wP wS => ?_)
    refine b_if_ne (tgt := 24) xX xB dX5_goBack_18 (by decide) (fun h18 => ?_) (fun h18 => ?_)
    · skip
      refine lv_aload_n xX xB dX5_goBack_24 rfl (lv_at wl 0 rfl) ?_
      refine va_get (D := D) (ci := 5) (v := .ref im) (C := RX5) (T := TX5) (N := 7) xX xB xT in_X5_goBack_X5 xO wK.1 wP 0 rfl rfl 4 (by decide) (xT _ (List.mem_of_getElem? (i := 2) rfl)) (fun _ h9 => h9) rfl dX5_goBack_25 ?_
      refine lv_iload_n xX xB dX5_goBack_28 rfl (lv_at wl 1 rfl) ?_
      refine lv_aload_n xX xB dX5_goBack_29 rfl (lv_at wl 0 rfl) ?_
      refine va_get (D := D) (ci := 5) (v := .ref pp) (C := RX5) (T := TX5) (N := 7) xX xB xT in_X5_goBack_X5 xO wK.1 wP 0 rfl rfl 0 (by decide) (xT _ (List.mem_of_getElem? (i := 4) rfl)) (fun _ h9 => h9) rfl dX5_goBack_30 ?_
      refine g_modv (va_runV (As := [.int (zI (i : Int)), .ref pp]) (rest := []) ⟨xX, xB, xM, xO, xT⟩ (c_X0_show l D kI kB im i0 i1 i2 KP pp q1 q2 F jb i hi) (cwV 2 xT gX5_goBack_X0_show rfl rfl rfl hd_X0_show ⟨Nat.le_of_ble_eq_true rfl, Nat.le_of_ble_eq_true rfl⟩) (g_preV (ci := 0) (q0 := 2) wP wD wK [2, 3, 6, 7] (by decide) rfl rfl rfl) rfl rfl wl.1 rfl (lv_room (Nat.le_of_ble_eq_true rfl)) dX5_goBack_33 ⟨Nat.le_of_ble_eq_true rfl, Nat.le_of_ble_eq_true rfl⟩) wP wD wS [2, 3, 6, 7] rfl (fun _ => rfl) (fun u_ H locs hc33 wP wD wS => ?_)
      try dsimp only at hc33
      have wP : va_P D gC [(o5, .inr (5, [.ref pp, .ref o, .ref th, .ref pa, .ref im, .int (zI sd), .int (bI st)])), (pa, .inr (2, [.ref ps, .int (zI (ua : Int)), .int (zI (um : Int))])), (im, .inr (0, [.ref i0, .ref i1, .ref i2])), (i0, .inl (kI, 34, .inl (aZ KP))), (i1, .inl (kI, 2, .inl (aZ KS))), (i2, .inl (kB, 2, .inl (aB KB))), (pp, .inr (3, [.ref q1, .ref q2, .int (zI (KP (i * 17 + 16)))])), (q1, .inl (kI, 16, .inl (aZ (cpZ KP F (i * 17) 0 16))))] H := wP
      have wD : va_D (gA [(o5, .inr (5, [.ref pp, .ref o, .ref th, .ref pa, .ref im, .int (zI sd), .int (bI st)])), (pa, .inr (2, [.ref ps, .int (zI (ua : Int)), .int (zI (um : Int))])), (im, .inr (0, [.ref i0, .ref i1, .ref i2])), (i0, .inl (kI, 34, .inl (aZ KP))), (i1, .inl (kI, 2, .inl (aZ KS))), (i2, .inl (kB, 2, .inl (aB KB))), (pp, .inr (3, [.ref q1, .ref q2, .int (zI jb)])), (q1, .inl (kI, 16, .inl (aZ F)))]) [(o5, .inr (5, [.ref pp, .ref o, .ref th, .ref pa, .ref im, .int (zI sd), .int (bI st)])), (pa, .inr (2, [.ref ps, .int (zI (ua : Int)), .int (zI (um : Int))])), (im, .inr (0, [.ref i0, .ref i1, .ref i2])), (i0, .inl (kI, 34, .inl (aZ KP))), (i1, .inl (kI, 2, .inl (aZ KS))), (i2, .inl (kB, 2, .inl (aB KB))), (pp, .inr (3, [.ref q1, .ref q2, .int (zI (KP (i * 17 + 16)))])), (q1, .inl (kI, 16, .inl (aZ (cpZ KP F (i * 17) 0 16))))] := wD
      refine lv_aload_n xX xB dX5_goBack_36 rfl (lv_at wl 0 rfl) ?_
      refine lv_aload_n xX xB dX5_goBack_37 rfl (lv_at wl 0 rfl) ?_
      refine va_get (D := D) (ci := 5) (v := .ref im) (C := RX5) (T := TX5) (N := 7) xX xB xT in_X5_goBack_X5 xO wK.1 wP 0 rfl rfl 4 (by decide) (xT _ (List.mem_of_getElem? (i := 2) rfl)) (fun _ h9 => h9) rfl dX5_goBack_38 ?_
      refine lv_iload_n xX xB dX5_goBack_41 rfl (lv_at wl 1 rfl) ?_
      refine g_pure (va_runV (As := [.int (zI (i : Int))]) (rest := [.ref o5]) ⟨xX, xB, xM, xO, xT⟩ (c_X0_seedOf l D kI kB im i0 i1 i2 KS i hi) (cwV 1 xT gX5_goBack_X0_seedOf rfl rfl rfl hd_X0_seedOf ⟨Nat.le_of_ble_eq_true rfl, Nat.le_of_ble_eq_true rfl⟩) (g_preV (ci := 0) (q0 := 2) wP wD wK [2, 4] (by decide) rfl rfl rfl) rfl rfl wl.1 rfl (lv_room (Nat.le_of_ble_eq_true rfl)) dX5_goBack_42 ⟨Nat.le_of_ble_eq_true rfl, Nat.le_of_ble_eq_true rfl⟩) wP wS (fun H locs wP wS => ?_)
      refine va_put (D := D) (ci := 5) (v := .int (zI (KS i))) (ty := .int) (C := RX5) (T := TX5) (N := 7) xX xB xT in_X5_goBack_X5 tyX5 tyX5_ok nmX5 xO wK.1 wP wD wS 0 rfl rfl 5 (by decide) (xT _ (List.mem_of_getElem? (i := 5) rfl)) (fun _ h9 => h9) rfl (by decide +kernel) rfl rfl (Nat.le_of_ble_eq_true rfl) dX5_goBack_45 (fun H locs wP wD wS => ?_)
      have wP : va_P D gC [(o5, .inr (5, [.ref pp, .ref o, .ref th, .ref pa, .ref im, .int (zI (KS i)), .int (bI st)])), (pa, .inr (2, [.ref ps, .int (zI (ua : Int)), .int (zI (um : Int))])), (im, .inr (0, [.ref i0, .ref i1, .ref i2])), (i0, .inl (kI, 34, .inl (aZ KP))), (i1, .inl (kI, 2, .inl (aZ KS))), (i2, .inl (kB, 2, .inl (aB KB))), (pp, .inr (3, [.ref q1, .ref q2, .int (zI (KP (i * 17 + 16)))])), (q1, .inl (kI, 16, .inl (aZ (cpZ KP F (i * 17) 0 16))))] H := wP
      have wD : va_D (gA [(o5, .inr (5, [.ref pp, .ref o, .ref th, .ref pa, .ref im, .int (zI sd), .int (bI st)])), (pa, .inr (2, [.ref ps, .int (zI (ua : Int)), .int (zI (um : Int))])), (im, .inr (0, [.ref i0, .ref i1, .ref i2])), (i0, .inl (kI, 34, .inl (aZ KP))), (i1, .inl (kI, 2, .inl (aZ KS))), (i2, .inl (kB, 2, .inl (aB KB))), (pp, .inr (3, [.ref q1, .ref q2, .int (zI jb)])), (q1, .inl (kI, 16, .inl (aZ F)))]) [(o5, .inr (5, [.ref pp, .ref o, .ref th, .ref pa, .ref im, .int (zI (KS i)), .int (bI st)])), (pa, .inr (2, [.ref ps, .int (zI (ua : Int)), .int (zI (um : Int))])), (im, .inr (0, [.ref i0, .ref i1, .ref i2])), (i0, .inl (kI, 34, .inl (aZ KP))), (i1, .inl (kI, 2, .inl (aZ KS))), (i2, .inl (kB, 2, .inl (aB KB))), (pp, .inr (3, [.ref q1, .ref q2, .int (zI (KP (i * 17 + 16)))])), (q1, .inl (kI, 16, .inl (aZ (cpZ KP F (i * 17) 0 16))))] := wD
      refine lv_aload_n xX xB dX5_goBack_48 rfl (lv_at wl 0 rfl) ?_
      refine va_get (D := D) (ci := 5) (v := .ref pa) (C := RX5) (T := TX5) (N := 7) xX xB xT in_X5_goBack_X5 xO wK.1 wP 0 rfl rfl 3 (by decide) (xT _ (List.mem_of_getElem? (i := 6) rfl)) (fun _ h9 => h9) rfl dX5_goBack_49 ?_
      refine g_modv (va_runV (As := []) (rest := []) ⟨xX, xB, xM, xO, xT⟩ (c_X2_forget l D kI kB pa ps ua um) (cwV 0 xT gX5_goBack_X2_forget rfl rfl rfl hd_X2_forget ⟨Nat.le_of_ble_eq_true rfl, Nat.le_of_ble_eq_true rfl⟩) (g_preV (ci := 2) (q0 := 1) wP wD wK [1] (by decide) rfl rfl rfl) rfl rfl wl.1 rfl (lv_room (Nat.le_of_ble_eq_true rfl)) dX5_goBack_52 ⟨Nat.le_of_ble_eq_true rfl, Nat.le_of_ble_eq_true rfl⟩) wP wD wS [1] rfl (fun _ => rfl) (fun u_ H locs hc52 wP wD wS => ?_)
      try dsimp only at hc52
      have wP : va_P D gC [(o5, .inr (5, [.ref pp, .ref o, .ref th, .ref pa, .ref im, .int (zI (KS i)), .int (bI st)])), (pa, .inr (2, [.ref ps, .int (zI (ua : Int)), .int (zI 0)])), (im, .inr (0, [.ref i0, .ref i1, .ref i2])), (i0, .inl (kI, 34, .inl (aZ KP))), (i1, .inl (kI, 2, .inl (aZ KS))), (i2, .inl (kB, 2, .inl (aB KB))), (pp, .inr (3, [.ref q1, .ref q2, .int (zI (KP (i * 17 + 16)))])), (q1, .inl (kI, 16, .inl (aZ (cpZ KP F (i * 17) 0 16))))] H := wP
      have wD : va_D (gA [(o5, .inr (5, [.ref pp, .ref o, .ref th, .ref pa, .ref im, .int (zI sd), .int (bI st)])), (pa, .inr (2, [.ref ps, .int (zI (ua : Int)), .int (zI (um : Int))])), (im, .inr (0, [.ref i0, .ref i1, .ref i2])), (i0, .inl (kI, 34, .inl (aZ KP))), (i1, .inl (kI, 2, .inl (aZ KS))), (i2, .inl (kB, 2, .inl (aB KB))), (pp, .inr (3, [.ref q1, .ref q2, .int (zI jb)])), (q1, .inl (kI, 16, .inl (aZ F)))]) [(o5, .inr (5, [.ref pp, .ref o, .ref th, .ref pa, .ref im, .int (zI (KS i)), .int (bI st)])), (pa, .inr (2, [.ref ps, .int (zI (ua : Int)), .int (zI 0)])), (im, .inr (0, [.ref i0, .ref i1, .ref i2])), (i0, .inl (kI, 34, .inl (aZ KP))), (i1, .inl (kI, 2, .inl (aZ KS))), (i2, .inl (kB, 2, .inl (aB KB))), (pp, .inr (3, [.ref q1, .ref q2, .int (zI (KP (i * 17 + 16)))])), (q1, .inl (kI, 16, .inl (aZ (cpZ KP F (i * 17) 0 16))))] := wD
      refine lv_aload_n xX xB dX5_goBack_55 rfl (lv_at wl 0 rfl) ?_
      refine z_iconst xX xB dX5_goBack_56 ?_
      refine lv_ri (y := bI true) rfl ?_
      refine va_put (D := D) (ci := 5) (v := .int (bI true)) (ty := .boolean) (C := RX5) (T := TX5) (N := 7) xX xB xT in_X5_goBack_X5 tyX5 tyX5_ok nmX5 xO wK.1 wP wD wS 0 rfl rfl 6 (by decide) (xT _ (List.mem_of_getElem? (i := 7) rfl)) (fun _ h9 => h9) rfl (by decide +kernel) (bI_narrow _) (bI_fits _) (Nat.le_of_ble_eq_true rfl) dX5_goBack_57 (fun H locs wP wD wS => ?_)
      have wP : va_P D gC [(o5, .inr (5, [.ref pp, .ref o, .ref th, .ref pa, .ref im, .int (zI (KS i)), .int (bI true)])), (pa, .inr (2, [.ref ps, .int (zI (ua : Int)), .int (zI 0)])), (im, .inr (0, [.ref i0, .ref i1, .ref i2])), (i0, .inl (kI, 34, .inl (aZ KP))), (i1, .inl (kI, 2, .inl (aZ KS))), (i2, .inl (kB, 2, .inl (aB KB))), (pp, .inr (3, [.ref q1, .ref q2, .int (zI (KP (i * 17 + 16)))])), (q1, .inl (kI, 16, .inl (aZ (cpZ KP F (i * 17) 0 16))))] H := wP
      have wD : va_D (gA [(o5, .inr (5, [.ref pp, .ref o, .ref th, .ref pa, .ref im, .int (zI sd), .int (bI st)])), (pa, .inr (2, [.ref ps, .int (zI (ua : Int)), .int (zI (um : Int))])), (im, .inr (0, [.ref i0, .ref i1, .ref i2])), (i0, .inl (kI, 34, .inl (aZ KP))), (i1, .inl (kI, 2, .inl (aZ KS))), (i2, .inl (kB, 2, .inl (aB KB))), (pp, .inr (3, [.ref q1, .ref q2, .int (zI jb)])), (q1, .inl (kI, 16, .inl (aZ F)))]) [(o5, .inr (5, [.ref pp, .ref o, .ref th, .ref pa, .ref im, .int (zI (KS i)), .int (bI true)])), (pa, .inr (2, [.ref ps, .int (zI (ua : Int)), .int (zI 0)])), (im, .inr (0, [.ref i0, .ref i1, .ref i2])), (i0, .inl (kI, 34, .inl (aZ KP))), (i1, .inl (kI, 2, .inl (aZ KS))), (i2, .inl (kB, 2, .inl (aB KB))), (pp, .inr (3, [.ref q1, .ref q2, .int (zI (KP (i * 17 + 16)))])), (q1, .inl (kI, 16, .inl (aZ (cpZ KP F (i * 17) 0 16))))] := wD
      refine z_iconst xX xB dX5_goBack_60 ?_
      exact g_mret () xX xB xR xL wP wS dX5_goBack_61 ⟨rfl, trivial⟩
    · exact absurd h18 (by rw [hb]; decide)
  · exact absurd h4 (by rw [decide_eq_true (by omega)]; decide)
