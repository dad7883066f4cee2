set_option maxRecDepth 20000 in
theorem in_X3_cornersJoin_X3 : ∀ w ∈ u_ws RX3 TX3 3, w ∈ wsX3_cornersJoin := by decide +kernel
set_option maxRecDepth 20000 in
theorem in_X3_line_X3 : ∀ w ∈ u_ws RX3 TX3 3, w ∈ wsX3_line := by decide +kernel
set_option maxRecDepth 20000 in
theorem in_X3_putLine_X3 : ∀ w ∈ u_ws RX3 TX3 3, w ∈ wsX3_putLine := by decide +kernel
set_option maxRecDepth 20000 in
theorem in_X3_darkDots_X3 : ∀ w ∈ u_ws RX3 TX3 3, w ∈ wsX3_darkDots := by decide +kernel
set_option maxRecDepth 20000 in
theorem in_X3_allRuns_X3 : ∀ w ∈ u_ws RX3 TX3 3, w ∈ wsX3_allRuns := by decide +kernel
set_option maxRecDepth 20000 in
theorem in_X3_becomeNext_X3 : ∀ w ∈ u_ws RX3 TX3 3, w ∈ wsX3_becomeNext := by decide +kernel
set_option maxRecDepth 20000 in
theorem in_X3_becomeGrown_X3 : ∀ w ∈ u_ws RX3 TX3 3, w ∈ wsX3_becomeGrown := by decide +kernel
set_option maxRecDepth 20000 in
theorem in_X3_becomeShrunk_X3 : ∀ w ∈ u_ws RX3 TX3 3, w ∈ wsX3_becomeShrunk := by decide +kernel
set_option maxRecDepth 20000 in
theorem in_X3_becomeMoved_X3 : ∀ w ∈ u_ws RX3 TX3 3, w ∈ wsX3_becomeMoved := by decide +kernel
set_option maxRecDepth 20000 in
theorem in_X3_becomeOver_X3 : ∀ w ∈ u_ws RX3 TX3 3, w ∈ wsX3_becomeOver := by decide +kernel
set_option maxRecDepth 20000 in
theorem in_X3_layBy_X3 : ∀ w ∈ u_ws RX3 TX3 3, w ∈ wsX3_layBy := by decide +kernel
set_option maxRecDepth 20000 in
theorem in_X3_takeUp_X3 : ∀ w ∈ u_ws RX3 TX3 3, w ∈ wsX3_takeUp := by decide +kernel
theorem hdn_J6_bitCount_0f7a4 : yJ6_bitCount_0f7a4.cls ≠ "java/lang/invoke/MethodHandle" ∧ yJ6_bitCount_0f7a4.cls ≠ "java/lang/invoke/VarHandle" ∧ (parseMethodDescriptor yJ6_bitCount_0f7a4.desc).map (fun d => d.parameters.length) = some 1 := by decide +kernel
theorem hd_X3_line : yX3_line.cls = RX3 ∧ yX3_line.cls ≠ "java/lang/invoke/MethodHandle" ∧ yX3_line.cls ≠ "java/lang/invoke/VarHandle" ∧ (parseMethodDescriptor yX3_line.desc).map (fun d => d.parameters.length) = some 1 := by decide +kernel
theorem hd_X3_putLine : yX3_putLine.cls = RX3 ∧ yX3_putLine.cls ≠ "java/lang/invoke/MethodHandle" ∧ yX3_putLine.cls ≠ "java/lang/invoke/VarHandle" ∧ (parseMethodDescriptor yX3_putLine.desc).map (fun d => d.parameters.length) = some 2 := by decide +kernel
theorem hdn_X5_runsOf : yX5_runsOf.cls ≠ "java/lang/invoke/MethodHandle" ∧ yX5_runsOf.cls ≠ "java/lang/invoke/VarHandle" ∧ (parseMethodDescriptor yX5_runsOf.desc).map (fun d => d.parameters.length) = some 1 := by decide +kernel
theorem hd_X3_becomeNext : yX3_becomeNext.cls = RX3 ∧ yX3_becomeNext.cls ≠ "java/lang/invoke/MethodHandle" ∧ yX3_becomeNext.cls ≠ "java/lang/invoke/VarHandle" ∧ (parseMethodDescriptor yX3_becomeNext.desc).map (fun d => d.parameters.length) = some 0 := by decide +kernel
theorem hd_X3_cornersJoin : yX3_cornersJoin.cls = RX3 ∧ yX3_cornersJoin.cls ≠ "java/lang/invoke/MethodHandle" ∧ yX3_cornersJoin.cls ≠ "java/lang/invoke/VarHandle" ∧ (parseMethodDescriptor yX3_cornersJoin.desc).map (fun d => d.parameters.length) = some 0 := by decide +kernel
theorem hdn_X3_widened : yX3_widened.cls ≠ "java/lang/invoke/MethodHandle" ∧ yX3_widened.cls ≠ "java/lang/invoke/VarHandle" ∧ (parseMethodDescriptor yX3_widened.desc).map (fun d => d.parameters.length) = some 1 := by decide +kernel
theorem hdn_X3_narrowed : yX3_narrowed.cls ≠ "java/lang/invoke/MethodHandle" ∧ yX3_narrowed.cls ≠ "java/lang/invoke/VarHandle" ∧ (parseMethodDescriptor yX3_narrowed.desc).map (fun d => d.parameters.length) = some 1 := by decide +kernel
theorem hdn_X3_slid : yX3_slid.cls ≠ "java/lang/invoke/MethodHandle" ∧ yX3_slid.cls ≠ "java/lang/invoke/VarHandle" ∧ (parseMethodDescriptor yX3_slid.desc).map (fun d => d.parameters.length) = some 2 := by decide +kernel
set_option maxHeartbeats 4000000 in
set_option maxRecDepth 100000 in
theorem c_X5_isLine (l : Launch) (D : va_G) (kI kB : ClassId) (n : Int) (rn : -2147483648 ≤ n ∧ n ≤ 2147483647) : gI l yX5_isLine wsX5_isLine ({ frames := 0, cells := 0, slots := 0, locals := 0 } : Room) D kI kB [.int (zI n)] [] (bI (decide (0 ≤ n ∧ n < 16))) := by
  refine g_start (cc := cX5_isLine) (maxL := 1) (ret := (some .boolean)) (by decide) rfl (Nat.le_of_ble_eq_true rfl) ?_
  intro xp xe xs xm xbl xmt xc xX xB xR xM xT xO xL xN wP wD wK ls wl
  have wS : va_S (fun _ => False) xs.heap xs.heap [] := va_S.rf
  have wl : lv_has ls 1 [(0, .int (zI n))] := wl
  refine lv_iload_n xX xB dX5_isLine_0 rfl (lv_at wl 0 rfl) ?_
  refine z_if_lt (tgt := 14) xX xB dX5_isLine_1 (by decide) (by omega) (fun h1 => ?_) (fun h1 => ?_)
  · skip
    refine z_iconst xX xB dX5_isLine_14 ?_
    refine lv_ri (y := bI false) rfl ?_
    exact g_zret xX xB xR xL wS dX5_isLine_15 (decide_eq_false (by omega)).symm
  · skip
    refine lv_iload_n xX xB dX5_isLine_4 rfl (lv_at wl 0 rfl) ?_
    refine z_bipush xX xB dX5_isLine_5 (by decide) ?_
    refine t_icmp_ge xX xB dX5_isLine_7 dX5_isLine_10 dX5_isLine_11 dX5_isLine_14 (by omega) (by omega) ?_
    exact g_zret xX xB xR xL wS dX5_isLine_15 (decide_eq_decide.mpr (by omega))

set_option maxHeartbeats 4000000 in
set_option maxRecDepth 100000 in
theorem c_X5_isImage (l : Launch) (D : va_G) (kI kB : ClassId) (n : Int) (rn : -2147483648 ≤ n ∧ n ≤ 2147483647) : gI l yX5_isImage wsX5_isImage ({ frames := 0, cells := 0, slots := 0, locals := 0 } : Room) D kI kB [.int (zI n)] [] (bI (decide (0 ≤ n ∧ n < 2))) := by
  refine g_start (cc := cX5_isImage) (maxL := 1) (ret := (some .boolean)) (by decide) rfl (Nat.le_of_ble_eq_true rfl) ?_
  intro xp xe xs xm xbl xmt xc xX xB xR xM xT xO xL xN wP wD wK ls wl
  have wS : va_S (fun _ => False) xs.heap xs.heap [] := va_S.rf
  have wl : lv_has ls 1 [(0, .int (zI n))] := wl
  refine lv_iload_n xX xB dX5_isImage_0 rfl (lv_at wl 0 rfl) ?_
  refine z_if_lt (tgt := 13) xX xB dX5_isImage_1 (by decide) (by omega) (fun h1 => ?_) (fun h1 => ?_)
  · skip
    refine z_iconst xX xB dX5_isImage_13 ?_
    refine lv_ri (y := bI false) rfl ?_
    exact g_zret xX xB xR xL wS dX5_isImage_14 (decide_eq_false (by omega)).symm
  · skip
    refine lv_iload_n xX xB dX5_isImage_4 rfl (lv_at wl 0 rfl) ?_
    refine z_iconst xX xB dX5_isImage_5 ?_
    refine t_icmp_ge xX xB dX5_isImage_6 dX5_isImage_9 dX5_isImage_10 dX5_isImage_13 (by omega) (by omega) ?_
    exact g_zret xX xB xR xL wS dX5_isImage_14 (decide_eq_decide.mpr (by omega))

set_option maxHeartbeats 4000000 in
set_option maxRecDepth 100000 in
theorem c_J6_bitCount_0f7a4 (l : Launch) (D : va_G) (kI kB : ClassId) (n : Nat) (hn : n < 65536) : gI l yJ6_bitCount_0f7a4 wsJ6_bitCount_0f7a4 ({ frames := 0, cells := 0, slots := 0, locals := 0 } : Room) D kI kB [.int (zI (n : Int))] [] (zI ((pop n : Nat) : Int)) := by
  refine g_start (cc := cJ6_bitCount_0f7a4) (maxL := 1) (ret := (some .int)) (by decide) rfl (Nat.le_of_ble_eq_true rfl) ?_
  intro xp xe xs xm xbl xmt xc xX xB xR xM xT xO xL xN wP wD wK ls wl
  have wS : va_S (fun _ => False) xs.heap xs.heap [] := va_S.rf
  have wl : lv_has ls 1 [(0, .int (zI (n : Int)))] := wl
  refine lv_iload_n xX xB dJ6_bitCount_0f7a4_0 rfl (lv_at wl 0 rfl) ?_
  refine lv_iload_n xX xB dJ6_bitCount_0f7a4_1 rfl (lv_at wl 0 rfl) ?_
  refine z_iconst xX xB dJ6_bitCount_0f7a4_2 ?_
  refine lv_iushr (v := zI ((n >>> 1 : Nat) : Int)) xX xB dJ6_bitCount_0f7a4_3 (zb_ushr (by omega) 1 (by decide)) ?_
  refine z_ldcw xX xB (1431655765) (by decide) xO (xT _ (List.mem_of_getElem? (i := 1) rfl)) dJ6_bitCount_0f7a4_4 ?_
  refine lv_iand xX xB dJ6_bitCount_0f7a4_7 ?_
  refine lv_ri (y := zI (((n >>> 1) &&& 1431655765 : Nat) : Int)) (zb_and _ _) ?_
  refine z_isub xX xB dJ6_bitCount_0f7a4_8 ?_
  refine lv_ri (y := zI (swa n : Int)) (congrArg zI ((Int.natCast_sub (sw_sub n)).symm)) ?_
  refine lv_istore_n (lv' := [(0, .int (zI ((swa n : Nat) : Int)))]) xX xB dJ6_bitCount_0f7a4_9 rfl wl (by decide) rfl (fun ls wl => ?_)
  refine lv_iload_n xX xB dJ6_bitCount_0f7a4_10 rfl (lv_at wl 0 rfl) ?_
  refine z_ldcw xX xB (858993459) (by decide) xO (xT _ (List.mem_of_getElem? (i := 2) rfl)) dJ6_bitCount_0f7a4_11 ?_
  refine lv_iand xX xB dJ6_bitCount_0f7a4_14 ?_
  refine lv_ri (y := zI (((swa n) &&& 858993459 : Nat) : Int)) (zb_and _ _) ?_
  refine lv_iload_n xX xB dJ6_bitCount_0f7a4_15 rfl (lv_at wl 0 rfl) ?_
  refine z_iconst xX xB dJ6_bitCount_0f7a4_16 ?_
  refine lv_iushr (v := zI (((swa n) >>> 2 : Nat) : Int)) xX xB dJ6_bitCount_0f7a4_17 (zb_ushr (by have := swa_le n; omega) 2 (by decide)) ?_
  refine z_ldcw xX xB (858993459) (by decide) xO (xT _ (List.mem_of_getElem? (i := 2) rfl)) dJ6_bitCount_0f7a4_18 ?_
  refine lv_iand xX xB dJ6_bitCount_0f7a4_21 ?_
  refine lv_ri (y := zI ((((swa n) >>> 2) &&& 858993459 : Nat) : Int)) (zb_and _ _) ?_
  refine z_iadd xX xB dJ6_bitCount_0f7a4_22 ?_
  refine lv_ri (y := zI (swb n : Int)) (congrArg zI (rfl)) ?_
  refine lv_istore_n (lv' := [(0, .int (zI ((swb n : Nat) : Int)))]) xX xB dJ6_bitCount_0f7a4_23 rfl wl (by decide) rfl (fun ls wl => ?_)
  refine lv_iload_n xX xB dJ6_bitCount_0f7a4_24 rfl (lv_at wl 0 rfl) ?_
  refine lv_iload_n xX xB dJ6_bitCount_0f7a4_25 rfl (lv_at wl 0 rfl) ?_
  refine z_iconst xX xB dJ6_bitCount_0f7a4_26 ?_
  refine lv_iushr (v := zI (((swb n) >>> 4 : Nat) : Int)) xX xB dJ6_bitCount_0f7a4_27 (zb_ushr (by have := swb_le n; omega) 4 (by decide)) ?_
  refine z_iadd xX xB dJ6_bitCount_0f7a4_28 ?_
  refine z_ldcw xX xB (252645135) (by decide) xO (xT _ (List.mem_of_getElem? (i := 3) rfl)) dJ6_bitCount_0f7a4_29 ?_
  refine lv_iand xX xB dJ6_bitCount_0f7a4_32 ?_
  refine lv_ri (y := zI ((((swb n) + ((swb n) >>> 4)) &&& 252645135 : Nat) : Int)) (zb_and _ _) ?_
  refine lv_ri (y := zI (swc n : Int)) (congrArg zI (rfl)) ?_
  refine lv_istore_n (lv' := [(0, .int (zI ((swc n : Nat) : Int)))]) xX xB dJ6_bitCount_0f7a4_33 rfl wl (by decide) rfl (fun ls wl => ?_)
  refine lv_iload_n xX xB dJ6_bitCount_0f7a4_34 rfl (lv_at wl 0 rfl) ?_
  refine lv_iload_n xX xB dJ6_bitCount_0f7a4_35 rfl (lv_at wl 0 rfl) ?_
  refine z_bipush xX xB dJ6_bitCount_0f7a4_36 (by decide) ?_
  refine lv_iushr (v := zI (((swc n) >>> 8 : Nat) : Int)) xX xB dJ6_bitCount_0f7a4_38 (zb_ushr (by have := swc_le n; omega) 8 (by decide)) ?_
  refine z_iadd xX xB dJ6_bitCount_0f7a4_39 ?_
  refine lv_ri (y := zI (swd n : Int)) (congrArg zI (rfl)) ?_
  refine lv_istore_n (lv' := [(0, .int (zI ((swd n : Nat) : Int)))]) xX xB dJ6_bitCount_0f7a4_40 rfl wl (by decide) rfl (fun ls wl => ?_)
  refine lv_iload_n xX xB dJ6_bitCount_0f7a4_41 rfl (lv_at wl 0 rfl) ?_
  refine lv_iload_n xX xB dJ6_bitCount_0f7a4_42 rfl (lv_at wl 0 rfl) ?_
  refine z_bipush xX xB dJ6_bitCount_0f7a4_43 (by decide) ?_
  refine lv_iushr (v := zI (((swd n) >>> 16 : Nat) : Int)) xX xB dJ6_bitCount_0f7a4_45 (zb_ushr (by have := swd_le n; omega) 16 (by decide)) ?_
  refine z_iadd xX xB dJ6_bitCount_0f7a4_46 ?_
  refine lv_ri (y := zI (swe n : Int)) (congrArg zI (rfl)) ?_
  refine lv_istore_n (lv' := [(0, .int (zI ((swe n : Nat) : Int)))]) xX xB dJ6_bitCount_0f7a4_47 rfl wl (by decide) rfl (fun ls wl => ?_)
  refine lv_iload_n xX xB dJ6_bitCount_0f7a4_48 rfl (lv_at wl 0 rfl) ?_
  refine z_bipush xX xB dJ6_bitCount_0f7a4_49 (by decide) ?_
  refine lv_iand xX xB dJ6_bitCount_0f7a4_51 ?_
  refine lv_ri (y := zI (((swe n) &&& 63 : Nat) : Int)) (zb_and _ _) ?_
  exact g_iret xX xB xR xL wS dJ6_bitCount_0f7a4_52 (congrArg zI (congrArg Int.ofNat (sw_pop hn)))

set_option maxHeartbeats 4000000 in
set_option maxRecDepth 100000 in
theorem c_X5_runsOf (l : Launch) (D : va_G) (kI kB : ClassId) (n : Nat) (hn : n < 65536) : gI l yX5_runsOf wsX5_runsOf ({ frames := 1, cells := 0, slots := 0, locals := 20 } : Room) D kI kB [.int (zI (n : Int))] [] (zI ((rnN n : Nat) : Int)) := by
  refine g_start (cc := cX5_runsOf) (maxL := 1) (ret := (some .int)) (by decide) rfl (Nat.le_of_ble_eq_true rfl) ?_
  intro xp xe xs xm xbl xmt xc xX xB xR xM xT xO xL xN wP wD wK ls wl
  have wS : va_S (fun _ => False) xs.heap xs.heap [] := va_S.rf
  have wl : lv_has ls 1 [(0, .int (zI (n : Int)))] := wl
  refine lv_iload_n xX xB dX5_runsOf_0 rfl (lv_at wl 0 rfl) ?_
  refine lv_iload_n xX xB dX5_runsOf_1 rfl (lv_at wl 0 rfl) ?_
  refine z_iconst xX xB dX5_runsOf_2 ?_
  refine lv_ishl xX xB dX5_runsOf_3 ?_
  refine lv_ri (y := zI ((n <<< 1 : Nat) : Int)) (zb_shl1 hn) ?_
  refine z_iconst xX xB dX5_runsOf_4 ?_
  refine lv_ixor xX xB dX5_runsOf_5 ?_
  refine lv_iand xX xB dX5_runsOf_6 ?_
  refine lv_ri (y := zI ((andn n (n <<< 1) : Nat) : Int)) (zb_andn _ _ hn (by rw [Nat.shiftLeft_eq]; omega)) ?_
  refine g_pure (va_runS (As := [.int (zI ((andn n (n <<< 1) : Nat) : Int))]) (rest := []) ⟨xX, xB, xM, xO, xT⟩ (c_J6_bitCount_0f7a4 l D kI kB (andn n (n <<< 1)) (andn_le _ _ hn)) (va_cwS 1 xT gX5_runsOf_J6_bitCount_0f7a4 rfl rfl rfl hdn_J6_bitCount_0f7a4 ⟨Nat.le_of_ble_eq_true rfl, Nat.le_of_ble_eq_true rfl⟩) (g_preS wP wD wK [] (by decide) rfl) rfl rfl wl.1 rfl (lv_room (Nat.le_of_ble_eq_true rfl)) dX5_runsOf_7 ⟨Nat.le_of_ble_eq_true rfl, Nat.le_of_ble_eq_true rfl⟩) wP wS (fun H locs wP wS => ?_)
  exact g_iret xX xB xR xL wS dX5_runsOf_10 rfl

set_option maxHeartbeats 4000000 in
set_option maxRecDepth 100000 in
theorem c_X3_cornersJoin (l : Launch) (D : va_G) (kI kB : ClassId) (h : Nat) (q1 : Nat) (q2 : Nat) (jb : Int) (rj : -2147483648 ≤ jb ∧ jb ≤ 2147483647) : gI l yX3_cornersJoin wsX3_cornersJoin ({ frames := 0, cells := 0, slots := 0, locals := 0 } : Room) D kI kB [.ref h] [(h, .inr (3, [.ref q1, .ref q2, .int (zI jb)]))] (bI (decide (jb = 8))) := by
  refine g_start (cc := cX3_cornersJoin) (maxL := 1) (ret := (some .boolean)) (by decide) rfl (Nat.le_of_ble_eq_true rfl) ?_
  intro xp xe xs xm xbl xmt xc xX xB xR xM xT xO xL xN wP wD wK ls wl
  have wS : va_S (fun _ => False) xs.heap xs.heap [] := va_S.rf
  have wl : lv_has ls 1 [(0, .ref h)] := wl
  refine lv_aload_n xX xB dX3_cornersJoin_0 rfl (lv_at wl 0 rfl) ?_
  refine va_get (D := D) (ci := 3) (v := .int (zI jb)) (C := RX3) (T := TX3) (N := 3) xX xB xT in_X3_cornersJoin_X3 xO wK.1 wP 0 rfl rfl 2 (by decide) (xT _ (List.mem_of_getElem? (i := 1) rfl)) (fun _ h9 => h9) rfl dX3_cornersJoin_1 ?_
  refine z_bipush xX xB dX3_cornersJoin_4 (by decide) ?_
  refine t_icmp_ne xX xB dX3_cornersJoin_6 dX3_cornersJoin_9 dX3_cornersJoin_10 dX3_cornersJoin_13 (by omega) (by omega) ?_
  exact g_zret xX xB xR xL wS dX3_cornersJoin_14 (decide_eq_decide.mpr (by omega))

set_option maxHeartbeats 4000000 in
set_option maxRecDepth 100000 in
theorem c_X3_line (l : Launch) (D : va_G) (kI kB : ClassId) (h : Nat) (q1 : Nat) (q2 : Nat) (F : Nat → Int) (jb : Int) (r : Int) (rr : -2147483648 ≤ r ∧ r ≤ 2147483647) : gI l yX3_line wsX3_line ({ frames := 0, cells := 0, slots := 0, locals := 0 } : Room) D kI kB [.ref h, .int (zI r)] [(h, .inr (3, [.ref q1, .ref q2, .int (zI jb)])), (q1, .inl (kI, 16, .inl (aZ F)))] (zI (lnZ F r)) := by
  refine g_start (cc := cX3_line) (maxL := 2) (ret := (some .int)) (by decide) rfl (Nat.le_of_ble_eq_true rfl) ?_
  intro xp xe xs xm xbl xmt xc xX xB xR xM xT xO xL xN wP wD wK ls wl
  have wS : va_S (fun _ => False) xs.heap xs.heap [] := va_S.rf
  have wl : lv_has ls 2 [(0, .ref h), (1, .int (zI r))] := wl
  refine lv_iload_n xX xB dX3_line_0 rfl (lv_at wl 1 rfl) ?_
  refine z_if_lt (tgt := 19) xX xB dX3_line_1 (by decide) (by omega) (fun h1 => ?_) (fun h1 => ?_)
  · skip
    refine z_iconst xX xB dX3_line_19 ?_
    exact g_iret xX xB xR xL wS dX3_line_20 (congrArg zI (lnZ_out F (by omega)).symm)
  · skip
    refine lv_iload_n xX xB dX3_line_4 rfl (lv_at wl 1 rfl) ?_
    refine z_bipush xX xB dX3_line_5 (by decide) ?_
    refine z_icmp_ge (tgt := 19) xX xB dX3_line_7 (by decide) (by omega) (by omega) (fun h7 => ?_) (fun h7 => ?_)
    · skip
      refine z_iconst xX xB dX3_line_19 ?_
      exact g_iret xX xB xR xL wS dX3_line_20 (congrArg zI (lnZ_out F (by omega)).symm)
    · skip
      refine lv_aload_n xX xB dX3_line_10 rfl (lv_at wl 0 rfl) ?_
      refine va_get (D := D) (ci := 3) (v := .ref q1) (C := RX3) (T := TX3) (N := 3) xX xB xT in_X3_line_X3 xO wK.1 wP 0 rfl rfl 0 (by decide) (xT _ (List.mem_of_getElem? (i := 1) rfl)) (fun _ h9 => h9) rfl dX3_line_11 ?_
      refine lv_iload_n xX xB dX3_line_14 rfl (lv_at wl 1 rfl) ?_
      refine z_iald xX xB wK wP 1 rfl r.toNat (by omega) (by omega) (Nat.le_of_ble_eq_true rfl) dX3_line_15 ?_
      refine lv_goto (tgt := 20) xX xB dX3_line_16 (by decide) ?_
      exact g_iret xX xB xR xL wS dX3_line_20 (congrArg zI (lnZ_in F (by omega)).symm)

set_option maxHeartbeats 4000000 in
set_option maxRecDepth 100000 in
theorem c_X3_putLine (l : Launch) (D : va_G) (kI kB : ClassId) (h : Nat) (q1 : Nat) (q2 : Nat) (F : Nat → Int) (jb : Int) (r : Nat) (v : Nat) (hr : r < 16) (hv : v < 65536) : gV l yX3_putLine wsX3_putLine ({ frames := 0, cells := 0, slots := 0, locals := 0 } : Room) D kI kB [.ref h, .int (zI (r : Int)), .int (zI (v : Int))] [(h, .inr (3, [.ref q1, .ref q2, .int (zI jb)])), (q1, .inl (kI, 16, .inl (aZ F)))] (fun (_ : Unit) => [(h, .inr (3, [.ref q1, .ref q2, .int (zI jb)])), (q1, .inl (kI, 16, .inl (aZ (uZ F r (v : Int)))))]) (fun (_ : Unit) => True) := by
  refine g_start (cc := cX3_putLine) (maxL := 3) (ret := none) (by decide) rfl (Nat.le_of_ble_eq_true rfl) ?_
  intro xp xe xs xm xbl xmt xc xX xB xR xM xT xO xL xN wP wD wK ls wl
  have wS : va_S (gA [(h, .inr (3, [.ref q1, .ref q2, .int (zI jb)])), (q1, .inl (kI, 16, .inl (aZ F)))]) xs.heap xs.heap [] := va_S.rf
  have wl : lv_has ls 3 [(0, .ref h), (1, .int (zI (r : Int))), (2, .int (zI (v : Int)))] := wl
  refine lv_iload_n xX xB dX3_putLine_0 rfl (lv_at wl 1 rfl) ?_
  refine z_if_lt (tgt := 20) xX xB dX3_putLine_1 (by decide) (by omega) (fun h1 => ?_) (fun h1 => ?_)
  · exact absurd h1 (by omega)
  · skip
    refine lv_iload_n xX xB dX3_putLine_4 rfl (lv_at wl 1 rfl) ?_
    refine z_bipush xX xB dX3_putLine_5 (by decide) ?_
    refine z_icmp_ge (tgt := 20) xX xB dX3_putLine_7 (by decide) (by omega) (by omega) (fun h7 => ?_) (fun h7 => ?_)
    · exact absurd h7 (by omega)
    · skip
      refine lv_aload_n xX xB dX3_putLine_10 rfl (lv_at wl 0 rfl) ?_
      refine va_get (D := D) (ci := 3) (v := .ref q1) (C := RX3) (T := TX3) (N := 3) xX xB xT in_X3_putLine_X3 xO wK.1 wP 0 rfl rfl 0 (by decide) (xT _ (List.mem_of_getElem? (i := 1) rfl)) (fun _ h9 => h9) rfl dX3_putLine_11 ?_
      refine lv_iload_n xX xB dX3_putLine_14 rfl (lv_at wl 1 rfl) ?_
      refine lv_iload_n xX xB dX3_putLine_15 rfl (lv_at wl 2 rfl) ?_
      refine z_ldc xX xB (65535) (by decide) xO (xT _ (List.mem_of_getElem? (i := 2) rfl)) dX3_putLine_16 ?_
      refine lv_iand xX xB dX3_putLine_18 ?_
      refine lv_ri (y := zI (v : Int)) ((zb_and _ _).trans (congrArg (fun z : Nat => zI (z : Int)) (m16_of hv))) ?_
      refine z_iast xX xB wK wP wD wS 1 rfl r rfl (by omega) (Nat.le_of_ble_eq_true rfl) dX3_putLine_19 (fun H locs wP wD wS => ?_)
      have wP : va_P D gC [(h, .inr (3, [.ref q1, .ref q2, .int (zI jb)])), (q1, .inl (kI, 16, .inl (aZ (uZ F r (v : Int)))))] H := wP
      have wD : va_D (gA [(h, .inr (3, [.ref q1, .ref q2, .int (zI jb)])), (q1, .inl (kI, 16, .inl (aZ F)))]) [(h, .inr (3, [.ref q1, .ref q2, .int (zI jb)])), (q1, .inl (kI, 16, .inl (aZ (uZ F r (v : Int)))))] := wD
      exact g_vret () xX xB xR xL wP wS dX3_putLine_20 trivial

set_option maxHeartbeats 4000000 in
set_option maxRecDepth 100000 in
theorem c_X3_isDark (l : Launch) (D : va_G) (kI kB : ClassId) (h : Nat) (q1 : Nat) (q2 : Nat) (F : Nat → Int) (jb : Int) (P : Nat → Nat) (r : Nat) (k : Nat) (hF : Pic F P) (hr : r < 16) (hk : k < 16) : gI l yX3_isDark wsX3_isDark ({ frames := 1, cells := 0, slots := 0, locals := 21 } : Room) D kI kB [.ref h, .int (zI (r : Int)), .int (zI (k : Int))] [(h, .inr (3, [.ref q1, .ref q2, .int (zI jb)])), (q1, .inl (kI, 16, .inl (aZ F)))] (bI ((P r).testBit k)) := by
  refine g_start (cc := cX3_isDark) (maxL := 3) (ret := (some .boolean)) (by decide) rfl (Nat.le_of_ble_eq_true rfl) ?_
  intro xp xe xs xm xbl xmt xc xX xB xR xM xT xO xL xN wP wD wK ls wl
  have wS : va_S (fun _ => False) xs.heap xs.heap [] := va_S.rf
  have wl : lv_has ls 3 [(0, .ref h), (1, .int (zI (r : Int))), (2, .int (zI (k : Int)))] := wl
  refine lv_iload_n xX xB dX3_isDark_0 rfl (lv_at wl 2 rfl) ?_
  refine z_if_lt (tgt := 27) xX xB dX3_isDark_1 (by decide) (by omega) (fun h1 => ?_) (fun h1 => ?_)
  · exact absurd h1 (by omega)
  · skip
    refine lv_iload_n xX xB dX3_isDark_4 rfl (lv_at wl 2 rfl) ?_
    refine z_bipush xX xB dX3_isDark_5 (by decide) ?_
    refine z_icmp_ge (tgt := 27) xX xB dX3_isDark_7 (by decide) (by omega) (by omega) (fun h7 => ?_) (fun h7 => ?_)
    · exact absurd h7 (by omega)
    · skip
      refine lv_aload_n xX xB dX3_isDark_10 rfl (lv_at wl 0 rfl) ?_
      refine lv_iload_n xX xB dX3_isDark_11 rfl (lv_at wl 1 rfl) ?_
      refine g_pure (va_runV (As := [.int (zI (r : Int))]) (rest := []) ⟨xX, xB, xM, xO, xT⟩ (c_X3_line l D kI kB h q1 q2 F jb (r : Int) (by omega)) (cwV 1 xT gX3_isDark_X3_line rfl rfl rfl hd_X3_line ⟨Nat.le_of_ble_eq_true rfl, Nat.le_of_ble_eq_true rfl⟩) (g_preV (ci := 3) (q0 := 0) wP wD wK [0, 1] (by decide) rfl rfl rfl) rfl rfl wl.1 rfl (lv_room (Nat.le_of_ble_eq_true rfl)) dX3_isDark_12 ⟨Nat.le_of_ble_eq_true rfl, Nat.le_of_ble_eq_true rfl⟩) wP wS (fun H locs wP wS => ?_)
      refine lv_iload_n xX xB dX3_isDark_15 rfl (lv_at wl 2 rfl) ?_
      refine lv_ishr xX xB dX3_isDark_16 ?_
      refine lv_ri (y := zI ((P r >>> k : Nat) : Int)) (by rw [hF.ln, lnN_nat P hr, zb_shr (by have := (hF r hr).2; omega) (by omega)]) ?_
      refine z_iconst xX xB dX3_isDark_17 ?_
      refine lv_iand xX xB dX3_isDark_18 ?_
      refine lv_ri (y := bI ((P r).testBit k)) ((zb_and _ 1).trans (by rw [zb_bit]; unfold bI; cases (P r).testBit k <;> rfl)) ?_
      refine z_iconst xX xB dX3_isDark_19 ?_
      refine b_icmp_ne1 (tgt := 27) xX xB dX3_isDark_20 (by decide) (fun h20 => ?_) (fun h20 => ?_)
      · skip
        refine z_iconst xX xB dX3_isDark_27 ?_
        refine lv_ri (y := bI false) rfl ?_
        exact g_zret xX xB xR xL wS dX3_isDark_28 h20.symm
      · skip
        refine z_iconst xX xB dX3_isDark_23 ?_
        refine lv_goto (tgt := 28) xX xB dX3_isDark_24 (by decide) ?_
        refine lv_ri (y := bI true) rfl ?_
        exact g_zret xX xB xR xL wS dX3_isDark_28 h20.symm

set_option maxHeartbeats 4000000 in
set_option maxRecDepth 100000 in
theorem c_X3_flip (l : Launch) (D : va_G) (kI kB : ClassId) (h : Nat) (q1 : Nat) (q2 : Nat) (F : Nat → Int) (jb : Int) (P : Nat → Nat) (r : Nat) (v : Nat) (hF : Pic F P) (hr : r < 16) (hv : v < 65536) : gV l yX3_flip wsX3_flip ({ frames := 1, cells := 0, slots := 0, locals := 22 } : Room) D kI kB [.ref h, .int (zI (r : Int)), .int (zI (v : Int))] [(h, .inr (3, [.ref q1, .ref q2, .int (zI jb)])), (q1, .inl (kI, 16, .inl (aZ F)))] (fun (_ : Unit) => [(h, .inr (3, [.ref q1, .ref q2, .int (zI jb)])), (q1, .inl (kI, 16, .inl (aZ (uZ F r ((P r ^^^ v : Nat) : Int)))))]) (fun (_ : Unit) => True) := by
  refine g_start (cc := cX3_flip) (maxL := 3) (ret := none) (by decide) rfl (Nat.le_of_ble_eq_true rfl) ?_
  intro xp xe xs xm xbl xmt xc xX xB xR xM xT xO xL xN wP wD wK ls wl
  have wS : va_S (gA [(h, .inr (3, [.ref q1, .ref q2, .int (zI jb)])), (q1, .inl (kI, 16, .inl (aZ F)))]) xs.heap xs.heap [] := va_S.rf
  have wl : lv_has ls 3 [(0, .ref h), (1, .int (zI (r : Int))), (2, .int (zI (v : Int)))] := wl
  refine lv_aload_n xX xB dX3_flip_0 rfl (lv_at wl 0 rfl) ?_
  refine lv_iload_n xX xB dX3_flip_1 rfl (lv_at wl 1 rfl) ?_
  refine lv_aload_n xX xB dX3_flip_2 rfl (lv_at wl 0 rfl) ?_
  refine lv_iload_n xX xB dX3_flip_3 rfl (lv_at wl 1 rfl) ?_
  refine g_pure (va_runV (As := [.int (zI (r : Int))]) (rest := [.int (zI (r : Int)), .ref h]) ⟨xX, xB, xM, xO, xT⟩ (c_X3_line l D kI kB h q1 q2 F jb (r : Int) (by omega)) (cwV 1 xT gX3_flip_X3_line rfl rfl rfl hd_X3_line ⟨Nat.le_of_ble_eq_true rfl, Nat.le_of_ble_eq_true rfl⟩) (g_preV (ci := 3) (q0 := 0) wP wD wK [0, 1] (by decide) rfl rfl rfl) rfl rfl wl.1 rfl (lv_room (Nat.le_of_ble_eq_true rfl)) dX3_flip_4 ⟨Nat.le_of_ble_eq_true rfl, Nat.le_of_ble_eq_true rfl⟩) wP wS (fun H locs wP wS => ?_)
  refine lv_iload_n xX xB dX3_flip_7 rfl (lv_at wl 2 rfl) ?_
  refine lv_ixor xX xB dX3_flip_8 ?_
  refine lv_ri (y := zI ((P r ^^^ v : Nat) : Int)) (by rw [hF.ln, lnN_nat P hr, zb_xor]) ?_
  refine g_modv (va_runV (As := [.int (zI (r : Int)), .int (zI ((P r ^^^ v : Nat) : Int))]) (rest := []) ⟨xX, xB, xM, xO, xT⟩ (c_X3_putLine l D kI kB h q1 q2 F jb r (P r ^^^ v) hr (xor_le (hF r hr).2 hv)) (cwV 2 xT gX3_flip_X3_putLine rfl rfl rfl hd_X3_putLine ⟨Nat.le_of_ble_eq_true rfl, Nat.le_of_ble_eq_true rfl⟩) (g_preV (ci := 3) (q0 := 0) wP wD wK [0, 1] (by decide) rfl rfl rfl) rfl rfl wl.1 rfl (lv_room (Nat.le_of_ble_eq_true rfl)) dX3_flip_9 ⟨Nat.le_of_ble_eq_true rfl, Nat.le_of_ble_eq_true rfl⟩) wP wD wS [0, 1] rfl (fun _ => rfl) (fun u_ H locs hc9 wP wD wS => ?_)
  try dsimp only at hc9
  have wP : va_P D gC [(h, .inr (3, [.ref q1, .ref q2, .int (zI jb)])), (q1, .inl (kI, 16, .inl (aZ (uZ F r ((P r ^^^ v) : Int)))))] H := wP
  have wD : va_D (gA [(h, .inr (3, [.ref q1, .ref q2, .int (zI jb)])), (q1, .inl (kI, 16, .inl (aZ F)))]) [(h, .inr (3, [.ref q1, .ref q2, .int (zI jb)])), (q1, .inl (kI, 16, .inl (aZ (uZ F r ((P r ^^^ v) : Int)))))] := wD
  exact g_vret () xX xB xR xL wP wS dX3_flip_12 trivial

set_option maxHeartbeats 4000000 in
set_option maxRecDepth 100000 in
theorem c_X3_darkDots (l : Launch) (D : va_G) (kI kB : ClassId) (h : Nat) (q1 : Nat) (q2 : Nat) (F : Nat → Int) (jb : Int) (P : Nat → Nat) (hF : Pic F P) : gI l yX3_darkDots wsX3_darkDots ({ frames := 1, cells := 0, slots := 0, locals := 20 } : Room) D kI kB [.ref h] [(h, .inr (3, [.ref q1, .ref q2, .int (zI jb)])), (q1, .inl (kI, 16, .inl (aZ F)))] (zI (dots P : Int)) := by
  refine g_start (cc := cX3_darkDots) (maxL := 3) (ret := (some .int)) (by decide) rfl (Nat.le_of_ble_eq_true rfl) ?_
  intro xp xe xs xm xbl xmt xc xX xB xR xM xT xO xL xN wP wD wK ls wl
  have wS : va_S (fun _ => False) xs.heap xs.heap [] := va_S.rf
  have wl : lv_has ls 3 [(0, .ref h)] := wl
  generalize hQ : MQ xbl _ _ xs 0 0 _ = xQ
  refine z_iconst xX xB dX3_darkDots_0 ?_
  refine lv_istore_n (lv' := [(1, .int (zI 0)), (0, .ref h)]) xX xB dX3_darkDots_1 rfl wl (by decide) rfl (fun ls wl => ?_)
  refine z_iconst xX xB dX3_darkDots_2 ?_
  refine lv_istore_n (lv' := [(2, .int (zI 0)), (1, .int (zI 0)), (0, .ref h)]) xX xB dX3_darkDots_3 rfl wl (by decide) rfl (fun ls wl => ?_)
  have K : ∀ n_ : Nat, ∀ (i : Nat) (t : Nat), 16 - i < n_ → (i ≤ 16) → (t = fb_sm (fun r => pop (P r)) i) → ∀ (H : Heap) (locs : List Loc) (ls : Array Slot), va_P D gC [(h, .inr (3, [.ref q1, .ref q2, .int (zI jb)])), (q1, .inl (kI, 16, .inl (aZ F)))] H → va_S (fun _ => False) xs.heap H locs → lv_has ls 3 [(0, .ref h), (1, .int (zI (t : Int))), (2, .int (zI (i : Int)))] → W xp l xe ({ frames := 1, cells := 0, slots := 0, locals := 20 } : Room) xs xm (List.toArray [.ref h]) xbl xmt xc H locs 0 0 xQ (F0 xm 4 ls []) := by
    intro n_
    induction n_ with
    | zero =>
      intro i t hme
      exact absurd hme (Nat.not_lt_zero _)
    | succ n_ ihK =>
      intro i t hme hi ht H locs ls wP wS wl
      have hbd := sm_bd P i
      refine lv_iload_n xX xB dX3_darkDots_4 rfl (lv_at wl 2 rfl) ?_
      refine z_bipush xX xB dX3_darkDots_5 (by decide) ?_
      refine z_icmp_ge (tgt := 28) xX xB dX3_darkDots_7 (by decide) (by omega) (by omega) (fun h7 => ?_) (fun h7 => ?_)
      · skip
        refine lv_iload_n xX xB dX3_darkDots_28 rfl (lv_at wl 1 rfl) ?_
        subst hQ
        exact g_iret xX xB xR xL wS dX3_darkDots_29 (congrArg zI (congrArg Int.ofNat (by rw [ht, show i = 16 by omega]; rfl)))
      · skip
        refine lv_iload_n xX xB dX3_darkDots_10 rfl (lv_at wl 1 rfl) ?_
        refine lv_aload_n xX xB dX3_darkDots_11 rfl (lv_at wl 0 rfl) ?_
        refine va_get (D := D) (ci := 3) (v := .ref q1) (C := RX3) (T := TX3) (N := 3) xX xB xT in_X3_darkDots_X3 xO wK.1 wP 0 rfl rfl 0 (by decide) (xT _ (List.mem_of_getElem? (i := 1) rfl)) (fun _ h9 => h9) rfl dX3_darkDots_12 ?_
        refine lv_iload_n xX xB dX3_darkDots_15 rfl (lv_at wl 2 rfl) ?_
        refine z_iald xX xB wK wP 1 rfl i rfl (by omega) (Nat.le_of_ble_eq_true rfl) dX3_darkDots_16 ?_
        refine lv_ri (y := zI (P i : Int)) (congrArg zI (hF i (by omega)).1) ?_
        refine g_pure (va_runS (As := [.int (zI ((P i : Nat) : Int))]) (rest := [.int (zI (t : Int))]) ⟨xX, xB, xM, xO, xT⟩ (c_J6_bitCount_0f7a4 l D kI kB (P i) (hF i (by omega)).2) (va_cwS 1 xT gX3_darkDots_J6_bitCount_0f7a4 rfl rfl rfl hdn_J6_bitCount_0f7a4 ⟨Nat.le_of_ble_eq_true rfl, Nat.le_of_ble_eq_true rfl⟩) (g_preS wP wD wK [] (by decide) rfl) rfl rfl wl.1 rfl (lv_room (Nat.le_of_ble_eq_true rfl)) dX3_darkDots_17 ⟨Nat.le_of_ble_eq_true rfl, Nat.le_of_ble_eq_true rfl⟩) wP wS (fun H locs wP wS => ?_)
        refine z_iadd xX xB dX3_darkDots_20 ?_
        refine lv_istore_n (lv' := [(1, .int (zI ((t : Int) + ((pop (P i) : Nat) : Int)))), (0, .ref h), (2, .int (zI (i : Int)))]) xX xB dX3_darkDots_21 rfl wl (by decide) rfl (fun ls wl => ?_)
        refine lv_iinc (v := zI ((i : Int) + 1)) (lv' := [(2, .int (zI ((i : Int) + 1))), (1, .int (zI ((t : Int) + ((pop (P i) : Nat) : Int)))), (0, .ref h)]) xX xB dX3_darkDots_22 wl (k := 2) rfl (zI_add _ _) (by decide) rfl (fun ls wl => ?_)
        refine lv_goto (tgt := 4) xX xB dX3_darkDots_25 (by decide) ?_
        exact ihK (i + 1) (t + (pop (P i))) (by omega) (by omega) (by rw [ht]; rfl) _ _ _ wP wS (lv_sub wl [2, 1, 0] rfl)
  exact K _ 0 0 (Nat.lt_succ_self _) (by omega) rfl _ _ _ wP wS (lv_sub wl [2, 1, 0] rfl)

set_option maxHeartbeats 4000000 in
set_option maxRecDepth 100000 in
theorem c_X3_allRuns (l : Launch) (D : va_G) (kI kB : ClassId) (h : Nat) (q1 : Nat) (q2 : Nat) (F : Nat → Int) (jb : Int) (P : Nat → Nat) (hF : Pic F P) : gI l yX3_allRuns wsX3_allRuns ({ frames := 2, cells := 0, slots := 0, locals := 40 } : Room) D kI kB [.ref h] [(h, .inr (3, [.ref q1, .ref q2, .int (zI jb)])), (q1, .inl (kI, 16, .inl (aZ F)))] (zI (runsT P : Int)) := by
  refine g_start (cc := cX3_allRuns) (maxL := 3) (ret := (some .int)) (by decide) rfl (Nat.le_of_ble_eq_true rfl) ?_
  intro xp xe xs xm xbl xmt xc xX xB xR xM xT xO xL xN wP wD wK ls wl
  have wS : va_S (fun _ => False) xs.heap xs.heap [] := va_S.rf
  have wl : lv_has ls 3 [(0, .ref h)] := wl
  generalize hQ : MQ xbl _ _ xs 0 0 _ = xQ
  refine z_iconst xX xB dX3_allRuns_0 ?_
  refine lv_istore_n (lv' := [(1, .int (zI 0)), (0, .ref h)]) xX xB dX3_allRuns_1 rfl wl (by decide) rfl (fun ls wl => ?_)
  refine z_iconst xX xB dX3_allRuns_2 ?_
  refine lv_istore_n (lv' := [(2, .int (zI 0)), (1, .int (zI 0)), (0, .ref h)]) xX xB dX3_allRuns_3 rfl wl (by decide) rfl (fun ls wl => ?_)
  have K : ∀ n_ : Nat, ∀ (i : Nat) (t : Nat), 16 - i < n_ → (i ≤ 16) → (t = fb_sm (fun r => rnN (P r)) i) → ∀ (H : Heap) (locs : List Loc) (ls : Array Slot), va_P D gC [(h, .inr (3, [.ref q1, .ref q2, .int (zI jb)])), (q1, .inl (kI, 16, .inl (aZ F)))] H → va_S (fun _ => False) xs.heap H locs → lv_has ls 3 [(0, .ref h), (1, .int (zI (t : Int))), (2, .int (zI (i : Int)))] → W xp l xe ({ frames := 2, cells := 0, slots := 0, locals := 40 } : Room) xs xm (List.toArray [.ref h]) xbl xmt xc H locs 0 0 xQ (F0 xm 4 ls []) := by
    intro n_
    induction n_ with
    | zero =>
      intro i t hme
      exact absurd hme (Nat.not_lt_zero _)
    | succ n_ ihK =>
      intro i t hme hi ht H locs ls wP wS wl
      have hbd := rn_bd P i
      refine lv_iload_n xX xB dX3_allRuns_4 rfl (lv_at wl 2 rfl) ?_
      refine z_bipush xX xB dX3_allRuns_5 (by decide) ?_
      refine z_icmp_ge (tgt := 28) xX xB dX3_allRuns_7 (by decide) (by omega) (by omega) (fun h7 => ?_) (fun h7 => ?_)
      · skip
        refine lv_iload_n xX xB dX3_allRuns_28 rfl (lv_at wl 1 rfl) ?_
        subst hQ
        exact g_iret xX xB xR xL wS dX3_allRuns_29 (congrArg zI (congrArg Int.ofNat (by rw [ht, show i = 16 by omega]; rfl)))
      · skip
        refine lv_iload_n xX xB dX3_allRuns_10 rfl (lv_at wl 1 rfl) ?_
        refine lv_aload_n xX xB dX3_allRuns_11 rfl (lv_at wl 0 rfl) ?_
        refine va_get (D := D) (ci := 3) (v := .ref q1) (C := RX3) (T := TX3) (N := 3) xX xB xT in_X3_allRuns_X3 xO wK.1 wP 0 rfl rfl 0 (by decide) (xT _ (List.mem_of_getElem? (i := 1) rfl)) (fun _ h9 => h9) rfl dX3_allRuns_12 ?_
        refine lv_iload_n xX xB dX3_allRuns_15 rfl (lv_at wl 2 rfl) ?_
        refine z_iald xX xB wK wP 1 rfl i rfl (by omega) (Nat.le_of_ble_eq_true rfl) dX3_allRuns_16 ?_
        refine lv_ri (y := zI (P i : Int)) (congrArg zI (hF i (by omega)).1) ?_
        refine g_pure (va_runSN (As := [.int (zI ((P i : Nat) : Int))]) (rest := [.int (zI (t : Int))]) ⟨xX, xB, xM, xO, xT⟩ (c_X5_runsOf l D kI kB (P i) (hF i (by omega)).2) ⟨va_cnB 1 xT ggX3_allRuns_X5_runsOf rfl rfl rfl (wK.2 _ (List.mem_of_getElem? (i := 6) rfl)) (xT _ (List.mem_of_getElem? (i := 3) rfl)) hdn_X5_runsOf ⟨Nat.le_of_ble_eq_true rfl, Nat.le_of_ble_eq_true rfl⟩, (xT _ (List.mem_of_getElem? (i := 2) rfl)), trivial⟩ (g_preS wP wD wK [] (by decide) rfl) rfl rfl wl.1 rfl (lv_room (Nat.le_of_ble_eq_true rfl)) dX3_allRuns_17 ⟨Nat.le_of_ble_eq_true rfl, Nat.le_of_ble_eq_true rfl⟩) wP wS (fun H locs wP wS => ?_)
        refine z_iadd xX xB dX3_allRuns_20 ?_
        refine lv_istore_n (lv' := [(1, .int (zI ((t : Int) + ((rnN (P i) : Nat) : Int)))), (0, .ref h), (2, .int (zI (i : Int)))]) xX xB dX3_allRuns_21 rfl wl (by decide) rfl (fun ls wl => ?_)
        refine lv_iinc (v := zI ((i : Int) + 1)) (lv' := [(2, .int (zI ((i : Int) + 1))), (1, .int (zI ((t : Int) + ((rnN (P i) : Nat) : Int)))), (0, .ref h)]) xX xB dX3_allRuns_22 wl (k := 2) rfl (zI_add _ _) (by decide) rfl (fun ls wl => ?_)
        refine lv_goto (tgt := 4) xX xB dX3_allRuns_25 (by decide) ?_
        exact ihK (i + 1) (t + (rnN (P i))) (by omega) (by omega) (by rw [ht]; rfl) _ _ _ wP wS (lv_sub wl [2, 1, 0] rfl)
  exact K _ 0 0 (Nat.lt_succ_self _) (by omega) rfl _ _ _ wP wS (lv_sub wl [2, 1, 0] rfl)

set_option maxHeartbeats 4000000 in
set_option maxRecDepth 100000 in
theorem c_X3_widened (l : Launch) (D : va_G) (kI kB : ClassId) (n : Nat) (hn : n < 65536) : gI l yX3_widened wsX3_widened ({ frames := 0, cells := 0, slots := 0, locals := 0 } : Room) D kI kB [.int (zI (n : Int))] [] (zI ((wid n : Nat) : Int)) := by
  refine g_start (cc := cX3_widened) (maxL := 1) (ret := (some .int)) (by decide) rfl (Nat.le_of_ble_eq_true rfl) ?_
  intro xp xe xs xm xbl xmt xc xX xB xR xM xT xO xL xN wP wD wK ls wl
  have wS : va_S (fun _ => False) xs.heap xs.heap [] := va_S.rf
  have wl : lv_has ls 1 [(0, .int (zI (n : Int)))] := wl
  refine lv_iload_n xX xB dX3_widened_0 rfl (lv_at wl 0 rfl) ?_
  refine lv_iload_n xX xB dX3_widened_1 rfl (lv_at wl 0 rfl) ?_
  refine z_iconst xX xB dX3_widened_2 ?_
  refine lv_ishl xX xB dX3_widened_3 ?_
  refine lv_ri (y := zI ((n <<< 1 : Nat) : Int)) (zb_shl1 hn) ?_
  refine lv_ior xX xB dX3_widened_4 ?_
  refine lv_ri (y := zI ((n ||| (n <<< 1) : Nat) : Int)) (zb_or _ _) ?_
  refine lv_iload_n xX xB dX3_widened_5 rfl (lv_at wl 0 rfl) ?_
  refine z_iconst xX xB dX3_widened_6 ?_
  refine lv_ishr xX xB dX3_widened_7 ?_
  refine lv_ri (y := zI ((n >>> 1 : Nat) : Int)) (zb_shr (by omega) (by decide)) ?_
  refine lv_ior xX xB dX3_widened_8 ?_
  refine lv_ri (y := zI (((n ||| (n <<< 1)) ||| (n >>> 1) : Nat) : Int)) (zb_or _ _) ?_
  refine z_ldc xX xB (65535) (by decide) xO (xT _ (List.mem_of_getElem? (i := 1) rfl)) dX3_widened_9 ?_
  refine lv_iand xX xB dX3_widened_11 ?_
  refine lv_ri (y := zI ((((n ||| (n <<< 1)) ||| (n >>> 1)) &&& 65535 : Nat) : Int)) (zb_and _ _) ?_
  exact g_iret xX xB xR xL wS dX3_widened_12 rfl

set_option maxHeartbeats 4000000 in
set_option maxRecDepth 100000 in
theorem c_X3_narrowed (l : Launch) (D : va_G) (kI kB : ClassId) (n : Nat) (hn : n < 65536) : gI l yX3_narrowed wsX3_narrowed ({ frames := 0, cells := 0, slots := 0, locals := 0 } : Room) D kI kB [.int (zI (n : Int))] [] (zI ((nar n : Nat) : Int)) := by
  refine g_start (cc := cX3_narrowed) (maxL := 1) (ret := (some .int)) (by decide) rfl (Nat.le_of_ble_eq_true rfl) ?_
  intro xp xe xs xm xbl xmt xc xX xB xR xM xT xO xL xN wP wD wK ls wl
  have wS : va_S (fun _ => False) xs.heap xs.heap [] := va_S.rf
  have wl : lv_has ls 1 [(0, .int (zI (n : Int)))] := wl
  refine lv_iload_n xX xB dX3_narrowed_0 rfl (lv_at wl 0 rfl) ?_
  refine lv_iload_n xX xB dX3_narrowed_1 rfl (lv_at wl 0 rfl) ?_
  refine z_iconst xX xB dX3_narrowed_2 ?_
  refine lv_ishl xX xB dX3_narrowed_3 ?_
  refine lv_ri (y := zI ((n <<< 1 : Nat) : Int)) (zb_shl1 hn) ?_
  refine lv_iand xX xB dX3_narrowed_4 ?_
  refine lv_ri (y := zI ((n &&& (n <<< 1) : Nat) : Int)) (zb_and _ _) ?_
  refine lv_iload_n xX xB dX3_narrowed_5 rfl (lv_at wl 0 rfl) ?_
  refine z_iconst xX xB dX3_narrowed_6 ?_
  refine lv_ishr xX xB dX3_narrowed_7 ?_
  refine lv_ri (y := zI ((n >>> 1 : Nat) : Int)) (zb_shr (by omega) (by decide)) ?_
  refine lv_iand xX xB dX3_narrowed_8 ?_
  refine lv_ri (y := zI (((n &&& (n <<< 1)) &&& (n >>> 1) : Nat) : Int)) (zb_and _ _) ?_
  exact g_iret xX xB xR xL wS dX3_narrowed_9 rfl

set_option maxHeartbeats 4000000 in
set_option maxRecDepth 100000 in
theorem c_X3_slid (l : Launch) (D : va_G) (kI kB : ClassId) (n : Nat) (d : Int) (hn : n < 65536) (hd : -15 ≤ d ∧ d ≤ 15) : gI l yX3_slid wsX3_slid ({ frames := 0, cells := 0, slots := 0, locals := 0 } : Room) D kI kB [.int (zI (n : Int)), .int (zI d)] [] (zI ((sld n d : Nat) : Int)) := by
  refine g_start (cc := cX3_slid) (maxL := 2) (ret := (some .int)) (by decide) rfl (Nat.le_of_ble_eq_true rfl) ?_
  intro xp xe xs xm xbl xmt xc xX xB xR xM xT xO xL xN wP wD wK ls wl
  have wS : va_S (fun _ => False) xs.heap xs.heap [] := va_S.rf
  have wl : lv_has ls 2 [(0, .int (zI (n : Int))), (1, .int (zI d))] := wl
  refine lv_iload_n xX xB dX3_slid_0 rfl (lv_at wl 1 rfl) ?_
  refine z_if_ge (tgt := 11) xX xB dX3_slid_1 (by decide) (by omega) (fun h1 => ?_) (fun h1 => ?_)
  · skip
    refine lv_iload_n xX xB dX3_slid_11 rfl (lv_at wl 0 rfl) ?_
    refine lv_iload_n xX xB dX3_slid_12 rfl (lv_at wl 1 rfl) ?_
    refine lv_ishl xX xB dX3_slid_13 ?_
    refine lv_ri (y := zI ((n <<< d.toNat : Nat) : Int)) (zb_shlZ hn (by omega)) ?_
    refine z_ldc xX xB (65535) (by decide) xO (xT _ (List.mem_of_getElem? (i := 1) rfl)) dX3_slid_14 ?_
    refine lv_iand xX xB dX3_slid_16 ?_
    refine lv_ri (y := zI (((n <<< d.toNat) &&& 65535 : Nat) : Int)) (zb_and _ _) ?_
    exact g_iret xX xB xR xL wS dX3_slid_17 (congrArg (fun z : Nat => zI (z : Int)) (by unfold sld; first | rw [if_pos (by omega)] | rw [if_neg (by omega)]))
  · skip
    refine lv_iload_n xX xB dX3_slid_4 rfl (lv_at wl 0 rfl) ?_
    refine lv_iload_n xX xB dX3_slid_5 rfl (lv_at wl 1 rfl) ?_
    refine z_ineg xX xB dX3_slid_6 ?_
    refine lv_ishr xX xB dX3_slid_7 ?_
    refine lv_ri (y := zI ((n >>> (-d).toNat : Nat) : Int)) (zb_shrZ hn (by omega)) ?_
    refine lv_goto (tgt := 17) xX xB dX3_slid_8 (by decide) ?_
    exact g_iret xX xB xR xL wS dX3_slid_17 (congrArg (fun z : Nat => zI (z : Int)) (by unfold sld; first | rw [if_pos (by omega)] | rw [if_neg (by omega)]))

set_option maxHeartbeats 4000000 in
set_option maxRecDepth 100000 in
theorem c_X3_freeSides (l : Launch) (D : va_G) (kI kB : ClassId) (h : Nat) (q1 : Nat) (q2 : Nat) (F : Nat → Int) (jb : Int) (P : Nat → Nat) (r : Nat) (v : Nat) (hF : Pic F P) (hr : r < 16) (hv : v < 65536) : gI l yX3_freeSides wsX3_freeSides ({ frames := 1, cells := 0, slots := 0, locals := 21 } : Room) D kI kB [.ref h, .int (zI (r : Int)), .int (zI (v : Int))] [(h, .inr (3, [.ref q1, .ref q2, .int (zI jb)])), (q1, .inl (kI, 16, .inl (aZ F)))] (zI ((2 + pop (andn v (lnN P ((r : Int) - 1))) + pop (andn v (lnN P ((r : Int) + 1))) : Nat) : Int)) := by
  refine g_start (cc := cX3_freeSides) (maxL := 3) (ret := (some .int)) (by decide) rfl (Nat.le_of_ble_eq_true rfl) ?_
  intro xp xe xs xm xbl xmt xc xX xB xR xM xT xO xL xN wP wD wK ls wl
  have wS : va_S (fun _ => False) xs.heap xs.heap [] := va_S.rf
  have wl : lv_has ls 3 [(0, .ref h), (1, .int (zI (r : Int))), (2, .int (zI (v : Int)))] := wl
  refine z_iconst xX xB dX3_freeSides_0 ?_
  refine lv_iload_n xX xB dX3_freeSides_1 rfl (lv_at wl 2 rfl) ?_
  refine lv_aload_n xX xB dX3_freeSides_2 rfl (lv_at wl 0 rfl) ?_
  refine lv_iload_n xX xB dX3_freeSides_3 rfl (lv_at wl 1 rfl) ?_
  refine z_iconst xX xB dX3_freeSides_4 ?_
  refine z_isub xX xB dX3_freeSides_5 ?_
  refine g_pure (va_runV (As := [.int (zI ((r : Int) - 1))]) (rest := [.int (zI (v : Int)), .int (zI 2)]) ⟨xX, xB, xM, xO, xT⟩ (c_X3_line l D kI kB h q1 q2 F jb ((r : Int) - 1) (by omega)) (cwV 1 xT gX3_freeSides_X3_line rfl rfl rfl hd_X3_line ⟨Nat.le_of_ble_eq_true rfl, Nat.le_of_ble_eq_true rfl⟩) (g_preV (ci := 3) (q0 := 0) wP wD wK [0, 1] (by decide) rfl rfl rfl) rfl rfl wl.1 rfl (lv_room (Nat.le_of_ble_eq_true rfl)) dX3_freeSides_6 ⟨Nat.le_of_ble_eq_true rfl, Nat.le_of_ble_eq_true rfl⟩) wP wS (fun H locs wP wS => ?_)
  refine z_iconst xX xB dX3_freeSides_9 ?_
  refine lv_ixor xX xB dX3_freeSides_10 ?_
  refine lv_iand xX xB dX3_freeSides_11 ?_
  refine lv_ri (y := zI ((andn v (lnN P ((r : Int) - 1)) : Nat) : Int)) (by rw [hF.ln]; exact zb_andn _ _ hv (by have := hF.lnlt ((r : Int) - 1); omega)) ?_
  refine g_pure (va_runS (As := [.int (zI ((andn v (lnN P ((r : Int) - 1)) : Nat) : Int))]) (rest := [.int (zI 2)]) ⟨xX, xB, xM, xO, xT⟩ (c_J6_bitCount_0f7a4 l D kI kB (andn v (lnN P ((r : Int) - 1))) (andn_le _ _ hv)) (va_cwS 1 xT gX3_freeSides_J6_bitCount_0f7a4 rfl rfl rfl hdn_J6_bitCount_0f7a4 ⟨Nat.le_of_ble_eq_true rfl, Nat.le_of_ble_eq_true rfl⟩) (g_preS wP wD wK [] (by decide) rfl) rfl rfl wl.1 rfl (lv_room (Nat.le_of_ble_eq_true rfl)) dX3_freeSides_12 ⟨Nat.le_of_ble_eq_true rfl, Nat.le_of_ble_eq_true rfl⟩) wP wS (fun H locs wP wS => ?_)
  refine z_iadd xX xB dX3_freeSides_15 ?_
  refine lv_iload_n xX xB dX3_freeSides_16 rfl (lv_at wl 2 rfl) ?_
  refine lv_aload_n xX xB dX3_freeSides_17 rfl (lv_at wl 0 rfl) ?_
  refine lv_iload_n xX xB dX3_freeSides_18 rfl (lv_at wl 1 rfl) ?_
  refine z_iconst xX xB dX3_freeSides_19 ?_
  refine z_iadd xX xB dX3_freeSides_20 ?_
  refine g_pure (va_runV (As := [.int (zI ((r : Int) + 1))]) (rest := [.int (zI (v : Int)), .int (zI (2 + ((pop (andn v (lnN P ((r : Int) - 1))) : Nat) : Int)))]) ⟨xX, xB, xM, xO, xT⟩ (c_X3_line l D kI kB h q1 q2 F jb ((r : Int) + 1) (by omega)) (cwV 1 xT gX3_freeSides_X3_line rfl rfl rfl hd_X3_line ⟨Nat.le_of_ble_eq_true rfl, Nat.le_of_ble_eq_true rfl⟩) (g_preV (ci := 3) (q0 := 0) wP wD wK [0, 1] (by decide) rfl rfl rfl) rfl rfl wl.1 rfl (lv_room (Nat.le_of_ble_eq_true rfl)) dX3_freeSides_21 ⟨Nat.le_of_ble_eq_true rfl, Nat.le_of_ble_eq_true rfl⟩) wP wS (fun H locs wP wS => ?_)
  refine z_iconst xX xB dX3_freeSides_24 ?_
  refine lv_ixor xX xB dX3_freeSides_25 ?_
  refine lv_iand xX xB dX3_freeSides_26 ?_
  refine lv_ri (y := zI ((andn v (lnN P ((r : Int) + 1)) : Nat) : Int)) (by rw [hF.ln]; exact zb_andn _ _ hv (by have := hF.lnlt ((r : Int) + 1); omega)) ?_
  refine g_pure (va_runS (As := [.int (zI ((andn v (lnN P ((r : Int) + 1)) : Nat) : Int))]) (rest := [.int (zI (2 + ((pop (andn v (lnN P ((r : Int) - 1))) : Nat) : Int)))]) ⟨xX, xB, xM, xO, xT⟩ (c_J6_bitCount_0f7a4 l D kI kB (andn v (lnN P ((r : Int) + 1))) (andn_le _ _ hv)) (va_cwS 1 xT gX3_freeSides_J6_bitCount_0f7a4 rfl rfl rfl hdn_J6_bitCount_0f7a4 ⟨Nat.le_of_ble_eq_true rfl, Nat.le_of_ble_eq_true rfl⟩) (g_preS wP wD wK [] (by decide) rfl) rfl rfl wl.1 rfl (lv_room (Nat.le_of_ble_eq_true rfl)) dX3_freeSides_27 ⟨Nat.le_of_ble_eq_true rfl, Nat.le_of_ble_eq_true rfl⟩) wP wS (fun H locs wP wS => ?_)
  refine z_iadd xX xB dX3_freeSides_30 ?_
  exact g_iret xX xB xR xL wS dX3_freeSides_31 rfl

set_option maxHeartbeats 4000000 in
set_option maxRecDepth 100000 in
theorem c_X3_becomeNext (l : Launch) (D : va_G) (kI kB : ClassId) (h : Nat) (q1 : Nat) (q2 : Nat) (F : Nat → Int) (G : Nat → Int) (jb : Int) : gV l yX3_becomeNext wsX3_becomeNext ({ frames := 1, cells := 0, slots := 0, locals := 18 } : Room) D kI kB [.ref h] [(h, .inr (3, [.ref q1, .ref q2, .int (zI jb)])), (q1, .inl (kI, 16, .inl (aZ F))), (q2, .inl (kI, 16, .inl (aZ G)))] (fun (_ : Unit) => [(h, .inr (3, [.ref q1, .ref q2, .int (zI jb)])), (q1, .inl (kI, 16, .inl (aZ (cpZ G F 0 0 16)))), (q2, .inl (kI, 16, .inl (aZ G)))]) (fun (_ : Unit) => True) := by
  refine g_start (cc := cX3_becomeNext) (maxL := 1) (ret := none) (by decide) rfl (Nat.le_of_ble_eq_true rfl) ?_
  intro xp xe xs xm xbl xmt xc xX xB xR xM xT xO xL xN wP wD wK ls wl
  have wS : va_S (gA [(h, .inr (3, [.ref q1, .ref q2, .int (zI jb)])), (q1, .inl (kI, 16, .inl (aZ F))), (q2, .inl (kI, 16, .inl (aZ G)))]) xs.heap xs.heap [] := va_S.rf
  have wl : lv_has ls 1 [(0, .ref h)] := wl
  refine lv_aload_n xX xB dX3_becomeNext_0 rfl (lv_at wl 0 rfl) ?_
  refine va_get (D := D) (ci := 3) (v := .ref q2) (C := RX3) (T := TX3) (N := 3) xX xB xT in_X3_becomeNext_X3 xO wK.1 wP 0 rfl rfl 1 (by decide) (xT _ (List.mem_of_getElem? (i := 1) rfl)) (fun _ h9 => h9) rfl dX3_becomeNext_1 ?_
  refine z_iconst xX xB dX3_becomeNext_4 ?_
  refine lv_aload_n xX xB dX3_becomeNext_5 rfl (lv_at wl 0 rfl) ?_
  refine va_get (D := D) (ci := 3) (v := .ref q1) (C := RX3) (T := TX3) (N := 3) xX xB xT in_X3_becomeNext_X3 xO wK.1 wP 0 rfl rfl 0 (by decide) (xT _ (List.mem_of_getElem? (i := 2) rfl)) (fun _ h9 => h9) rfl dX3_becomeNext_6 ?_
  refine z_iconst xX xB dX3_becomeNext_9 ?_
  refine z_bipush xX xB dX3_becomeNext_10 (by decide) ?_
  refine z_copy xX xB (xM.trans wl.1.symm) xO (xT _ (List.mem_of_getElem? (i := 3) rfl)) (xT _ (List.mem_of_getElem? (i := 4) rfl)) (xT _ (List.mem_of_getElem? (i := 5) rfl)) (xT _ (List.mem_of_getElem? (i := 6) rfl)) wK wP wD wS 2 1 rfl rfl 0 0 16 (by omega) (by omega) (by omega) (by decide) (by decide) (Nat.le_of_ble_eq_true rfl) (Nat.le_of_ble_eq_true rfl) (Nat.le_of_ble_eq_true rfl) (Nat.le_of_ble_eq_true rfl) dX3_becomeNext_12 (fun H locs wP wD wS => ?_)
  have wP : va_P D gC [(h, .inr (3, [.ref q1, .ref q2, .int (zI jb)])), (q1, .inl (kI, 16, .inl (aZ (cpZ G F 0 0 16)))), (q2, .inl (kI, 16, .inl (aZ G)))] H := wP
  have wD : va_D (gA [(h, .inr (3, [.ref q1, .ref q2, .int (zI jb)])), (q1, .inl (kI, 16, .inl (aZ F))), (q2, .inl (kI, 16, .inl (aZ G)))]) [(h, .inr (3, [.ref q1, .ref q2, .int (zI jb)])), (q1, .inl (kI, 16, .inl (aZ (cpZ G F 0 0 16)))), (q2, .inl (kI, 16, .inl (aZ G)))] := wD
  exact g_vret () xX xB xR xL wP wS dX3_becomeNext_15 trivial

set_option maxHeartbeats 4000000 in
set_option maxRecDepth 100000 in
theorem c_X3_becomeGrown (l : Launch) (D : va_G) (kI kB : ClassId) (h : Nat) (q1 : Nat) (q2 : Nat) (F : Nat → Int) (G : Nat → Int) (jb : Int) (P : Nat → Nat) (hF : Pic F P) (rj : -2147483648 ≤ jb ∧ jb ≤ 2147483647) : gV l yX3_becomeGrown wsX3_becomeGrown ({ frames := 2, cells := 0, slots := 0, locals := 38 } : Room) D kI kB [.ref h] [(h, .inr (3, [.ref q1, .ref q2, .int (zI jb)])), (q1, .inl (kI, 16, .inl (aZ F))), (q2, .inl (kI, 16, .inl (aZ G)))] (fun (w_ : (Nat → Int) × (Nat → Int)) => [(h, .inr (3, [.ref q1, .ref q2, .int (zI jb)])), (q1, .inl (kI, 16, .inl (aZ (w_.1)))), (q2, .inl (kI, 16, .inl (aZ (w_.2))))]) (fun (w_ : (Nat → Int) × (Nat → Int)) => Pic (w_.1) (grN P (decide (jb = 8)))) := by
  refine g_start (cc := cX3_becomeGrown) (maxL := 3) (ret := none) (by decide) rfl (Nat.le_of_ble_eq_true rfl) ?_
  intro xp xe xs xm xbl xmt xc xX xB xR xM xT xO xL xN wP wD wK ls wl
  have wS : va_S (gA [(h, .inr (3, [.ref q1, .ref q2, .int (zI jb)])), (q1, .inl (kI, 16, .inl (aZ F))), (q2, .inl (kI, 16, .inl (aZ G)))]) xs.heap xs.heap [] := va_S.rf
  have wl : lv_has ls 3 [(0, .ref h)] := wl
  generalize hQ : MQ xbl _ _ xs 0 0 _ = xQ
  refine z_iconst xX xB dX3_becomeGrown_0 ?_
  refine lv_istore_n (lv' := [(1, .int (zI 0)), (0, .ref h)]) xX xB dX3_becomeGrown_1 rfl wl (by decide) rfl (fun ls wl => ?_)
  have K : ∀ n_ : Nat, ∀ (i : Nat) (G1 : Nat → Int), 16 - i < n_ → (i ≤ 16) → (∀ k, k < i → G1 k = (grN P (decide (jb = 8)) k : Int)) → ∀ (H : Heap) (locs : List Loc) (ls : Array Slot), va_P D gC [(h, .inr (3, [.ref q1, .ref q2, .int (zI jb)])), (q1, .inl (kI, 16, .inl (aZ F))), (q2, .inl (kI, 16, .inl (aZ G1)))] H → va_D (gA [(h, .inr (3, [.ref q1, .ref q2, .int (zI jb)])), (q1, .inl (kI, 16, .inl (aZ F))), (q2, .inl (kI, 16, .inl (aZ G)))]) [(h, .inr (3, [.ref q1, .ref q2, .int (zI jb)])), (q1, .inl (kI, 16, .inl (aZ F))), (q2, .inl (kI, 16, .inl (aZ G1)))] → va_S (gA [(h, .inr (3, [.ref q1, .ref q2, .int (zI jb)])), (q1, .inl (kI, 16, .inl (aZ F))), (q2, .inl (kI, 16, .inl (aZ G)))]) xs.heap H locs → lv_has ls 3 [(0, .ref h), (1, .int (zI (i : Int)))] → W xp l xe ({ frames := 2, cells := 0, slots := 0, locals := 38 } : Room) xs xm (List.toArray [.ref h]) xbl xmt xc H locs 0 0 xQ (F0 xm 2 ls []) := by
    intro n_
    induction n_ with
    | zero =>
      intro i G1 hme
      exact absurd hme (Nat.not_lt_zero _)
    | succ n_ ihK =>
      intro i G1 hme hi hG H locs ls wP wD wS wl
      refine lv_iload_n xX xB dX3_becomeGrown_2 rfl (lv_at wl 1 rfl) ?_
      refine z_bipush xX xB dX3_becomeGrown_3 (by decide) ?_
      refine z_icmp_ge (tgt := 68) xX xB dX3_becomeGrown_5 (by decide) (by omega) (by omega) (fun h5 => ?_) (fun h5 => ?_)
      · skip
        refine lv_aload_n xX xB dX3_becomeGrown_68 rfl (lv_at wl 0 rfl) ?_
        refine g_modv (va_runV (As := []) (rest := []) ⟨xX, xB, xM, xO, xT⟩ (c_X3_becomeNext l D kI kB h q1 q2 F G1 jb) (cwV 0 xT gX3_becomeGrown_X3_becomeNext rfl rfl rfl hd_X3_becomeNext ⟨Nat.le_of_ble_eq_true rfl, Nat.le_of_ble_eq_true rfl⟩) (g_preV (ci := 3) (q0 := 0) wP wD wK [0, 1, 2] (by decide) rfl rfl rfl) rfl rfl wl.1 rfl (lv_room (Nat.le_of_ble_eq_true rfl)) dX3_becomeGrown_69 ⟨Nat.le_of_ble_eq_true rfl, Nat.le_of_ble_eq_true rfl⟩) wP wD wS [0, 1, 2] rfl (fun _ => rfl) (fun u_ H locs hc69 wP wD wS => ?_)
        try dsimp only at hc69
        have wP : va_P D gC [(h, .inr (3, [.ref q1, .ref q2, .int (zI jb)])), (q1, .inl (kI, 16, .inl (aZ (cpZ G1 F 0 0 16)))), (q2, .inl (kI, 16, .inl (aZ G1)))] H := wP
        have wD : va_D (gA [(h, .inr (3, [.ref q1, .ref q2, .int (zI jb)])), (q1, .inl (kI, 16, .inl (aZ F))), (q2, .inl (kI, 16, .inl (aZ G)))]) [(h, .inr (3, [.ref q1, .ref q2, .int (zI jb)])), (q1, .inl (kI, 16, .inl (aZ (cpZ G1 F 0 0 16)))), (q2, .inl (kI, 16, .inl (aZ G1)))] := wD
        subst hQ
        exact g_vret (cpZ G1 F 0 0 16, G1) xX xB xR xL wP wS dX3_becomeGrown_72 (Pic.of (fun k hk => hG k (by omega)) (fun k => grN_le hF _ k))
      · skip
        refine lv_aload_n xX xB dX3_becomeGrown_8 rfl (lv_at wl 0 rfl) ?_
        refine lv_iload_n xX xB dX3_becomeGrown_9 rfl (lv_at wl 1 rfl) ?_
        refine z_iconst xX xB dX3_becomeGrown_10 ?_
        refine z_isub xX xB dX3_becomeGrown_11 ?_
        refine g_pure (va_runV (As := [.int (zI ((i : Int) - 1))]) (rest := []) ⟨xX, xB, xM, xO, xT⟩ (c_X3_line l D kI kB h q1 q2 F jb ((i : Int) - 1) (by omega)) (cwV 1 xT gX3_becomeGrown_X3_line rfl rfl rfl hd_X3_line ⟨Nat.le_of_ble_eq_true rfl, Nat.le_of_ble_eq_true rfl⟩) (g_preV (ci := 3) (q0 := 0) wP wD wK [0, 1] (by decide) rfl rfl rfl) rfl rfl wl.1 rfl (lv_room (Nat.le_of_ble_eq_true rfl)) dX3_becomeGrown_12 ⟨Nat.le_of_ble_eq_true rfl, Nat.le_of_ble_eq_true rfl⟩) wP wS (fun H locs wP wS => ?_)
        refine lv_aload_n xX xB dX3_becomeGrown_15 rfl (lv_at wl 0 rfl) ?_
        refine lv_iload_n xX xB dX3_becomeGrown_16 rfl (lv_at wl 1 rfl) ?_
        refine z_iconst xX xB dX3_becomeGrown_17 ?_
        refine z_iadd xX xB dX3_becomeGrown_18 ?_
        refine g_pure (va_runV (As := [.int (zI ((i : Int) + 1))]) (rest := [.int (zI (lnZ F ((i : Int) - 1)))]) ⟨xX, xB, xM, xO, xT⟩ (c_X3_line l D kI kB h q1 q2 F jb ((i : Int) + 1) (by omega)) (cwV 1 xT gX3_becomeGrown_X3_line rfl rfl rfl hd_X3_line ⟨Nat.le_of_ble_eq_true rfl, Nat.le_of_ble_eq_true rfl⟩) (g_preV (ci := 3) (q0 := 0) wP wD wK [0, 1] (by decide) rfl rfl rfl) rfl rfl wl.1 rfl (lv_room (Nat.le_of_ble_eq_true rfl)) dX3_becomeGrown_19 ⟨Nat.le_of_ble_eq_true rfl, Nat.le_of_ble_eq_true rfl⟩) wP wS (fun H locs wP wS => ?_)
        refine lv_ior xX xB dX3_becomeGrown_22 ?_
        refine lv_ri (y := zI ((lnN P ((i : Int) - 1) ||| lnN P ((i : Int) + 1) : Nat) : Int)) (by rw [hF.ln, hF.ln, zb_or]) ?_
        refine lv_istore_n (lv' := [(2, .int (zI ((lnN P ((i : Int) - 1) ||| lnN P ((i : Int) + 1) : Nat) : Int))), (0, .ref h), (1, .int (zI (i : Int)))]) xX xB dX3_becomeGrown_23 rfl wl (by decide) rfl (fun ls wl => ?_)
        refine lv_aload_n xX xB dX3_becomeGrown_24 rfl (lv_at wl 1 rfl) ?_
        refine va_get (D := D) (ci := 3) (v := .ref q2) (C := RX3) (T := TX3) (N := 3) xX xB xT in_X3_becomeGrown_X3 xO wK.1 wP 0 rfl rfl 1 (by decide) (xT _ (List.mem_of_getElem? (i := 1) rfl)) (fun _ h9 => h9) rfl dX3_becomeGrown_25 ?_
        refine lv_iload_n xX xB dX3_becomeGrown_28 rfl (lv_at wl 2 rfl) ?_
        refine lv_aload_n xX xB dX3_becomeGrown_29 rfl (lv_at wl 1 rfl) ?_
        refine g_pure (va_runV (As := []) (rest := [.int (zI (i : Int)), .ref q2]) ⟨xX, xB, xM, xO, xT⟩ (c_X3_cornersJoin l D kI kB h q1 q2 jb rj) (cwV 0 xT gX3_becomeGrown_X3_cornersJoin rfl rfl rfl hd_X3_cornersJoin ⟨Nat.le_of_ble_eq_true rfl, Nat.le_of_ble_eq_true rfl⟩) (g_preV (ci := 3) (q0 := 0) wP wD wK [0] (by decide) rfl rfl rfl) rfl rfl wl.1 rfl (lv_room (Nat.le_of_ble_eq_true rfl)) dX3_becomeGrown_30 ⟨Nat.le_of_ble_eq_true rfl, Nat.le_of_ble_eq_true rfl⟩) wP wS (fun H locs wP wS => ?_)
        refine b_if_eq (tgt := 50) xX xB dX3_becomeGrown_33 (by decide) (fun h33 => ?_) (fun h33 => ?_)
        · skip
          refine lv_aload_n xX xB dX3_becomeGrown_50 rfl (lv_at wl 1 rfl) ?_
          refine va_get (D := D) (ci := 3) (v := .ref q1) (C := RX3) (T := TX3) (N := 3) xX xB xT in_X3_becomeGrown_X3 xO wK.1 wP 0 rfl rfl 0 (by decide) (xT _ (List.mem_of_getElem? (i := 2) rfl)) (fun _ h9 => h9) rfl dX3_becomeGrown_51 ?_
          refine lv_iload_n xX xB dX3_becomeGrown_54 rfl (lv_at wl 2 rfl) ?_
          refine z_iald xX xB wK wP 1 rfl i rfl (by omega) (Nat.le_of_ble_eq_true rfl) dX3_becomeGrown_55 ?_
          refine lv_ri (y := zI (P i : Int)) (congrArg zI (hF i (by omega)).1) ?_
          refine g_pure (va_runS (As := [.int (zI ((P i : Nat) : Int))]) (rest := [.int (zI (i : Int)), .ref q2]) ⟨xX, xB, xM, xO, xT⟩ (c_X3_widened l D kI kB (P i) (hF i (by omega)).2) (va_cwS 1 xT gX3_becomeGrown_X3_widened rfl rfl rfl hdn_X3_widened ⟨Nat.le_of_ble_eq_true rfl, Nat.le_of_ble_eq_true rfl⟩) (g_preS wP wD wK [] (by decide) rfl) rfl rfl wl.1 rfl (lv_room (Nat.le_of_ble_eq_true rfl)) dX3_becomeGrown_56 ⟨Nat.le_of_ble_eq_true rfl, Nat.le_of_ble_eq_true rfl⟩) wP wS (fun H locs wP wS => ?_)
          refine lv_iload_n xX xB dX3_becomeGrown_59 rfl (lv_at wl 0 rfl) ?_
          refine lv_ior xX xB dX3_becomeGrown_60 ?_
          refine lv_ri (y := zI (((wid (P i)) ||| (lnN P ((i : Int) - 1) ||| lnN P ((i : Int) + 1)) : Nat) : Int)) (zb_or _ _) ?_
          refine z_iast xX xB wK wP wD wS 2 rfl i rfl (by omega) (Nat.le_of_ble_eq_true rfl) dX3_becomeGrown_61 (fun H locs wP wD wS => ?_)
          have wP : va_P D gC [(h, .inr (3, [.ref q1, .ref q2, .int (zI jb)])), (q1, .inl (kI, 16, .inl (aZ F))), (q2, .inl (kI, 16, .inl (aZ (uZ G1 i (((wid (P i)) ||| (lnN P ((i : Int) - 1) ||| lnN P ((i : Int) + 1)) : Nat) : Int)))))] H := wP
          have wD : va_D (gA [(h, .inr (3, [.ref q1, .ref q2, .int (zI jb)])), (q1, .inl (kI, 16, .inl (aZ F))), (q2, .inl (kI, 16, .inl (aZ G)))]) [(h, .inr (3, [.ref q1, .ref q2, .int (zI jb)])), (q1, .inl (kI, 16, .inl (aZ F))), (q2, .inl (kI, 16, .inl (aZ (uZ G1 i (((wid (P i)) ||| (lnN P ((i : Int) - 1) ||| lnN P ((i : Int) + 1)) : Nat) : Int)))))] := wD
          refine lv_iinc (v := zI ((i : Int) + 1)) (lv' := [(1, .int (zI ((i : Int) + 1))), (2, .int (zI ((lnN P ((i : Int) - 1) ||| lnN P ((i : Int) + 1) : Nat) : Int))), (0, .ref h)]) xX xB dX3_becomeGrown_62 wl (k := 2) rfl (zI_add _ _) (by decide) rfl (fun ls wl => ?_)
          refine lv_goto (tgt := 2) xX xB dX3_becomeGrown_65 (by decide) ?_
          exact ihK (i + 1) (uZ G1 i (((wid (P i)) ||| (lnN P ((i : Int) - 1) ||| lnN P ((i : Int) + 1)) : Nat) : Int)) (by omega) (by omega) (ext_fill hG (by unfold grN; rw [h33]; rfl)) _ _ _ wP wD wS (lv_sub wl [2, 0] rfl)
        · skip
          refine lv_aload_n xX xB dX3_becomeGrown_36 rfl (lv_at wl 1 rfl) ?_
          refine va_get (D := D) (ci := 3) (v := .ref q1) (C := RX3) (T := TX3) (N := 3) xX xB xT in_X3_becomeGrown_X3 xO wK.1 wP 0 rfl rfl 0 (by decide) (xT _ (List.mem_of_getElem? (i := 2) rfl)) (fun _ h9 => h9) rfl dX3_becomeGrown_37 ?_
          refine lv_iload_n xX xB dX3_becomeGrown_40 rfl (lv_at wl 2 rfl) ?_
          refine z_iald xX xB wK wP 1 rfl i rfl (by omega) (Nat.le_of_ble_eq_true rfl) dX3_becomeGrown_41 ?_
          refine lv_ri (y := zI (P i : Int)) (congrArg zI (hF i (by omega)).1) ?_
          refine lv_iload_n xX xB dX3_becomeGrown_42 rfl (lv_at wl 0 rfl) ?_
          refine lv_ior xX xB dX3_becomeGrown_43 ?_
          refine lv_ri (y := zI (((P i) ||| (lnN P ((i : Int) - 1) ||| lnN P ((i : Int) + 1)) : Nat) : Int)) (zb_or _ _) ?_
          refine g_pure (va_runS (As := [.int (zI (((P i) ||| (lnN P ((i : Int) - 1) ||| lnN P ((i : Int) + 1)) : Nat) : Int))]) (rest := [.int (zI (i : Int)), .ref q2]) ⟨xX, xB, xM, xO, xT⟩ (c_X3_widened l D kI kB ((P i) ||| (lnN P ((i : Int) - 1) ||| lnN P ((i : Int) + 1))) (or_le (hF i (by omega)).2 (or_le (hF.lnlt _) (hF.lnlt _)))) (va_cwS 1 xT gX3_becomeGrown_X3_widened rfl rfl rfl hdn_X3_widened ⟨Nat.le_of_ble_eq_true rfl, Nat.le_of_ble_eq_true rfl⟩) (g_preS wP wD wK [] (by decide) rfl) rfl rfl wl.1 rfl (lv_room (Nat.le_of_ble_eq_true rfl)) dX3_becomeGrown_44 ⟨Nat.le_of_ble_eq_true rfl, Nat.le_of_ble_eq_true rfl⟩) wP wS (fun H locs wP wS => ?_)
          refine lv_goto (tgt := 61) xX xB dX3_becomeGrown_47 (by decide) ?_
          refine z_iast xX xB wK wP wD wS 2 rfl i rfl (by omega) (Nat.le_of_ble_eq_true rfl) dX3_becomeGrown_61 (fun H locs wP wD wS => ?_)
          have wP : va_P D gC [(h, .inr (3, [.ref q1, .ref q2, .int (zI jb)])), (q1, .inl (kI, 16, .inl (aZ F))), (q2, .inl (kI, 16, .inl (aZ (uZ G1 i ((wid ((P i) ||| (lnN P ((i : Int) - 1) ||| lnN P ((i : Int) + 1))) : Nat) : Int)))))] H := wP
          have wD : va_D (gA [(h, .inr (3, [.ref q1, .ref q2, .int (zI jb)])), (q1, .inl (kI, 16, .inl (aZ F))), (q2, .inl (kI, 16, .inl (aZ G)))]) [(h, .inr (3, [.ref q1, .ref q2, .int (zI jb)])), (q1, .inl (kI, 16, .inl (aZ F))), (q2, .inl (kI, 16, .inl (aZ (uZ G1 i ((wid ((P i) ||| (lnN P ((i : Int) - 1) ||| lnN P ((i : Int) + 1))) : Nat) : Int)))))] := wD
          refine lv_iinc (v := zI ((i : Int) + 1)) (lv' := [(1, .int (zI ((i : Int) + 1))), (2, .int (zI ((lnN P ((i : Int) - 1) ||| lnN P ((i : Int) + 1) : Nat) : Int))), (0, .ref h)]) xX xB dX3_becomeGrown_62 wl (k := 2) rfl (zI_add _ _) (by decide) rfl (fun ls wl => ?_)
          refine lv_goto (tgt := 2) xX xB dX3_becomeGrown_65 (by decide) ?_
          exact ihK (i + 1) (uZ G1 i ((wid ((P i) ||| (lnN P ((i : Int) - 1) ||| lnN P ((i : Int) + 1))) : Nat) : Int)) (by omega) (by omega) (ext_fill hG (by unfold grN; rw [h33]; rfl)) _ _ _ wP wD wS (lv_sub wl [2, 0] rfl)
  exact K _ 0 G (Nat.lt_succ_self _) (by omega) (fun k hk => absurd hk (Nat.not_lt_zero k)) _ _ _ wP wD wS (lv_sub wl [1, 0] rfl)

set_option maxHeartbeats 4000000 in
set_option maxRecDepth 100000 in
theorem c_X3_becomeShrunk (l : Launch) (D : va_G) (kI kB : ClassId) (h : Nat) (q1 : Nat) (q2 : Nat) (F : Nat → Int) (G : Nat → Int) (jb : Int) (P : Nat → Nat) (hF : Pic F P) (rj : -2147483648 ≤ jb ∧ jb ≤ 2147483647) : gV l yX3_becomeShrunk wsX3_becomeShrunk ({ frames := 2, cells := 0, slots := 0, locals := 38 } : Room) D kI kB [.ref h] [(h, .inr (3, [.ref q1, .ref q2, .int (zI jb)])), (q1, .inl (kI, 16, .inl (aZ F))), (q2, .inl (kI, 16, .inl (aZ G)))] (fun (w_ : (Nat → Int) × (Nat → Int)) => [(h, .inr (3, [.ref q1, .ref q2, .int (zI jb)])), (q1, .inl (kI, 16, .inl (aZ (w_.1)))), (q2, .inl (kI, 16, .inl (aZ (w_.2))))]) (fun (w_ : (Nat → Int) × (Nat → Int)) => Pic (w_.1) (shN P (decide (jb = 8)))) := by
  refine g_start (cc := cX3_becomeShrunk) (maxL := 3) (ret := none) (by decide) rfl (Nat.le_of_ble_eq_true rfl) ?_
  intro xp xe xs xm xbl xmt xc xX xB xR xM xT xO xL xN wP wD wK ls wl
  have wS : va_S (gA [(h, .inr (3, [.ref q1, .ref q2, .int (zI jb)])), (q1, .inl (kI, 16, .inl (aZ F))), (q2, .inl (kI, 16, .inl (aZ G)))]) xs.heap xs.heap [] := va_S.rf
  have wl : lv_has ls 3 [(0, .ref h)] := wl
  generalize hQ : MQ xbl _ _ xs 0 0 _ = xQ
  refine z_iconst xX xB dX3_becomeShrunk_0 ?_
  refine lv_istore_n (lv' := [(1, .int (zI 0)), (0, .ref h)]) xX xB dX3_becomeShrunk_1 rfl wl (by decide) rfl (fun ls wl => ?_)
  have K : ∀ n_ : Nat, ∀ (i : Nat) (G1 : Nat → Int), 16 - i < n_ → (i ≤ 16) → (∀ k, k < i → G1 k = (shN P (decide (jb = 8)) k : Int)) → ∀ (H : Heap) (locs : List Loc) (ls : Array Slot), va_P D gC [(h, .inr (3, [.ref q1, .ref q2, .int (zI jb)])), (q1, .inl (kI, 16, .inl (aZ F))), (q2, .inl (kI, 16, .inl (aZ G1)))] H → va_D (gA [(h, .inr (3, [.ref q1, .ref q2, .int (zI jb)])), (q1, .inl (kI, 16, .inl (aZ F))), (q2, .inl (kI, 16, .inl (aZ G)))]) [(h, .inr (3, [.ref q1, .ref q2, .int (zI jb)])), (q1, .inl (kI, 16, .inl (aZ F))), (q2, .inl (kI, 16, .inl (aZ G1)))] → va_S (gA [(h, .inr (3, [.ref q1, .ref q2, .int (zI jb)])), (q1, .inl (kI, 16, .inl (aZ F))), (q2, .inl (kI, 16, .inl (aZ G)))]) xs.heap H locs → lv_has ls 3 [(0, .ref h), (1, .int (zI (i : Int)))] → W xp l xe ({ frames := 2, cells := 0, slots := 0, locals := 38 } : Room) xs xm (List.toArray [.ref h]) xbl xmt xc H locs 0 0 xQ (F0 xm 2 ls []) := by
    intro n_
    induction n_ with
    | zero =>
      intro i G1 hme
      exact absurd hme (Nat.not_lt_zero _)
    | succ n_ ihK =>
      intro i G1 hme hi hG H locs ls wP wD wS wl
      refine lv_iload_n xX xB dX3_becomeShrunk_2 rfl (lv_at wl 1 rfl) ?_
      refine z_bipush xX xB dX3_becomeShrunk_3 (by decide) ?_
      refine z_icmp_ge (tgt := 68) xX xB dX3_becomeShrunk_5 (by decide) (by omega) (by omega) (fun h5 => ?_) (fun h5 => ?_)
      · skip
        refine lv_aload_n xX xB dX3_becomeShrunk_68 rfl (lv_at wl 0 rfl) ?_
        refine g_modv (va_runV (As := []) (rest := []) ⟨xX, xB, xM, xO, xT⟩ (c_X3_becomeNext l D kI kB h q1 q2 F G1 jb) (cwV 0 xT gX3_becomeShrunk_X3_becomeNext rfl rfl rfl hd_X3_becomeNext ⟨Nat.le_of_ble_eq_true rfl, Nat.le_of_ble_eq_true rfl⟩) (g_preV (ci := 3) (q0 := 0) wP wD wK [0, 1, 2] (by decide) rfl rfl rfl) rfl rfl wl.1 rfl (lv_room (Nat.le_of_ble_eq_true rfl)) dX3_becomeShrunk_69 ⟨Nat.le_of_ble_eq_true rfl, Nat.le_of_ble_eq_true rfl⟩) wP wD wS [0, 1, 2] rfl (fun _ => rfl) (fun u_ H locs hc69 wP wD wS => ?_)
        try dsimp only at hc69
        have wP : va_P D gC [(h, .inr (3, [.ref q1, .ref q2, .int (zI jb)])), (q1, .inl (kI, 16, .inl (aZ (cpZ G1 F 0 0 16)))), (q2, .inl (kI, 16, .inl (aZ G1)))] H := wP
        have wD : va_D (gA [(h, .inr (3, [.ref q1, .ref q2, .int (zI jb)])), (q1, .inl (kI, 16, .inl (aZ F))), (q2, .inl (kI, 16, .inl (aZ G)))]) [(h, .inr (3, [.ref q1, .ref q2, .int (zI jb)])), (q1, .inl (kI, 16, .inl (aZ (cpZ G1 F 0 0 16)))), (q2, .inl (kI, 16, .inl (aZ G1)))] := wD
        subst hQ
        exact g_vret (cpZ G1 F 0 0 16, G1) xX xB xR xL wP wS dX3_becomeShrunk_72 (Pic.of (fun k hk => hG k (by omega)) (fun k => shN_le hF _ k))
      · skip
        refine lv_aload_n xX xB dX3_becomeShrunk_8 rfl (lv_at wl 0 rfl) ?_
        refine lv_iload_n xX xB dX3_becomeShrunk_9 rfl (lv_at wl 1 rfl) ?_
        refine z_iconst xX xB dX3_becomeShrunk_10 ?_
        refine z_isub xX xB dX3_becomeShrunk_11 ?_
        refine g_pure (va_runV (As := [.int (zI ((i : Int) - 1))]) (rest := []) ⟨xX, xB, xM, xO, xT⟩ (c_X3_line l D kI kB h q1 q2 F jb ((i : Int) - 1) (by omega)) (cwV 1 xT gX3_becomeShrunk_X3_line rfl rfl rfl hd_X3_line ⟨Nat.le_of_ble_eq_true rfl, Nat.le_of_ble_eq_true rfl⟩) (g_preV (ci := 3) (q0 := 0) wP wD wK [0, 1] (by decide) rfl rfl rfl) rfl rfl wl.1 rfl (lv_room (Nat.le_of_ble_eq_true rfl)) dX3_becomeShrunk_12 ⟨Nat.le_of_ble_eq_true rfl, Nat.le_of_ble_eq_true rfl⟩) wP wS (fun H locs wP wS => ?_)
        refine lv_aload_n xX xB dX3_becomeShrunk_15 rfl (lv_at wl 0 rfl) ?_
        refine lv_iload_n xX xB dX3_becomeShrunk_16 rfl (lv_at wl 1 rfl) ?_
        refine z_iconst xX xB dX3_becomeShrunk_17 ?_
        refine z_iadd xX xB dX3_becomeShrunk_18 ?_
        refine g_pure (va_runV (As := [.int (zI ((i : Int) + 1))]) (rest := [.int (zI (lnZ F ((i : Int) - 1)))]) ⟨xX, xB, xM, xO, xT⟩ (c_X3_line l D kI kB h q1 q2 F jb ((i : Int) + 1) (by omega)) (cwV 1 xT gX3_becomeShrunk_X3_line rfl rfl rfl hd_X3_line ⟨Nat.le_of_ble_eq_true rfl, Nat.le_of_ble_eq_true rfl⟩) (g_preV (ci := 3) (q0 := 0) wP wD wK [0, 1] (by decide) rfl rfl rfl) rfl rfl wl.1 rfl (lv_room (Nat.le_of_ble_eq_true rfl)) dX3_becomeShrunk_19 ⟨Nat.le_of_ble_eq_true rfl, Nat.le_of_ble_eq_true rfl⟩) wP wS (fun H locs wP wS => ?_)
        refine lv_iand xX xB dX3_becomeShrunk_22 ?_
        refine lv_ri (y := zI ((lnN P ((i : Int) - 1) &&& lnN P ((i : Int) + 1) : Nat) : Int)) (by rw [hF.ln, hF.ln, zb_and]) ?_
        refine lv_istore_n (lv' := [(2, .int (zI ((lnN P ((i : Int) - 1) &&& lnN P ((i : Int) + 1) : Nat) : Int))), (0, .ref h), (1, .int (zI (i : Int)))]) xX xB dX3_becomeShrunk_23 rfl wl (by decide) rfl (fun ls wl => ?_)
        refine lv_aload_n xX xB dX3_becomeShrunk_24 rfl (lv_at wl 1 rfl) ?_
        refine va_get (D := D) (ci := 3) (v := .ref q2) (C := RX3) (T := TX3) (N := 3) xX xB xT in_X3_becomeShrunk_X3 xO wK.1 wP 0 rfl rfl 1 (by decide) (xT _ (List.mem_of_getElem? (i := 1) rfl)) (fun _ h9 => h9) rfl dX3_becomeShrunk_25 ?_
        refine lv_iload_n xX xB dX3_becomeShrunk_28 rfl (lv_at wl 2 rfl) ?_
        refine lv_aload_n xX xB dX3_becomeShrunk_29 rfl (lv_at wl 1 rfl) ?_
        refine g_pure (va_runV (As := []) (rest := [.int (zI (i : Int)), .ref q2]) ⟨xX, xB, xM, xO, xT⟩ (c_X3_cornersJoin l D kI kB h q1 q2 jb rj) (cwV 0 xT gX3_becomeShrunk_X3_cornersJoin rfl rfl rfl hd_X3_cornersJoin ⟨Nat.le_of_ble_eq_true rfl, Nat.le_of_ble_eq_true rfl⟩) (g_preV (ci := 3) (q0 := 0) wP wD wK [0] (by decide) rfl rfl rfl) rfl rfl wl.1 rfl (lv_room (Nat.le_of_ble_eq_true rfl)) dX3_becomeShrunk_30 ⟨Nat.le_of_ble_eq_true rfl, Nat.le_of_ble_eq_true rfl⟩) wP wS (fun H locs wP wS => ?_)
        refine b_if_eq (tgt := 50) xX xB dX3_becomeShrunk_33 (by decide) (fun h33 => ?_) (fun h33 => ?_)
        · skip
          refine lv_aload_n xX xB dX3_becomeShrunk_50 rfl (lv_at wl 1 rfl) ?_
          refine va_get (D := D) (ci := 3) (v := .ref q1) (C := RX3) (T := TX3) (N := 3) xX xB xT in_X3_becomeShrunk_X3 xO wK.1 wP 0 rfl rfl 0 (by decide) (xT _ (List.mem_of_getElem? (i := 2) rfl)) (fun _ h9 => h9) rfl dX3_becomeShrunk_51 ?_
          refine lv_iload_n xX xB dX3_becomeShrunk_54 rfl (lv_at wl 2 rfl) ?_
          refine z_iald xX xB wK wP 1 rfl i rfl (by omega) (Nat.le_of_ble_eq_true rfl) dX3_becomeShrunk_55 ?_
          refine lv_ri (y := zI (P i : Int)) (congrArg zI (hF i (by omega)).1) ?_
          refine g_pure (va_runS (As := [.int (zI ((P i : Nat) : Int))]) (rest := [.int (zI (i : Int)), .ref q2]) ⟨xX, xB, xM, xO, xT⟩ (c_X3_narrowed l D kI kB (P i) (hF i (by omega)).2) (va_cwS 1 xT gX3_becomeShrunk_X3_narrowed rfl rfl rfl hdn_X3_narrowed ⟨Nat.le_of_ble_eq_true rfl, Nat.le_of_ble_eq_true rfl⟩) (g_preS wP wD wK [] (by decide) rfl) rfl rfl wl.1 rfl (lv_room (Nat.le_of_ble_eq_true rfl)) dX3_becomeShrunk_56 ⟨Nat.le_of_ble_eq_true rfl, Nat.le_of_ble_eq_true rfl⟩) wP wS (fun H locs wP wS => ?_)
          refine lv_iload_n xX xB dX3_becomeShrunk_59 rfl (lv_at wl 0 rfl) ?_
          refine lv_iand xX xB dX3_becomeShrunk_60 ?_
          refine lv_ri (y := zI (((nar (P i)) &&& (lnN P ((i : Int) - 1) &&& lnN P ((i : Int) + 1)) : Nat) : Int)) (zb_and _ _) ?_
          refine z_iast xX xB wK wP wD wS 2 rfl i rfl (by omega) (Nat.le_of_ble_eq_true rfl) dX3_becomeShrunk_61 (fun H locs wP wD wS => ?_)
          have wP : va_P D gC [(h, .inr (3, [.ref q1, .ref q2, .int (zI jb)])), (q1, .inl (kI, 16, .inl (aZ F))), (q2, .inl (kI, 16, .inl (aZ (uZ G1 i (((nar (P i)) &&& (lnN P ((i : Int) - 1) &&& lnN P ((i : Int) + 1)) : Nat) : Int)))))] H := wP
          have wD : va_D (gA [(h, .inr (3, [.ref q1, .ref q2, .int (zI jb)])), (q1, .inl (kI, 16, .inl (aZ F))), (q2, .inl (kI, 16, .inl (aZ G)))]) [(h, .inr (3, [.ref q1, .ref q2, .int (zI jb)])), (q1, .inl (kI, 16, .inl (aZ F))), (q2, .inl (kI, 16, .inl (aZ (uZ G1 i (((nar (P i)) &&& (lnN P ((i : Int) - 1) &&& lnN P ((i : Int) + 1)) : Nat) : Int)))))] := wD
          refine lv_iinc (v := zI ((i : Int) + 1)) (lv' := [(1, .int (zI ((i : Int) + 1))), (2, .int (zI ((lnN P ((i : Int) - 1) &&& lnN P ((i : Int) + 1) : Nat) : Int))), (0, .ref h)]) xX xB dX3_becomeShrunk_62 wl (k := 2) rfl (zI_add _ _) (by decide) rfl (fun ls wl => ?_)
          refine lv_goto (tgt := 2) xX xB dX3_becomeShrunk_65 (by decide) ?_
          exact ihK (i + 1) (uZ G1 i (((nar (P i)) &&& (lnN P ((i : Int) - 1) &&& lnN P ((i : Int) + 1)) : Nat) : Int)) (by omega) (by omega) (ext_fill hG (by unfold shN; rw [h33]; rfl)) _ _ _ wP wD wS (lv_sub wl [2, 0] rfl)
        · skip
          refine lv_aload_n xX xB dX3_becomeShrunk_36 rfl (lv_at wl 1 rfl) ?_
          refine va_get (D := D) (ci := 3) (v := .ref q1) (C := RX3) (T := TX3) (N := 3) xX xB xT in_X3_becomeShrunk_X3 xO wK.1 wP 0 rfl rfl 0 (by decide) (xT _ (List.mem_of_getElem? (i := 2) rfl)) (fun _ h9 => h9) rfl dX3_becomeShrunk_37 ?_
          refine lv_iload_n xX xB dX3_becomeShrunk_40 rfl (lv_at wl 2 rfl) ?_
          refine z_iald xX xB wK wP 1 rfl i rfl (by omega) (Nat.le_of_ble_eq_true rfl) dX3_becomeShrunk_41 ?_
          refine lv_ri (y := zI (P i : Int)) (congrArg zI (hF i (by omega)).1) ?_
          refine lv_iload_n xX xB dX3_becomeShrunk_42 rfl (lv_at wl 0 rfl) ?_
          refine lv_iand xX xB dX3_becomeShrunk_43 ?_
          refine lv_ri (y := zI (((P i) &&& (lnN P ((i : Int) - 1) &&& lnN P ((i : Int) + 1)) : Nat) : Int)) (zb_and _ _) ?_
          refine g_pure (va_runS (As := [.int (zI (((P i) &&& (lnN P ((i : Int) - 1) &&& lnN P ((i : Int) + 1)) : Nat) : Int))]) (rest := [.int (zI (i : Int)), .ref q2]) ⟨xX, xB, xM, xO, xT⟩ (c_X3_narrowed l D kI kB ((P i) &&& (lnN P ((i : Int) - 1) &&& lnN P ((i : Int) + 1))) (and_leL (hF i (by omega)).2 _)) (va_cwS 1 xT gX3_becomeShrunk_X3_narrowed rfl rfl rfl hdn_X3_narrowed ⟨Nat.le_of_ble_eq_true rfl, Nat.le_of_ble_eq_true rfl⟩) (g_preS wP wD wK [] (by decide) rfl) rfl rfl wl.1 rfl (lv_room (Nat.le_of_ble_eq_true rfl)) dX3_becomeShrunk_44 ⟨Nat.le_of_ble_eq_true rfl, Nat.le_of_ble_eq_true rfl⟩) wP wS (fun H locs wP wS => ?_)
          refine lv_goto (tgt := 61) xX xB dX3_becomeShrunk_47 (by decide) ?_
          refine z_iast xX xB wK wP wD wS 2 rfl i rfl (by omega) (Nat.le_of_ble_eq_true rfl) dX3_becomeShrunk_61 (fun H locs wP wD wS => ?_)
          have wP : va_P D gC [(h, .inr (3, [.ref q1, .ref q2, .int (zI jb)])), (q1, .inl (kI, 16, .inl (aZ F))), (q2, .inl (kI, 16, .inl (aZ (uZ G1 i ((nar ((P i) &&& (lnN P ((i : Int) - 1) &&& lnN P ((i : Int) + 1))) : Nat) : Int)))))] H := wP
          have wD : va_D (gA [(h, .inr (3, [.ref q1, .ref q2, .int (zI jb)])), (q1, .inl (kI, 16, .inl (aZ F))), (q2, .inl (kI, 16, .inl (aZ G)))]) [(h, .inr (3, [.ref q1, .ref q2, .int (zI jb)])), (q1, .inl (kI, 16, .inl (aZ F))), (q2, .inl (kI, 16, .inl (aZ (uZ G1 i ((nar ((P i) &&& (lnN P ((i : Int) - 1) &&& lnN P ((i : Int) + 1))) : Nat) : Int)))))] := wD
          refine lv_iinc (v := zI ((i : Int) + 1)) (lv' := [(1, .int (zI ((i : Int) + 1))), (2, .int (zI ((lnN P ((i : Int) - 1) &&& lnN P ((i : Int) + 1) : Nat) : Int))), (0, .ref h)]) xX xB dX3_becomeShrunk_62 wl (k := 2) rfl (zI_add _ _) (by decide) rfl (fun ls wl => ?_)
          refine lv_goto (tgt := 2) xX xB dX3_becomeShrunk_65 (by decide) ?_
          exact ihK (i + 1) (uZ G1 i ((nar ((P i) &&& (lnN P ((i : Int) - 1) &&& lnN P ((i : Int) + 1))) : Nat) : Int)) (by omega) (by omega) (ext_fill hG (by unfold shN; rw [h33]; rfl)) _ _ _ wP wD wS (lv_sub wl [2, 0] rfl)
  exact K _ 0 G (Nat.lt_succ_self _) (by omega) (fun k hk => absurd hk (Nat.not_lt_zero k)) _ _ _ wP wD wS (lv_sub wl [1, 0] rfl)

set_option maxHeartbeats 4000000 in
set_option maxRecDepth 100000 in
theorem c_X3_becomeMoved (l : Launch) (D : va_G) (kI kB : ClassId) (h : Nat) (q1 : Nat) (q2 : Nat) (F : Nat → Int) (G : Nat → Int) (jb : Int) (P : Nat → Nat) (dn : Int) (rt : Int) (hF : Pic F P) (hd : -15 ≤ dn ∧ dn ≤ 15) (hr2 : -15 ≤ rt ∧ rt ≤ 15) : gV l yX3_becomeMoved wsX3_becomeMoved ({ frames := 2, cells := 0, slots := 0, locals := 38 } : Room) D kI kB [.ref h, .int (zI dn), .int (zI rt)] [(h, .inr (3, [.ref q1, .ref q2, .int (zI jb)])), (q1, .inl (kI, 16, .inl (aZ F))), (q2, .inl (kI, 16, .inl (aZ G)))] (fun (w_ : (Nat → Int) × (Nat → Int)) => [(h, .inr (3, [.ref q1, .ref q2, .int (zI jb)])), (q1, .inl (kI, 16, .inl (aZ (w_.1)))), (q2, .inl (kI, 16, .inl (aZ (w_.2))))]) (fun (w_ : (Nat → Int) × (Nat → Int)) => Pic (w_.1) (mvN P dn rt)) := by
  refine g_start (cc := cX3_becomeMoved) (maxL := 4) (ret := none) (by decide) rfl (Nat.le_of_ble_eq_true rfl) ?_
  intro xp xe xs xm xbl xmt xc xX xB xR xM xT xO xL xN wP wD wK ls wl
  have wS : va_S (gA [(h, .inr (3, [.ref q1, .ref q2, .int (zI jb)])), (q1, .inl (kI, 16, .inl (aZ F))), (q2, .inl (kI, 16, .inl (aZ G)))]) xs.heap xs.heap [] := va_S.rf
  have wl : lv_has ls 4 [(0, .ref h), (1, .int (zI dn)), (2, .int (zI rt))] := wl
  generalize hQ : MQ xbl _ _ xs 0 0 _ = xQ
  refine z_iconst xX xB dX3_becomeMoved_0 ?_
  refine lv_istore_n (lv' := [(3, .int (zI 0)), (0, .ref h), (1, .int (zI dn)), (2, .int (zI rt))]) xX xB dX3_becomeMoved_1 rfl wl (by decide) rfl (fun ls wl => ?_)
  have K : ∀ n_ : Nat, ∀ (i : Nat) (G1 : Nat → Int), 16 - i < n_ → (i ≤ 16) → (∀ k, k < i → G1 k = (mvN P dn rt k : Int)) → ∀ (H : Heap) (locs : List Loc) (ls : Array Slot), va_P D gC [(h, .inr (3, [.ref q1, .ref q2, .int (zI jb)])), (q1, .inl (kI, 16, .inl (aZ F))), (q2, .inl (kI, 16, .inl (aZ G1)))] H → va_D (gA [(h, .inr (3, [.ref q1, .ref q2, .int (zI jb)])), (q1, .inl (kI, 16, .inl (aZ F))), (q2, .inl (kI, 16, .inl (aZ G)))]) [(h, .inr (3, [.ref q1, .ref q2, .int (zI jb)])), (q1, .inl (kI, 16, .inl (aZ F))), (q2, .inl (kI, 16, .inl (aZ G1)))] → va_S (gA [(h, .inr (3, [.ref q1, .ref q2, .int (zI jb)])), (q1, .inl (kI, 16, .inl (aZ F))), (q2, .inl (kI, 16, .inl (aZ G)))]) xs.heap H locs → lv_has ls 4 [(0, .ref h), (1, .int (zI dn)), (2, .int (zI rt)), (3, .int (zI (i : Int)))] → W xp l xe ({ frames := 2, cells := 0, slots := 0, locals := 38 } : Room) xs xm (List.toArray [.ref h, .int (zI dn), .int (zI rt)]) xbl xmt xc H locs 0 0 xQ (F0 xm 2 ls []) := by
    intro n_
    induction n_ with
    | zero =>
      intro i G1 hme
      exact absurd hme (Nat.not_lt_zero _)
    | succ n_ ihK =>
      intro i G1 hme hi hG H locs ls wP wD wS wl
      refine lv_iload_n xX xB dX3_becomeMoved_2 rfl (lv_at wl 3 rfl) ?_
      refine z_bipush xX xB dX3_becomeMoved_3 (by decide) ?_
      refine z_icmp_ge (tgt := 31) xX xB dX3_becomeMoved_5 (by decide) (by omega) (by omega) (fun h5 => ?_) (fun h5 => ?_)
      · skip
        refine lv_aload_n xX xB dX3_becomeMoved_31 rfl (lv_at wl 0 rfl) ?_
        refine g_modv (va_runV (As := []) (rest := []) ⟨xX, xB, xM, xO, xT⟩ (c_X3_becomeNext l D kI kB h q1 q2 F G1 jb) (cwV 0 xT gX3_becomeMoved_X3_becomeNext rfl rfl rfl hd_X3_becomeNext ⟨Nat.le_of_ble_eq_true rfl, Nat.le_of_ble_eq_true rfl⟩) (g_preV (ci := 3) (q0 := 0) wP wD wK [0, 1, 2] (by decide) rfl rfl rfl) rfl rfl wl.1 rfl (lv_room (Nat.le_of_ble_eq_true rfl)) dX3_becomeMoved_32 ⟨Nat.le_of_ble_eq_true rfl, Nat.le_of_ble_eq_true rfl⟩) wP wD wS [0, 1, 2] rfl (fun _ => rfl) (fun u_ H locs hc32 wP wD wS => ?_)
        try dsimp only at hc32
        have wP : va_P D gC [(h, .inr (3, [.ref q1, .ref q2, .int (zI jb)])), (q1, .inl (kI, 16, .inl (aZ (cpZ G1 F 0 0 16)))), (q2, .inl (kI, 16, .inl (aZ G1)))] H := wP
        have wD : va_D (gA [(h, .inr (3, [.ref q1, .ref q2, .int (zI jb)])), (q1, .inl (kI, 16, .inl (aZ F))), (q2, .inl (kI, 16, .inl (aZ G)))]) [(h, .inr (3, [.ref q1, .ref q2, .int (zI jb)])), (q1, .inl (kI, 16, .inl (aZ (cpZ G1 F 0 0 16)))), (q2, .inl (kI, 16, .inl (aZ G1)))] := wD
        subst hQ
        exact g_vret (cpZ G1 F 0 0 16, G1) xX xB xR xL wP wS dX3_becomeMoved_35 (Pic.of (fun k hk => hG k (by omega)) (fun k => mvN_le hF _ _ k))
      · skip
        refine lv_aload_n xX xB dX3_becomeMoved_8 rfl (lv_at wl 0 rfl) ?_
        refine va_get (D := D) (ci := 3) (v := .ref q2) (C := RX3) (T := TX3) (N := 3) xX xB xT in_X3_becomeMoved_X3 xO wK.1 wP 0 rfl rfl 1 (by decide) (xT _ (List.mem_of_getElem? (i := 1) rfl)) (fun _ h9 => h9) rfl dX3_becomeMoved_9 ?_
        refine lv_iload_n xX xB dX3_becomeMoved_12 rfl (lv_at wl 3 rfl) ?_
        refine lv_aload_n xX xB dX3_becomeMoved_13 rfl (lv_at wl 0 rfl) ?_
        refine lv_iload_n xX xB dX3_becomeMoved_14 rfl (lv_at wl 3 rfl) ?_
        refine lv_iload_n xX xB dX3_becomeMoved_15 rfl (lv_at wl 1 rfl) ?_
        refine z_isub xX xB dX3_becomeMoved_16 ?_
        refine g_pure (va_runV (As := [.int (zI ((i : Int) - dn))]) (rest := [.int (zI (i : Int)), .ref q2]) ⟨xX, xB, xM, xO, xT⟩ (c_X3_line l D kI kB h q1 q2 F jb ((i : Int) - dn) (by omega)) (cwV 1 xT gX3_becomeMoved_X3_line rfl rfl rfl hd_X3_line ⟨Nat.le_of_ble_eq_true rfl, Nat.le_of_ble_eq_true rfl⟩) (g_preV (ci := 3) (q0 := 0) wP wD wK [0, 1] (by decide) rfl rfl rfl) rfl rfl wl.1 rfl (lv_room (Nat.le_of_ble_eq_true rfl)) dX3_becomeMoved_17 ⟨Nat.le_of_ble_eq_true rfl, Nat.le_of_ble_eq_true rfl⟩) wP wS (fun H locs wP wS => ?_)
        refine lv_ri (y := zI (lnN P ((i : Int) - dn) : Int)) (congrArg zI (hF.ln _)) ?_
        refine lv_iload_n xX xB dX3_becomeMoved_20 rfl (lv_at wl 2 rfl) ?_
        refine g_pure (va_runS (As := [.int (zI ((lnN P ((i : Int) - dn) : Nat) : Int)), .int (zI rt)]) (rest := [.int (zI (i : Int)), .ref q2]) ⟨xX, xB, xM, xO, xT⟩ (c_X3_slid l D kI kB (lnN P ((i : Int) - dn)) rt (hF.lnlt _) hr2) (va_cwS 2 xT gX3_becomeMoved_X3_slid rfl rfl rfl hdn_X3_slid ⟨Nat.le_of_ble_eq_true rfl, Nat.le_of_ble_eq_true rfl⟩) (g_preS wP wD wK [] (by decide) rfl) rfl rfl wl.1 rfl (lv_room (Nat.le_of_ble_eq_true rfl)) dX3_becomeMoved_21 ⟨Nat.le_of_ble_eq_true rfl, Nat.le_of_ble_eq_true rfl⟩) wP wS (fun H locs wP wS => ?_)
        refine z_iast xX xB wK wP wD wS 2 rfl i rfl (by omega) (Nat.le_of_ble_eq_true rfl) dX3_becomeMoved_24 (fun H locs wP wD wS => ?_)
        have wP : va_P D gC [(h, .inr (3, [.ref q1, .ref q2, .int (zI jb)])), (q1, .inl (kI, 16, .inl (aZ F))), (q2, .inl (kI, 16, .inl (aZ (uZ G1 i ((sld (lnN P ((i : Int) - dn)) rt : Nat) : Int)))))] H := wP
        have wD : va_D (gA [(h, .inr (3, [.ref q1, .ref q2, .int (zI jb)])), (q1, .inl (kI, 16, .inl (aZ F))), (q2, .inl (kI, 16, .inl (aZ G)))]) [(h, .inr (3, [.ref q1, .ref q2, .int (zI jb)])), (q1, .inl (kI, 16, .inl (aZ F))), (q2, .inl (kI, 16, .inl (aZ (uZ G1 i ((sld (lnN P ((i : Int) - dn)) rt : Nat) : Int)))))] := wD
        refine lv_iinc (v := zI ((i : Int) + 1)) (lv' := [(3, .int (zI ((i : Int) + 1))), (0, .ref h), (1, .int (zI dn)), (2, .int (zI rt))]) xX xB dX3_becomeMoved_25 wl (k := 3) rfl (zI_add _ _) (by decide) rfl (fun ls wl => ?_)
        refine lv_goto (tgt := 2) xX xB dX3_becomeMoved_28 (by decide) ?_
        exact ihK (i + 1) (uZ G1 i ((sld (lnN P ((i : Int) - dn)) rt : Nat) : Int)) (by omega) (by omega) (ext_fill hG rfl) _ _ _ wP wD wS (lv_sub wl [1, 2, 3, 0] rfl)
  exact K _ 0 G (Nat.lt_succ_self _) (by omega) (fun k hk => absurd hk (Nat.not_lt_zero k)) _ _ _ wP wD wS (lv_sub wl [1, 2, 3, 0] rfl)

set_option maxHeartbeats 4000000 in
set_option maxRecDepth 100000 in
theorem c_X3_becomeOver (l : Launch) (D : va_G) (kI kB : ClassId) (h : Nat) (q1 : Nat) (q2 : Nat) (F : Nat → Int) (jb : Int) (P : Nat → Nat) (hF : Pic F P) : gV l yX3_becomeOver wsX3_becomeOver ({ frames := 0, cells := 0, slots := 0, locals := 0 } : Room) D kI kB [.ref h] [(h, .inr (3, [.ref q1, .ref q2, .int (zI jb)])), (q1, .inl (kI, 16, .inl (aZ F)))] (fun (F1 : Nat → Int) => [(h, .inr (3, [.ref q1, .ref q2, .int (zI jb)])), (q1, .inl (kI, 16, .inl (aZ F1)))]) (fun (F1 : Nat → Int) => Pic F1 (ovN P)) := by
  refine g_start (cc := cX3_becomeOver) (maxL := 2) (ret := none) (by decide) rfl (Nat.le_of_ble_eq_true rfl) ?_
  intro xp xe xs xm xbl xmt xc xX xB xR xM xT xO xL xN wP wD wK ls wl
  have wS : va_S (gA [(h, .inr (3, [.ref q1, .ref q2, .int (zI jb)])), (q1, .inl (kI, 16, .inl (aZ F)))]) xs.heap xs.heap [] := va_S.rf
  have wl : lv_has ls 2 [(0, .ref h)] := wl
  generalize hQ : MQ xbl _ _ xs 0 0 _ = xQ
  refine z_iconst xX xB dX3_becomeOver_0 ?_
  refine lv_istore_n (lv' := [(1, .int (zI 0)), (0, .ref h)]) xX xB dX3_becomeOver_1 rfl wl (by decide) rfl (fun ls wl => ?_)
  have K : ∀ n_ : Nat, ∀ (i : Nat) (F1 : Nat → Int), 16 - i < n_ → (i ≤ 16) → (∀ k, k < i → F1 k = (ovN P k : Int)) → (∀ k, i ≤ k → F1 k = F k) → ∀ (H : Heap) (locs : List Loc) (ls : Array Slot), va_P D gC [(h, .inr (3, [.ref q1, .ref q2, .int (zI jb)])), (q1, .inl (kI, 16, .inl (aZ F1)))] H → va_D (gA [(h, .inr (3, [.ref q1, .ref q2, .int (zI jb)])), (q1, .inl (kI, 16, .inl (aZ F)))]) [(h, .inr (3, [.ref q1, .ref q2, .int (zI jb)])), (q1, .inl (kI, 16, .inl (aZ F1)))] → va_S (gA [(h, .inr (3, [.ref q1, .ref q2, .int (zI jb)])), (q1, .inl (kI, 16, .inl (aZ F)))]) xs.heap H locs → lv_has ls 2 [(0, .ref h), (1, .int (zI (i : Int)))] → W xp l xe ({ frames := 0, cells := 0, slots := 0, locals := 0 } : Room) xs xm (List.toArray [.ref h]) xbl xmt xc H locs 0 0 xQ (F0 xm 2 ls []) := by
    intro n_
    induction n_ with
    | zero =>
      intro i F1 hme
      exact absurd hme (Nat.not_lt_zero _)
    | succ n_ ihK =>
      intro i F1 hme hi hG hG2 H locs ls wP wD wS wl
      refine lv_iload_n xX xB dX3_becomeOver_2 rfl (lv_at wl 1 rfl) ?_
      refine z_bipush xX xB dX3_becomeOver_3 (by decide) ?_
      refine z_icmp_ge (tgt := 31) xX xB dX3_becomeOver_5 (by decide) (by omega) (by omega) (fun h5 => ?_) (fun h5 => ?_)
      · skip
        subst hQ
        exact g_vret F1 xX xB xR xL wP wS dX3_becomeOver_31 (fun k hk => ⟨hG k (by omega), ovN_le P k⟩)
      · skip
        refine lv_aload_n xX xB dX3_becomeOver_8 rfl (lv_at wl 0 rfl) ?_
        refine va_get (D := D) (ci := 3) (v := .ref q1) (C := RX3) (T := TX3) (N := 3) xX xB xT in_X3_becomeOver_X3 xO wK.1 wP 0 rfl rfl 0 (by decide) (xT _ (List.mem_of_getElem? (i := 1) rfl)) (fun _ h9 => h9) rfl dX3_becomeOver_9 ?_
        refine lv_iload_n xX xB dX3_becomeOver_12 rfl (lv_at wl 1 rfl) ?_
        refine lv_aload_n xX xB dX3_becomeOver_13 rfl (lv_at wl 0 rfl) ?_
        refine va_get (D := D) (ci := 3) (v := .ref q1) (C := RX3) (T := TX3) (N := 3) xX xB xT in_X3_becomeOver_X3 xO wK.1 wP 0 rfl rfl 0 (by decide) (xT _ (List.mem_of_getElem? (i := 1) rfl)) (fun _ h9 => h9) rfl dX3_becomeOver_14 ?_
        refine lv_iload_n xX xB dX3_becomeOver_17 rfl (lv_at wl 1 rfl) ?_
        refine z_iald xX xB wK wP 1 rfl i rfl (by omega) (Nat.le_of_ble_eq_true rfl) dX3_becomeOver_18 ?_
        refine lv_ri (y := zI (P i : Int)) (congrArg zI ((hG2 i (Nat.le_refl i)).trans (hF i (by omega)).1)) ?_
        refine z_iconst xX xB dX3_becomeOver_19 ?_
        refine lv_ixor xX xB dX3_becomeOver_20 ?_
        refine z_ldc xX xB (65535) (by decide) xO (xT _ (List.mem_of_getElem? (i := 2) rfl)) dX3_becomeOver_21 ?_
        refine lv_iand xX xB dX3_becomeOver_23 ?_
        refine lv_ri (y := zI ((ovN P i : Nat) : Int)) (zb_ov (hF i (by omega)).2) ?_
        refine z_iast xX xB wK wP wD wS 1 rfl i rfl (by omega) (Nat.le_of_ble_eq_true rfl) dX3_becomeOver_24 (fun H locs wP wD wS => ?_)
        have wP : va_P D gC [(h, .inr (3, [.ref q1, .ref q2, .int (zI jb)])), (q1, .inl (kI, 16, .inl (aZ (uZ F1 i ((ovN P i : Nat) : Int)))))] H := wP
        have wD : va_D (gA [(h, .inr (3, [.ref q1, .ref q2, .int (zI jb)])), (q1, .inl (kI, 16, .inl (aZ F)))]) [(h, .inr (3, [.ref q1, .ref q2, .int (zI jb)])), (q1, .inl (kI, 16, .inl (aZ (uZ F1 i ((ovN P i : Nat) : Int)))))] := wD
        refine lv_iinc (v := zI ((i : Int) + 1)) (lv' := [(1, .int (zI ((i : Int) + 1))), (0, .ref h)]) xX xB dX3_becomeOver_25 wl (k := 1) rfl (zI_add _ _) (by decide) rfl (fun ls wl => ?_)
        refine lv_goto (tgt := 2) xX xB dX3_becomeOver_28 (by decide) ?_
        exact ihK (i + 1) (uZ F1 i ((ovN P i : Nat) : Int)) (by omega) (by omega) (ext_fill hG rfl) (fun k hk => by rw [uZ_n _ _ (by omega)]; exact hG2 k (by omega)) _ _ _ wP wD wS (lv_sub wl [1, 0] rfl)
  exact K _ 0 F (Nat.lt_succ_self _) (by omega) (fun k hk => absurd hk (Nat.not_lt_zero k)) (fun _ _ => rfl) _ _ _ wP wD wS (lv_sub wl [1, 0] rfl)

set_option maxHeartbeats 4000000 in
set_option maxRecDepth 100000 in
theorem c_X3_layBy_510 (l : Launch) (D : va_G) (kI kB : ClassId) (h : Nat) (q1 : Nat) (q2 : Nat) (F : Nat → Int) (jb : Int) (q : Nat) (T : Nat → Int) (k : Nat) (hk : k + 17 ≤ 510) : gV l yX3_layBy wsX3_layBy ({ frames := 1, cells := 0, slots := 0, locals := 18 } : Room) D kI kB [.ref h, .ref q, .int (zI (k : Int))] [(h, .inr (3, [.ref q1, .ref q2, .int (zI jb)])), (q1, .inl (kI, 16, .inl (aZ F))), (q, .inl (kI, 510, .inl (aZ T)))] (fun (_ : Unit) => [(h, .inr (3, [.ref q1, .ref q2, .int (zI jb)])), (q1, .inl (kI, 16, .inl (aZ F))), (q, .inl (kI, 510, .inl (aZ (uZ (cpZ F T 0 k 16) (k + 16) jb))))]) (fun (_ : Unit) => True) := by
  refine g_start (cc := cX3_layBy) (maxL := 3) (ret := none) (by decide) rfl (Nat.le_of_ble_eq_true rfl) ?_
  intro xp xe xs xm xbl xmt xc xX xB xR xM xT xO xL xN wP wD wK ls wl
  have wS : va_S (gA [(h, .inr (3, [.ref q1, .ref q2, .int (zI jb)])), (q1, .inl (kI, 16, .inl (aZ F))), (q, .inl (kI, 510, .inl (aZ T)))]) xs.heap xs.heap [] := va_S.rf
  have wl : lv_has ls 3 [(0, .ref h), (1, .ref q), (2, .int (zI (k : Int)))] := wl
  refine lv_iload_n xX xB dX3_layBy_0 rfl (lv_at wl 2 rfl) ?_
  refine z_if_lt (tgt := 13) xX xB dX3_layBy_1 (by decide) (by omega) (fun h1 => ?_) (fun h1 => ?_)
  · exact absurd h1 (by omega)
  · skip
    refine lv_iload_n xX xB dX3_layBy_4 rfl (lv_at wl 2 rfl) ?_
    refine lv_aload_n xX xB dX3_layBy_5 rfl (lv_at wl 1 rfl) ?_
    refine z_alen xX xB wK wP 2 rfl dX3_layBy_6 ?_
    refine z_bipush xX xB dX3_layBy_7 (by decide) ?_
    refine z_isub xX xB dX3_layBy_9 ?_
    refine z_icmp_le (tgt := 14) xX xB dX3_layBy_10 (by decide) (by omega) (by omega) (fun h10 => ?_) (fun h10 => ?_)
    · skip
      refine lv_aload_n xX xB dX3_layBy_14 rfl (lv_at wl 0 rfl) ?_
      refine va_get (D := D) (ci := 3) (v := .ref q1) (C := RX3) (T := TX3) (N := 3) xX xB xT in_X3_layBy_X3 xO wK.1 wP 0 rfl rfl 0 (by decide) (xT _ (List.mem_of_getElem? (i := 1) rfl)) (fun _ h9 => h9) rfl dX3_layBy_15 ?_
      refine z_iconst xX xB dX3_layBy_18 ?_
      refine lv_aload_n xX xB dX3_layBy_19 rfl (lv_at wl 1 rfl) ?_
      refine lv_iload_n xX xB dX3_layBy_20 rfl (lv_at wl 2 rfl) ?_
      refine z_bipush xX xB dX3_layBy_21 (by decide) ?_
      refine z_copy xX xB (xM.trans wl.1.symm) xO (xT _ (List.mem_of_getElem? (i := 2) rfl)) (xT _ (List.mem_of_getElem? (i := 3) rfl)) (xT _ (List.mem_of_getElem? (i := 4) rfl)) (xT _ (List.mem_of_getElem? (i := 5) rfl)) wK wP wD wS 1 2 rfl rfl 0 k 16 (by omega) (by omega) (by omega) (by decide) (by omega) (Nat.le_of_ble_eq_true rfl) (Nat.le_of_ble_eq_true rfl) (Nat.le_of_ble_eq_true rfl) (Nat.le_of_ble_eq_true rfl) dX3_layBy_23 (fun H locs wP wD wS => ?_)
      have wP : va_P D gC [(h, .inr (3, [.ref q1, .ref q2, .int (zI jb)])), (q1, .inl (kI, 16, .inl (aZ F))), (q, .inl (kI, 510, .inl (aZ (cpZ F T 0 k 16))))] H := wP
      have wD : va_D (gA [(h, .inr (3, [.ref q1, .ref q2, .int (zI jb)])), (q1, .inl (kI, 16, .inl (aZ F))), (q, .inl (kI, 510, .inl (aZ T)))]) [(h, .inr (3, [.ref q1, .ref q2, .int (zI jb)])), (q1, .inl (kI, 16, .inl (aZ F))), (q, .inl (kI, 510, .inl (aZ (cpZ F T 0 k 16))))] := wD
      refine lv_aload_n xX xB dX3_layBy_26 rfl (lv_at wl 1 rfl) ?_
      refine lv_iload_n xX xB dX3_layBy_27 rfl (lv_at wl 2 rfl) ?_
      refine z_bipush xX xB dX3_layBy_28 (by decide) ?_
      refine z_iadd xX xB dX3_layBy_30 ?_
      refine lv_aload_n xX xB dX3_layBy_31 rfl (lv_at wl 0 rfl) ?_
      refine va_get (D := D) (ci := 3) (v := .int (zI jb)) (C := RX3) (T := TX3) (N := 3) xX xB xT in_X3_layBy_X3 xO wK.1 wP 0 rfl rfl 2 (by decide) (xT _ (List.mem_of_getElem? (i := 6) rfl)) (fun _ h9 => h9) rfl dX3_layBy_32 ?_
      refine z_iast xX xB wK wP wD wS 2 rfl (k + 16) (by omega) (by omega) (Nat.le_of_ble_eq_true rfl) dX3_layBy_35 (fun H locs wP wD wS => ?_)
      have wP : va_P D gC [(h, .inr (3, [.ref q1, .ref q2, .int (zI jb)])), (q1, .inl (kI, 16, .inl (aZ F))), (q, .inl (kI, 510, .inl (aZ (uZ (cpZ F T 0 k 16) (k + 16) jb))))] H := wP
      have wD : va_D (gA [(h, .inr (3, [.ref q1, .ref q2, .int (zI jb)])), (q1, .inl (kI, 16, .inl (aZ F))), (q, .inl (kI, 510, .inl (aZ T)))]) [(h, .inr (3, [.ref q1, .ref q2, .int (zI jb)])), (q1, .inl (kI, 16, .inl (aZ F))), (q, .inl (kI, 510, .inl (aZ (uZ (cpZ F T 0 k 16) (k + 16) jb))))] := wD
      exact g_vret () xX xB xR xL wP wS dX3_layBy_36 trivial
    · exact absurd h10 (by omega)

set_option maxHeartbeats 4000000 in
set_option maxRecDepth 100000 in
theorem c_X3_takeUp_510 (l : Launch) (D : va_G) (kI kB : ClassId) (h : Nat) (q1 : Nat) (q2 : Nat) (F : Nat → Int) (jb : Int) (q : Nat) (T : Nat → Int) (k : Nat) (hk : k + 17 ≤ 510) : gV l yX3_takeUp wsX3_takeUp ({ frames := 1, cells := 0, slots := 0, locals := 18 } : Room) D kI kB [.ref h, .ref q, .int (zI (k : Int))] [(h, .inr (3, [.ref q1, .ref q2, .int (zI jb)])), (q1, .inl (kI, 16, .inl (aZ F))), (q, .inl (kI, 510, .inl (aZ T)))] (fun (_ : Unit) => [(h, .inr (3, [.ref q1, .ref q2, .int (zI (T (k + 16)))])), (q1, .inl (kI, 16, .inl (aZ (cpZ T F k 0 16)))), (q, .inl (kI, 510, .inl (aZ T)))]) (fun (_ : Unit) => True) := by
  refine g_start (cc := cX3_takeUp) (maxL := 3) (ret := none) (by decide) rfl (Nat.le_of_ble_eq_true rfl) ?_
  intro xp xe xs xm xbl xmt xc xX xB xR xM xT xO xL xN wP wD wK ls wl
  have wS : va_S (gA [(h, .inr (3, [.ref q1, .ref q2, .int (zI jb)])), (q1, .inl (kI, 16, .inl (aZ F))), (q, .inl (kI, 510, .inl (aZ T)))]) xs.heap xs.heap [] := va_S.rf
  have wl : lv_has ls 3 [(0, .ref h), (1, .ref q), (2, .int (zI (k : Int)))] := wl
  refine lv_iload_n xX xB dX3_takeUp_0 rfl (lv_at wl 2 rfl) ?_
  refine z_if_lt (tgt := 13) xX xB dX3_takeUp_1 (by decide) (by omega) (fun h1 => ?_) (fun h1 => ?_)
  · exact absurd h1 (by omega)
  · skip
    refine lv_iload_n xX xB dX3_takeUp_4 rfl (lv_at wl 2 rfl) ?_
    refine lv_aload_n xX xB dX3_takeUp_5 rfl (lv_at wl 1 rfl) ?_
    refine z_alen xX xB wK wP 2 rfl dX3_takeUp_6 ?_
    refine z_bipush xX xB dX3_takeUp_7 (by decide) ?_
    refine z_isub xX xB dX3_takeUp_9 ?_
    refine z_icmp_le (tgt := 14) xX xB dX3_takeUp_10 (by decide) (by omega) (by omega) (fun h10 => ?_) (fun h10 => ?_)
    · skip
      refine lv_aload_n xX xB dX3_takeUp_14 rfl (lv_at wl 1 rfl) ?_
      refine lv_iload_n xX xB dX3_takeUp_15 rfl (lv_at wl 2 rfl) ?_
      refine lv_aload_n xX xB dX3_takeUp_16 rfl (lv_at wl 0 rfl) ?_
      refine va_get (D := D) (ci := 3) (v := .ref q1) (C := RX3) (T := TX3) (N := 3) xX xB xT in_X3_takeUp_X3 xO wK.1 wP 0 rfl rfl 0 (by decide) (xT _ (List.mem_of_getElem? (i := 1) rfl)) (fun _ h9 => h9) rfl dX3_takeUp_17 ?_
      refine z_iconst xX xB dX3_takeUp_20 ?_
      refine z_bipush xX xB dX3_takeUp_21 (by decide) ?_
      refine z_copy xX xB (xM.trans wl.1.symm) xO (xT _ (List.mem_of_getElem? (i := 2) rfl)) (xT _ (List.mem_of_getElem? (i := 3) rfl)) (xT _ (List.mem_of_getElem? (i := 4) rfl)) (xT _ (List.mem_of_getElem? (i := 5) rfl)) wK wP wD wS 2 1 rfl rfl k 0 16 (by omega) (by omega) (by omega) (by omega) (by decide) (Nat.le_of_ble_eq_true rfl) (Nat.le_of_ble_eq_true rfl) (Nat.le_of_ble_eq_true rfl) (Nat.le_of_ble_eq_true rfl) dX3_takeUp_23 (fun H locs wP wD wS => ?_)
      have wP : va_P D gC [(h, .inr (3, [.ref q1, .ref q2, .int (zI jb)])), (q1, .inl (kI, 16, .inl (aZ (cpZ T F k 0 16)))), (q, .inl (kI, 510, .inl (aZ T)))] H := wP
      have wD : va_D (gA [(h, .inr (3, [.ref q1, .ref q2, .int (zI jb)])), (q1, .inl (kI, 16, .inl (aZ F))), (q, .inl (kI, 510, .inl (aZ T)))]) [(h, .inr (3, [.ref q1, .ref q2, .int (zI jb)])), (q1, .inl (kI, 16, .inl (aZ (cpZ T F k 0 16)))), (q, .inl (kI, 510, .inl (aZ T)))] := wD
      refine lv_aload_n xX xB dX3_takeUp_26 rfl (lv_at wl 0 rfl) ?_
      refine lv_aload_n xX xB dX3_takeUp_27 rfl (lv_at wl 1 rfl) ?_
      refine lv_iload_n xX xB dX3_takeUp_28 rfl (lv_at wl 2 rfl) ?_
      refine z_bipush xX xB dX3_takeUp_29 (by decide) ?_
      refine z_iadd xX xB dX3_takeUp_31 ?_
      refine z_iald xX xB wK wP 2 rfl (k + 16) (by omega) (by omega) (Nat.le_of_ble_eq_true rfl) dX3_takeUp_32 ?_
      refine va_put (D := D) (ci := 3) (v := .int (zI (T (k + 16)))) (ty := .int) (C := RX3) (T := TX3) (N := 3) xX xB xT in_X3_takeUp_X3 tyX3 tyX3_ok nmX3 xO wK.1 wP wD wS 0 rfl rfl 2 (by decide) (xT _ (List.mem_of_getElem? (i := 6) rfl)) (fun _ h9 => h9) rfl (by decide +kernel) rfl rfl (Nat.le_of_ble_eq_true rfl) dX3_takeUp_33 (fun H locs wP wD wS => ?_)
      have wP : va_P D gC [(h, .inr (3, [.ref q1, .ref q2, .int (zI (T (k + 16)))])), (q1, .inl (kI, 16, .inl (aZ (cpZ T F k 0 16)))), (q, .inl (kI, 510, .inl (aZ T)))] H := wP
      have wD : va_D (gA [(h, .inr (3, [.ref q1, .ref q2, .int (zI jb)])), (q1, .inl (kI, 16, .inl (aZ F))), (q, .inl (kI, 510, .inl (aZ T)))]) [(h, .inr (3, [.ref q1, .ref q2, .int (zI (T (k + 16)))])), (q1, .inl (kI, 16, .inl (aZ (cpZ T F k 0 16)))), (q, .inl (kI, 510, .inl (aZ T)))] := wD
      exact g_vret () xX xB xR xL wP wS dX3_takeUp_36 trivial
    · exact absurd h10 (by omega)

set_option maxHeartbeats 4000000 in
set_option maxRecDepth 100000 in
theorem c_X3_layBy_34 (l : Launch) (D : va_G) (kI kB : ClassId) (h : Nat) (q1 : Nat) (q2 : Nat) (F : Nat → Int) (jb : Int) (q : Nat) (T : Nat → Int) (k : Nat) (hk : k + 17 ≤ 34) : gV l yX3_layBy wsX3_layBy ({ frames := 1, cells := 0, slots := 0, locals := 18 } : Room) D kI kB [.ref h, .ref q, .int (zI (k : Int))] [(h, .inr (3, [.ref q1, .ref q2, .int (zI jb)])), (q1, .inl (kI, 16, .inl (aZ F))), (q, .inl (kI, 34, .inl (aZ T)))] (fun (_ : Unit) => [(h, .inr (3, [.ref q1, .ref q2, .int (zI jb)])), (q1, .inl (kI, 16, .inl (aZ F))), (q, .inl (kI, 34, .inl (aZ (uZ (cpZ F T 0 k 16) (k + 16) jb))))]) (fun (_ : Unit) => True) := by
  refine g_start (cc := cX3_layBy) (maxL := 3) (ret := none) (by decide) rfl (Nat.le_of_ble_eq_true rfl) ?_
  intro xp xe xs xm xbl xmt xc xX xB xR xM xT xO xL xN wP wD wK ls wl
  have wS : va_S (gA [(h, .inr (3, [.ref q1, .ref q2, .int (zI jb)])), (q1, .inl (kI, 16, .inl (aZ F))), (q, .inl (kI, 34, .inl (aZ T)))]) xs.heap xs.heap [] := va_S.rf
  have wl : lv_has ls 3 [(0, .ref h), (1, .ref q), (2, .int (zI (k : Int)))] := wl
  refine lv_iload_n xX xB dX3_layBy_0 rfl (lv_at wl 2 rfl) ?_
  refine z_if_lt (tgt := 13) xX xB dX3_layBy_1 (by decide) (by omega) (fun h1 => ?_) (fun h1 => ?_)
  · exact absurd h1 (by omega)
  · skip
    refine lv_iload_n xX xB dX3_layBy_4 rfl (lv_at wl 2 rfl) ?_
    refine lv_aload_n xX xB dX3_layBy_5 rfl (lv_at wl 1 rfl) ?_
    refine z_alen xX xB wK wP 2 rfl dX3_layBy_6 ?_
    refine z_bipush xX xB dX3_layBy_7 (by decide) ?_
    refine z_isub xX xB dX3_layBy_9 ?_
    refine z_icmp_le (tgt := 14) xX xB dX3_layBy_10 (by decide) (by omega) (by omega) (fun h10 => ?_) (fun h10 => ?_)
    · skip
      refine lv_aload_n xX xB dX3_layBy_14 rfl (lv_at wl 0 rfl) ?_
      refine va_get (D := D) (ci := 3) (v := .ref q1) (C := RX3) (T := TX3) (N := 3) xX xB xT in_X3_layBy_X3 xO wK.1 wP 0 rfl rfl 0 (by decide) (xT _ (List.mem_of_getElem? (i := 1) rfl)) (fun _ h9 => h9) rfl dX3_layBy_15 ?_
      refine z_iconst xX xB dX3_layBy_18 ?_
      refine lv_aload_n xX xB dX3_layBy_19 rfl (lv_at wl 1 rfl) ?_
      refine lv_iload_n xX xB dX3_layBy_20 rfl (lv_at wl 2 rfl) ?_
      refine z_bipush xX xB dX3_layBy_21 (by decide) ?_
      refine z_copy xX xB (xM.trans wl.1.symm) xO (xT _ (List.mem_of_getElem? (i := 2) rfl)) (xT _ (List.mem_of_getElem? (i := 3) rfl)) (xT _ (List.mem_of_getElem? (i := 4) rfl)) (xT _ (List.mem_of_getElem? (i := 5) rfl)) wK wP wD wS 1 2 rfl rfl 0 k 16 (by omega) (by omega) (by omega) (by decide) (by omega) (Nat.le_of_ble_eq_true rfl) (Nat.le_of_ble_eq_true rfl) (Nat.le_of_ble_eq_true rfl) (Nat.le_of_ble_eq_true rfl) dX3_layBy_23 (fun H locs wP wD wS => ?_)
      have wP : va_P D gC [(h, .inr (3, [.ref q1, .ref q2, .int (zI jb)])), (q1, .inl (kI, 16, .inl (aZ F))), (q, .inl (kI, 34, .inl (aZ (cpZ F T 0 k 16))))] H := wP
      have wD : va_D (gA [(h, .inr (3, [.ref q1, .ref q2, .int (zI jb)])), (q1, .inl (kI, 16, .inl (aZ F))), (q, .inl (kI, 34, .inl (aZ T)))]) [(h, .inr (3, [.ref q1, .ref q2, .int (zI jb)])), (q1, .inl (kI, 16, .inl (aZ F))), (q, .inl (kI, 34, .inl (aZ (cpZ F T 0 k 16))))] := wD
      refine lv_aload_n xX xB dX3_layBy_26 rfl (lv_at wl 1 rfl) ?_
      refine lv_iload_n xX xB dX3_layBy_27 rfl (lv_at wl 2 rfl) ?_
      refine z_bipush xX xB dX3_layBy_28 (by decide) ?_
      refine z_iadd xX xB dX3_layBy_30 ?_
      refine lv_aload_n xX xB dX3_layBy_31 rfl (lv_at wl 0 rfl) ?_
      refine va_get (D := D) (ci := 3) (v := .int (zI jb)) (C := RX3) (T := TX3) (N := 3) xX xB xT in_X3_layBy_X3 xO wK.1 wP 0 rfl rfl 2 (by decide) (xT _ (List.mem_of_getElem? (i := 6) rfl)) (fun _ h9 => h9) rfl dX3_layBy_32 ?_
      refine z_iast xX xB wK wP wD wS 2 rfl (k + 16) (by omega) (by omega) (Nat.le_of_ble_eq_true rfl) dX3_layBy_35 (fun H locs wP wD wS => ?_)
      have wP : va_P D gC [(h, .inr (3, [.ref q1, .ref q2, .int (zI jb)])), (q1, .inl (kI, 16, .inl (aZ F))), (q, .inl (kI, 34, .inl (aZ (uZ (cpZ F T 0 k 16) (k + 16) jb))))] H := wP
      have wD : va_D (gA [(h, .inr (3, [.ref q1, .ref q2, .int (zI jb)])), (q1, .inl (kI, 16, .inl (aZ F))), (q, .inl (kI, 34, .inl (aZ T)))]) [(h, .inr (3, [.ref q1, .ref q2, .int (zI jb)])), (q1, .inl (kI, 16, .inl (aZ F))), (q, .inl (kI, 34, .inl (aZ (uZ (cpZ F T 0 k 16) (k + 16) jb))))] := wD
      exact g_vret () xX xB xR xL wP wS dX3_layBy_36 trivial
    · exact absurd h10 (by omega)

set_option maxHeartbeats 4000000 in
set_option maxRecDepth 100000 in
theorem c_X3_takeUp_34 (l : Launch) (D : va_G) (kI kB : ClassId) (h : Nat) (q1 : Nat) (q2 : Nat) (F : Nat → Int) (jb : Int) (q : Nat) (T : Nat → Int) (k : Nat) (hk : k + 17 ≤ 34) : gV l yX3_takeUp wsX3_takeUp ({ frames := 1, cells := 0, slots := 0, locals := 18 } : Room) D kI kB [.ref h, .ref q, .int (zI (k : Int))] [(h, .inr (3, [.ref q1, .ref q2, .int (zI jb)])), (q1, .inl (kI, 16, .inl (aZ F))), (q, .inl (kI, 34, .inl (aZ T)))] (fun (_ : Unit) => [(h, .inr (3, [.ref q1, .ref q2, .int (zI (T (k + 16)))])), (q1, .inl (kI, 16, .inl (aZ (cpZ T F k 0 16)))), (q, .inl (kI, 34, .inl (aZ T)))]) (fun (_ : Unit) => True) := by
  refine g_start (cc := cX3_takeUp) (maxL := 3) (ret := none) (by decide) rfl (Nat.le_of_ble_eq_true rfl) ?_
  intro xp xe xs xm xbl xmt xc xX xB xR xM xT xO xL xN wP wD wK ls wl
  have wS : va_S (gA [(h, .inr (3, [.ref q1, .ref q2, .int (zI jb)])), (q1, .inl (kI, 16, .inl (aZ F))), (q, .inl (kI, 34, .inl (aZ T)))]) xs.heap xs.heap [] := va_S.rf
  have wl : lv_has ls 3 [(0, .ref h), (1, .ref q), (2, .int (zI (k : Int)))] := wl
  refine lv_iload_n xX xB dX3_takeUp_0 rfl (lv_at wl 2 rfl) ?_
  refine z_if_lt (tgt := 13) xX xB dX3_takeUp_1 (by decide) (by omega) (fun h1 => ?_) (fun h1 => ?_)
  · exact absurd h1 (by omega)
  · skip
    refine lv_iload_n xX xB dX3_takeUp_4 rfl (lv_at wl 2 rfl) ?_
    refine lv_aload_n xX xB dX3_takeUp_5 rfl (lv_at wl 1 rfl) ?_
    refine z_alen xX xB wK wP 2 rfl dX3_takeUp_6 ?_
    refine z_bipush xX xB dX3_takeUp_7 (by decide) ?_
    refine z_isub xX xB dX3_takeUp_9 ?_
    refine z_icmp_le (tgt := 14) xX xB dX3_takeUp_10 (by decide) (by omega) (by omega) (fun h10 => ?_) (fun h10 => ?_)
    · skip
      refine lv_aload_n xX xB dX3_takeUp_14 rfl (lv_at wl 1 rfl) ?_
      refine lv_iload_n xX xB dX3_takeUp_15 rfl (lv_at wl 2 rfl) ?_
      refine lv_aload_n xX xB dX3_takeUp_16 rfl (lv_at wl 0 rfl) ?_
      refine va_get (D := D) (ci := 3) (v := .ref q1) (C := RX3) (T := TX3) (N := 3) xX xB xT in_X3_takeUp_X3 xO wK.1 wP 0 rfl rfl 0 (by decide) (xT _ (List.mem_of_getElem? (i := 1) rfl)) (fun _ h9 => h9) rfl dX3_takeUp_17 ?_
      refine z_iconst xX xB dX3_takeUp_20 ?_
      refine z_bipush xX xB dX3_takeUp_21 (by decide) ?_
      refine z_copy xX xB (xM.trans wl.1.symm) xO (xT _ (List.mem_of_getElem? (i := 2) rfl)) (xT _ (List.mem_of_getElem? (i := 3) rfl)) (xT _ (List.mem_of_getElem? (i := 4) rfl)) (xT _ (List.mem_of_getElem? (i := 5) rfl)) wK wP wD wS 2 1 rfl rfl k 0 16 (by omega) (by omega) (by omega) (by omega) (by decide) (Nat.le_of_ble_eq_true rfl) (Nat.le_of_ble_eq_true rfl) (Nat.le_of_ble_eq_true rfl) (Nat.le_of_ble_eq_true rfl) dX3_takeUp_23 (fun H locs wP wD wS => ?_)
      have wP : va_P D gC [(h, .inr (3, [.ref q1, .ref q2, .int (zI jb)])), (q1, .inl (kI, 16, .inl (aZ (cpZ T F k 0 16)))), (q, .inl (kI, 34, .inl (aZ T)))] H := wP
      have wD : va_D (gA [(h, .inr (3, [.ref q1, .ref q2, .int (zI jb)])), (q1, .inl (kI, 16, .inl (aZ F))), (q, .inl (kI, 34, .inl (aZ T)))]) [(h, .inr (3, [.ref q1, .ref q2, .int (zI jb)])), (q1, .inl (kI, 16, .inl (aZ (cpZ T F k 0 16)))), (q, .inl (kI, 34, .inl (aZ T)))] := wD
      refine lv_aload_n xX xB dX3_takeUp_26 rfl (lv_at wl 0 rfl) ?_
      refine lv_aload_n xX xB dX3_takeUp_27 rfl (lv_at wl 1 rfl) ?_
      refine lv_iload_n xX xB dX3_takeUp_28 rfl (lv_at wl 2 rfl) ?_
      refine z_bipush xX xB dX3_takeUp_29 (by decide) ?_
      refine z_iadd xX xB dX3_takeUp_31 ?_
      refine z_iald xX xB wK wP 2 rfl (k + 16) (by omega) (by omega) (Nat.le_of_ble_eq_true rfl) dX3_takeUp_32 ?_
      refine va_put (D := D) (ci := 3) (v := .int (zI (T (k + 16)))) (ty := .int) (C := RX3) (T := TX3) (N := 3) xX xB xT in_X3_takeUp_X3 tyX3 tyX3_ok nmX3 xO wK.1 wP wD wS 0 rfl rfl 2 (by decide) (xT _ (List.mem_of_getElem? (i := 6) rfl)) (fun _ h9 => h9) rfl (by decide +kernel) rfl rfl (Nat.le_of_ble_eq_true rfl) dX3_takeUp_33 (fun H locs wP wD wS => ?_)
      have wP : va_P D gC [(h, .inr (3, [.ref q1, .ref q2, .int (zI (T (k + 16)))])), (q1, .inl (kI, 16, .inl (aZ (cpZ T F k 0 16)))), (q, .inl (kI, 34, .inl (aZ T)))] H := wP
      have wD : va_D (gA [(h, .inr (3, [.ref q1, .ref q2, .int (zI jb)])), (q1, .inl (kI, 16, .inl (aZ F))), (q, .inl (kI, 34, .inl (aZ T)))]) [(h, .inr (3, [.ref q1, .ref q2, .int (zI (T (k + 16)))])), (q1, .inl (kI, 16, .inl (aZ (cpZ T F k 0 16)))), (q, .inl (kI, 34, .inl (aZ T)))] := wD
      exact g_vret () xX xB xR xL wP wS dX3_takeUp_36 trivial
    · exact absurd h10 (by omega)
