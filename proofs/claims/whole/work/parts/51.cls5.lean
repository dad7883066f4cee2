set_option maxRecDepth 20000 in
theorem in_X1_hasPart_X1 : ∀ w ∈ u_ws RX1 TX1 14, w ∈ wsX1_hasPart := by decide +kernel
set_option maxRecDepth 20000 in
theorem in_X1_hasHole_X1 : ∀ w ∈ u_ws RX1 TX1 14, w ∈ wsX1_hasHole := by decide +kernel
set_option maxRecDepth 20000 in
theorem in_X1_groupOfPart_X1 : ∀ w ∈ u_ws RX1 TX1 14, w ∈ wsX1_groupOfPart := by decide +kernel
set_option maxRecDepth 20000 in
theorem in_X1_groupOfHole_X1 : ∀ w ∈ u_ws RX1 TX1 14, w ∈ wsX1_groupOfHole := by decide +kernel
set_option maxRecDepth 20000 in
theorem in_X1_sizeOf_X1 : ∀ w ∈ u_ws RX1 TX1 14, w ∈ wsX1_sizeOf := by decide +kernel
set_option maxRecDepth 20000 in
theorem in_X1_rimOf_X1 : ∀ w ∈ u_ws RX1 TX1 14, w ∈ wsX1_rimOf := by decide +kernel
set_option maxRecDepth 20000 in
theorem in_X1_bottomOf_X1 : ∀ w ∈ u_ws RX1 TX1 14, w ∈ wsX1_bottomOf := by decide +kernel
set_option maxRecDepth 20000 in
theorem in_X1_leftOf_X1 : ∀ w ∈ u_ws RX1 TX1 14, w ∈ wsX1_leftOf := by decide +kernel
set_option maxRecDepth 20000 in
theorem in_X1_rightOf_X1 : ∀ w ∈ u_ws RX1 TX1 14, w ∈ wsX1_rightOf := by decide +kernel
set_option maxRecDepth 20000 in
theorem in_X1_topOf_X1 : ∀ w ∈ u_ws RX1 TX1 14, w ∈ wsX1_topOf := by decide +kernel
set_option maxRecDepth 20000 in
theorem in_X1_leastPlaceOf_X1 : ∀ w ∈ u_ws RX1 TX1 14, w ∈ wsX1_leastPlaceOf := by decide +kernel
set_option maxRecDepth 20000 in
theorem in_X1_numberAt_X1 : ∀ w ∈ u_ws RX1 TX1 14, w ∈ wsX1_numberAt := by decide +kernel
set_option maxRecDepth 20000 in
theorem in_X1_holeAround_X1 : ∀ w ∈ u_ws RX1 TX1 14, w ∈ wsX1_holeAround := by decide +kernel
set_option maxRecDepth 20000 in
theorem in_X1_partAround_X1 : ∀ w ∈ u_ws RX1 TX1 14, w ∈ wsX1_partAround := by decide +kernel
theorem hdn_X5_isLine : yX5_isLine.cls ≠ "java/lang/invoke/MethodHandle" ∧ yX5_isLine.cls ≠ "java/lang/invoke/VarHandle" ∧ (parseMethodDescriptor yX5_isLine.desc).map (fun d => d.parameters.length) = some 1 := by decide +kernel
theorem hd_X4_runAt : yX4_runAt.cls = RX4 ∧ yX4_runAt.cls ≠ "java/lang/invoke/MethodHandle" ∧ yX4_runAt.cls ≠ "java/lang/invoke/VarHandle" ∧ (parseMethodDescriptor yX4_runAt.desc).map (fun d => d.parameters.length) = some 2 := by decide +kernel
theorem hd_X1_numberAt : yX1_numberAt.cls = RX1 ∧ yX1_numberAt.cls ≠ "java/lang/invoke/MethodHandle" ∧ yX1_numberAt.cls ≠ "java/lang/invoke/VarHandle" ∧ (parseMethodDescriptor yX1_numberAt.desc).map (fun d => d.parameters.length) = some 3 := by decide +kernel
theorem hd_X1_groupOfPart : yX1_groupOfPart.cls = RX1 ∧ yX1_groupOfPart.cls ≠ "java/lang/invoke/MethodHandle" ∧ yX1_groupOfPart.cls ≠ "java/lang/invoke/VarHandle" ∧ (parseMethodDescriptor yX1_groupOfPart.desc).map (fun d => d.parameters.length) = some 1 := by decide +kernel
theorem hd_X1_holeAt : yX1_holeAt.cls = RX1 ∧ yX1_holeAt.cls ≠ "java/lang/invoke/MethodHandle" ∧ yX1_holeAt.cls ≠ "java/lang/invoke/VarHandle" ∧ (parseMethodDescriptor yX1_holeAt.desc).map (fun d => d.parameters.length) = some 2 := by decide +kernel
theorem hd_X1_groupOfHole : yX1_groupOfHole.cls = RX1 ∧ yX1_groupOfHole.cls ≠ "java/lang/invoke/MethodHandle" ∧ yX1_groupOfHole.cls ≠ "java/lang/invoke/VarHandle" ∧ (parseMethodDescriptor yX1_groupOfHole.desc).map (fun d => d.parameters.length) = some 1 := by decide +kernel
theorem hd_X1_partAt : yX1_partAt.cls = RX1 ∧ yX1_partAt.cls ≠ "java/lang/invoke/MethodHandle" ∧ yX1_partAt.cls ≠ "java/lang/invoke/VarHandle" ∧ (parseMethodDescriptor yX1_partAt.desc).map (fun d => d.parameters.length) = some 2 := by decide +kernel
theorem hd_X1_holeAround : yX1_holeAround.cls = RX1 ∧ yX1_holeAround.cls ≠ "java/lang/invoke/MethodHandle" ∧ yX1_holeAround.cls ≠ "java/lang/invoke/VarHandle" ∧ (parseMethodDescriptor yX1_holeAround.desc).map (fun d => d.parameters.length) = some 1 := by decide +kernel
theorem hd_X1_partAround : yX1_partAround.cls = RX1 ∧ yX1_partAround.cls ≠ "java/lang/invoke/MethodHandle" ∧ yX1_partAround.cls ≠ "java/lang/invoke/VarHandle" ∧ (parseMethodDescriptor yX1_partAround.desc).map (fun d => d.parameters.length) = some 1 := by decide +kernel
set_option maxHeartbeats 4000000 in
set_option maxRecDepth 100000 in
theorem c_X1_hasPart (l : Launch) (D : va_G) (kI kB : ClassId) (o : Nat) (h : Nat) (a0 : Nat) (a1 : Nat) (a2 : Nat) (a3 : Nat) (a4 : Nat) (a5 : Nat) (a6 : Nat) (a7 : Nat) (a8 : Nat) (a9 : Nat) (pc : Nat) (hc : Nat) (lc : Nat) (p : Int) (rp_ : -2147483648 ≤ p ∧ p ≤ 2147483647) (hn : pc ≤ 128) : gI l yX1_hasPart wsX1_hasPart ({ frames := 0, cells := 0, slots := 0, locals := 0 } : Room) D kI kB [.ref o, .int (zI p)] [(o, .inr (1, [.ref h, .ref a0, .ref a1, .ref a2, .ref a3, .ref a4, .ref a5, .ref a6, .ref a7, .ref a8, .ref a9, .int (zI (pc : Int)), .int (zI (hc : Int)), .int (zI (lc : Int))]))] (bI (decide (0 ≤ p ∧ p < (pc : Int)))) := by
  refine g_start (cc := cX1_hasPart) (maxL := 2) (ret := (some .boolean)) (by decide) rfl (Nat.le_of_ble_eq_true rfl) ?_
  intro xp xe xs xm xbl xmt xc xX xB xR xM xT xO xL xN wP wD wK ls wl
  have wS : va_S (fun _ => False) xs.heap xs.heap [] := va_S.rf
  have wl : lv_has ls 2 [(0, .ref o), (1, .int (zI p))] := wl
  refine lv_iload_n xX xB dX1_hasPart_0 rfl (lv_at wl 1 rfl) ?_
  refine z_if_lt (tgt := 16) xX xB dX1_hasPart_1 (by decide) (by omega) (fun h1 => ?_) (fun h1 => ?_)
  · skip
    refine z_iconst xX xB dX1_hasPart_16 ?_
    refine lv_ri (y := bI false) rfl ?_
    exact g_zret xX xB xR xL wS dX1_hasPart_17 (decide_eq_false (by omega)).symm
  · skip
    refine lv_iload_n xX xB dX1_hasPart_4 rfl (lv_at wl 1 rfl) ?_
    refine lv_aload_n xX xB dX1_hasPart_5 rfl (lv_at wl 0 rfl) ?_
    refine va_get (D := D) (ci := 1) (v := .int (zI (pc : Int))) (C := RX1) (T := TX1) (N := 14) xX xB xT in_X1_hasPart_X1 xO wK.1 wP 0 rfl rfl 11 (by decide) (xT _ (List.mem_of_getElem? (i := 1) rfl)) (fun _ h9 => h9) rfl dX1_hasPart_6 ?_
    refine t_icmp_ge xX xB dX1_hasPart_9 dX1_hasPart_12 dX1_hasPart_13 dX1_hasPart_16 (by omega) (by omega) ?_
    exact g_zret xX xB xR xL wS dX1_hasPart_17 (decide_eq_decide.mpr (by omega))

set_option maxHeartbeats 4000000 in
set_option maxRecDepth 100000 in
theorem c_X1_hasHole (l : Launch) (D : va_G) (kI kB : ClassId) (o : Nat) (h : Nat) (a0 : Nat) (a1 : Nat) (a2 : Nat) (a3 : Nat) (a4 : Nat) (a5 : Nat) (a6 : Nat) (a7 : Nat) (a8 : Nat) (a9 : Nat) (pc : Nat) (hc : Nat) (lc : Nat) (p : Int) (rp_ : -2147483648 ≤ p ∧ p ≤ 2147483647) (hn : hc ≤ 128) : gI l yX1_hasHole wsX1_hasHole ({ frames := 0, cells := 0, slots := 0, locals := 0 } : Room) D kI kB [.ref o, .int (zI p)] [(o, .inr (1, [.ref h, .ref a0, .ref a1, .ref a2, .ref a3, .ref a4, .ref a5, .ref a6, .ref a7, .ref a8, .ref a9, .int (zI (pc : Int)), .int (zI (hc : Int)), .int (zI (lc : Int))]))] (bI (decide (0 ≤ p ∧ p < (hc : Int)))) := by
  refine g_start (cc := cX1_hasHole) (maxL := 2) (ret := (some .boolean)) (by decide) rfl (Nat.le_of_ble_eq_true rfl) ?_
  intro xp xe xs xm xbl xmt xc xX xB xR xM xT xO xL xN wP wD wK ls wl
  have wS : va_S (fun _ => False) xs.heap xs.heap [] := va_S.rf
  have wl : lv_has ls 2 [(0, .ref o), (1, .int (zI p))] := wl
  refine lv_iload_n xX xB dX1_hasHole_0 rfl (lv_at wl 1 rfl) ?_
  refine z_if_lt (tgt := 16) xX xB dX1_hasHole_1 (by decide) (by omega) (fun h1 => ?_) (fun h1 => ?_)
  · skip
    refine z_iconst xX xB dX1_hasHole_16 ?_
    refine lv_ri (y := bI false) rfl ?_
    exact g_zret xX xB xR xL wS dX1_hasHole_17 (decide_eq_false (by omega)).symm
  · skip
    refine lv_iload_n xX xB dX1_hasHole_4 rfl (lv_at wl 1 rfl) ?_
    refine lv_aload_n xX xB dX1_hasHole_5 rfl (lv_at wl 0 rfl) ?_
    refine va_get (D := D) (ci := 1) (v := .int (zI (hc : Int))) (C := RX1) (T := TX1) (N := 14) xX xB xT in_X1_hasHole_X1 xO wK.1 wP 0 rfl rfl 12 (by decide) (xT _ (List.mem_of_getElem? (i := 1) rfl)) (fun _ h9 => h9) rfl dX1_hasHole_6 ?_
    refine t_icmp_ge xX xB dX1_hasHole_9 dX1_hasHole_12 dX1_hasHole_13 dX1_hasHole_16 (by omega) (by omega) ?_
    exact g_zret xX xB xR xL wS dX1_hasHole_17 (decide_eq_decide.mpr (by omega))

set_option maxHeartbeats 4000000 in
set_option maxRecDepth 100000 in
theorem c_X1_groupOfPart (l : Launch) (D : va_G) (kI kB : ClassId) (o : Nat) (h : Nat) (a0 : Nat) (a1 : Nat) (a2 : Nat) (a3 : Nat) (a4 : Nat) (a5 : Nat) (a6 : Nat) (a7 : Nat) (a8 : Nat) (a9 : Nat) (pc : Nat) (hc : Nat) (lc : Nat) (PG : Nat → Int) (g : Nat) (hg : g < 256) : gI l yX1_groupOfPart wsX1_groupOfPart ({ frames := 0, cells := 0, slots := 0, locals := 0 } : Room) D kI kB [.ref o, .int (zI (g : Int))] [(o, .inr (1, [.ref h, .ref a0, .ref a1, .ref a2, .ref a3, .ref a4, .ref a5, .ref a6, .ref a7, .ref a8, .ref a9, .int (zI (pc : Int)), .int (zI (hc : Int)), .int (zI (lc : Int))])), (a7, .inl (kI, 256, .inl (aZ PG)))] (zI (PG g)) := by
  refine g_start (cc := cX1_groupOfPart) (maxL := 2) (ret := (some .int)) (by decide) rfl (Nat.le_of_ble_eq_true rfl) ?_
  intro xp xe xs xm xbl xmt xc xX xB xR xM xT xO xL xN wP wD wK ls wl
  have wS : va_S (fun _ => False) xs.heap xs.heap [] := va_S.rf
  have wl : lv_has ls 2 [(0, .ref o), (1, .int (zI (g : Int)))] := wl
  refine lv_aload_n xX xB dX1_groupOfPart_0 rfl (lv_at wl 0 rfl) ?_
  refine va_get (D := D) (ci := 1) (v := .ref a7) (C := RX1) (T := TX1) (N := 14) xX xB xT in_X1_groupOfPart_X1 xO wK.1 wP 0 rfl rfl 8 (by decide) (xT _ (List.mem_of_getElem? (i := 1) rfl)) (fun _ h9 => h9) rfl dX1_groupOfPart_1 ?_
  refine lv_iload_n xX xB dX1_groupOfPart_4 rfl (lv_at wl 1 rfl) ?_
  refine z_sipush xX xB dX1_groupOfPart_5 (by decide) ?_
  refine z_m255 xX xB dX1_groupOfPart_8 (by omega) ?_
  refine z_iald xX xB wK wP 1 rfl g rfl (by omega) (Nat.le_of_ble_eq_true rfl) dX1_groupOfPart_9 ?_
  exact g_iret xX xB xR xL wS dX1_groupOfPart_10 rfl

set_option maxHeartbeats 4000000 in
set_option maxRecDepth 100000 in
theorem c_X1_groupOfHole (l : Launch) (D : va_G) (kI kB : ClassId) (o : Nat) (h : Nat) (a0 : Nat) (a1 : Nat) (a2 : Nat) (a3 : Nat) (a4 : Nat) (a5 : Nat) (a6 : Nat) (a7 : Nat) (a8 : Nat) (a9 : Nat) (pc : Nat) (hc : Nat) (lc : Nat) (HG : Nat → Int) (g : Nat) (hg : g < 256) : gI l yX1_groupOfHole wsX1_groupOfHole ({ frames := 0, cells := 0, slots := 0, locals := 0 } : Room) D kI kB [.ref o, .int (zI (g : Int))] [(o, .inr (1, [.ref h, .ref a0, .ref a1, .ref a2, .ref a3, .ref a4, .ref a5, .ref a6, .ref a7, .ref a8, .ref a9, .int (zI (pc : Int)), .int (zI (hc : Int)), .int (zI (lc : Int))])), (a8, .inl (kI, 256, .inl (aZ HG)))] (zI (HG g)) := by
  refine g_start (cc := cX1_groupOfHole) (maxL := 2) (ret := (some .int)) (by decide) rfl (Nat.le_of_ble_eq_true rfl) ?_
  intro xp xe xs xm xbl xmt xc xX xB xR xM xT xO xL xN wP wD wK ls wl
  have wS : va_S (fun _ => False) xs.heap xs.heap [] := va_S.rf
  have wl : lv_has ls 2 [(0, .ref o), (1, .int (zI (g : Int)))] := wl
  refine lv_aload_n xX xB dX1_groupOfHole_0 rfl (lv_at wl 0 rfl) ?_
  refine va_get (D := D) (ci := 1) (v := .ref a8) (C := RX1) (T := TX1) (N := 14) xX xB xT in_X1_groupOfHole_X1 xO wK.1 wP 0 rfl rfl 9 (by decide) (xT _ (List.mem_of_getElem? (i := 1) rfl)) (fun _ h9 => h9) rfl dX1_groupOfHole_1 ?_
  refine lv_iload_n xX xB dX1_groupOfHole_4 rfl (lv_at wl 1 rfl) ?_
  refine z_sipush xX xB dX1_groupOfHole_5 (by decide) ?_
  refine z_m255 xX xB dX1_groupOfHole_8 (by omega) ?_
  refine z_iald xX xB wK wP 1 rfl g rfl (by omega) (Nat.le_of_ble_eq_true rfl) dX1_groupOfHole_9 ?_
  exact g_iret xX xB xR xL wS dX1_groupOfHole_10 rfl

set_option maxHeartbeats 4000000 in
set_option maxRecDepth 100000 in
theorem c_X1_sizeOf (l : Launch) (D : va_G) (kI kB : ClassId) (o : Nat) (h : Nat) (a0 : Nat) (a1 : Nat) (a2 : Nat) (a3 : Nat) (a4 : Nat) (a5 : Nat) (a6 : Nat) (a7 : Nat) (a8 : Nat) (a9 : Nat) (pc : Nat) (hc : Nat) (lc : Nat) (SZ : Nat → Int) (g : Nat) (hg : g < 256) : gI l yX1_sizeOf wsX1_sizeOf ({ frames := 0, cells := 0, slots := 0, locals := 0 } : Room) D kI kB [.ref o, .int (zI (g : Int))] [(o, .inr (1, [.ref h, .ref a0, .ref a1, .ref a2, .ref a3, .ref a4, .ref a5, .ref a6, .ref a7, .ref a8, .ref a9, .int (zI (pc : Int)), .int (zI (hc : Int)), .int (zI (lc : Int))])), (a0, .inl (kI, 256, .inl (aZ SZ)))] (zI (SZ g)) := by
  refine g_start (cc := cX1_sizeOf) (maxL := 2) (ret := (some .int)) (by decide) rfl (Nat.le_of_ble_eq_true rfl) ?_
  intro xp xe xs xm xbl xmt xc xX xB xR xM xT xO xL xN wP wD wK ls wl
  have wS : va_S (fun _ => False) xs.heap xs.heap [] := va_S.rf
  have wl : lv_has ls 2 [(0, .ref o), (1, .int (zI (g : Int)))] := wl
  refine lv_aload_n xX xB dX1_sizeOf_0 rfl (lv_at wl 0 rfl) ?_
  refine va_get (D := D) (ci := 1) (v := .ref a0) (C := RX1) (T := TX1) (N := 14) xX xB xT in_X1_sizeOf_X1 xO wK.1 wP 0 rfl rfl 1 (by decide) (xT _ (List.mem_of_getElem? (i := 1) rfl)) (fun _ h9 => h9) rfl dX1_sizeOf_1 ?_
  refine lv_iload_n xX xB dX1_sizeOf_4 rfl (lv_at wl 1 rfl) ?_
  refine z_sipush xX xB dX1_sizeOf_5 (by decide) ?_
  refine z_m255 xX xB dX1_sizeOf_8 (by omega) ?_
  refine z_iald xX xB wK wP 1 rfl g rfl (by omega) (Nat.le_of_ble_eq_true rfl) dX1_sizeOf_9 ?_
  exact g_iret xX xB xR xL wS dX1_sizeOf_10 rfl

set_option maxHeartbeats 4000000 in
set_option maxRecDepth 100000 in
theorem c_X1_rimOf (l : Launch) (D : va_G) (kI kB : ClassId) (o : Nat) (h : Nat) (a0 : Nat) (a1 : Nat) (a2 : Nat) (a3 : Nat) (a4 : Nat) (a5 : Nat) (a6 : Nat) (a7 : Nat) (a8 : Nat) (a9 : Nat) (pc : Nat) (hc : Nat) (lc : Nat) (RM : Nat → Int) (g : Nat) (hg : g < 256) : gI l yX1_rimOf wsX1_rimOf ({ frames := 0, cells := 0, slots := 0, locals := 0 } : Room) D kI kB [.ref o, .int (zI (g : Int))] [(o, .inr (1, [.ref h, .ref a0, .ref a1, .ref a2, .ref a3, .ref a4, .ref a5, .ref a6, .ref a7, .ref a8, .ref a9, .int (zI (pc : Int)), .int (zI (hc : Int)), .int (zI (lc : Int))])), (a1, .inl (kI, 256, .inl (aZ RM)))] (zI (RM g)) := by
  refine g_start (cc := cX1_rimOf) (maxL := 2) (ret := (some .int)) (by decide) rfl (Nat.le_of_ble_eq_true rfl) ?_
  intro xp xe xs xm xbl xmt xc xX xB xR xM xT xO xL xN wP wD wK ls wl
  have wS : va_S (fun _ => False) xs.heap xs.heap [] := va_S.rf
  have wl : lv_has ls 2 [(0, .ref o), (1, .int (zI (g : Int)))] := wl
  refine lv_aload_n xX xB dX1_rimOf_0 rfl (lv_at wl 0 rfl) ?_
  refine va_get (D := D) (ci := 1) (v := .ref a1) (C := RX1) (T := TX1) (N := 14) xX xB xT in_X1_rimOf_X1 xO wK.1 wP 0 rfl rfl 2 (by decide) (xT _ (List.mem_of_getElem? (i := 1) rfl)) (fun _ h9 => h9) rfl dX1_rimOf_1 ?_
  refine lv_iload_n xX xB dX1_rimOf_4 rfl (lv_at wl 1 rfl) ?_
  refine z_sipush xX xB dX1_rimOf_5 (by decide) ?_
  refine z_m255 xX xB dX1_rimOf_8 (by omega) ?_
  refine z_iald xX xB wK wP 1 rfl g rfl (by omega) (Nat.le_of_ble_eq_true rfl) dX1_rimOf_9 ?_
  exact g_iret xX xB xR xL wS dX1_rimOf_10 rfl

set_option maxHeartbeats 4000000 in
set_option maxRecDepth 100000 in
theorem c_X1_bottomOf (l : Launch) (D : va_G) (kI kB : ClassId) (o : Nat) (h : Nat) (a0 : Nat) (a1 : Nat) (a2 : Nat) (a3 : Nat) (a4 : Nat) (a5 : Nat) (a6 : Nat) (a7 : Nat) (a8 : Nat) (a9 : Nat) (pc : Nat) (hc : Nat) (lc : Nat) (BT : Nat → Int) (g : Nat) (hg : g < 256) : gI l yX1_bottomOf wsX1_bottomOf ({ frames := 0, cells := 0, slots := 0, locals := 0 } : Room) D kI kB [.ref o, .int (zI (g : Int))] [(o, .inr (1, [.ref h, .ref a0, .ref a1, .ref a2, .ref a3, .ref a4, .ref a5, .ref a6, .ref a7, .ref a8, .ref a9, .int (zI (pc : Int)), .int (zI (hc : Int)), .int (zI (lc : Int))])), (a2, .inl (kI, 256, .inl (aZ BT)))] (zI (BT g)) := by
  refine g_start (cc := cX1_bottomOf) (maxL := 2) (ret := (some .int)) (by decide) rfl (Nat.le_of_ble_eq_true rfl) ?_
  intro xp xe xs xm xbl xmt xc xX xB xR xM xT xO xL xN wP wD wK ls wl
  have wS : va_S (fun _ => False) xs.heap xs.heap [] := va_S.rf
  have wl : lv_has ls 2 [(0, .ref o), (1, .int (zI (g : Int)))] := wl
  refine lv_aload_n xX xB dX1_bottomOf_0 rfl (lv_at wl 0 rfl) ?_
  refine va_get (D := D) (ci := 1) (v := .ref a2) (C := RX1) (T := TX1) (N := 14) xX xB xT in_X1_bottomOf_X1 xO wK.1 wP 0 rfl rfl 3 (by decide) (xT _ (List.mem_of_getElem? (i := 1) rfl)) (fun _ h9 => h9) rfl dX1_bottomOf_1 ?_
  refine lv_iload_n xX xB dX1_bottomOf_4 rfl (lv_at wl 1 rfl) ?_
  refine z_sipush xX xB dX1_bottomOf_5 (by decide) ?_
  refine z_m255 xX xB dX1_bottomOf_8 (by omega) ?_
  refine z_iald xX xB wK wP 1 rfl g rfl (by omega) (Nat.le_of_ble_eq_true rfl) dX1_bottomOf_9 ?_
  exact g_iret xX xB xR xL wS dX1_bottomOf_10 rfl

set_option maxHeartbeats 4000000 in
set_option maxRecDepth 100000 in
theorem c_X1_leftOf (l : Launch) (D : va_G) (kI kB : ClassId) (o : Nat) (h : Nat) (a0 : Nat) (a1 : Nat) (a2 : Nat) (a3 : Nat) (a4 : Nat) (a5 : Nat) (a6 : Nat) (a7 : Nat) (a8 : Nat) (a9 : Nat) (pc : Nat) (hc : Nat) (lc : Nat) (LT : Nat → Int) (g : Nat) (hg : g < 256) : gI l yX1_leftOf wsX1_leftOf ({ frames := 0, cells := 0, slots := 0, locals := 0 } : Room) D kI kB [.ref o, .int (zI (g : Int))] [(o, .inr (1, [.ref h, .ref a0, .ref a1, .ref a2, .ref a3, .ref a4, .ref a5, .ref a6, .ref a7, .ref a8, .ref a9, .int (zI (pc : Int)), .int (zI (hc : Int)), .int (zI (lc : Int))])), (a3, .inl (kI, 256, .inl (aZ LT)))] (zI (LT g)) := by
  refine g_start (cc := cX1_leftOf) (maxL := 2) (ret := (some .int)) (by decide) rfl (Nat.le_of_ble_eq_true rfl) ?_
  intro xp xe xs xm xbl xmt xc xX xB xR xM xT xO xL xN wP wD wK ls wl
  have wS : va_S (fun _ => False) xs.heap xs.heap [] := va_S.rf
  have wl : lv_has ls 2 [(0, .ref o), (1, .int (zI (g : Int)))] := wl
  refine lv_aload_n xX xB dX1_leftOf_0 rfl (lv_at wl 0 rfl) ?_
  refine va_get (D := D) (ci := 1) (v := .ref a3) (C := RX1) (T := TX1) (N := 14) xX xB xT in_X1_leftOf_X1 xO wK.1 wP 0 rfl rfl 4 (by decide) (xT _ (List.mem_of_getElem? (i := 1) rfl)) (fun _ h9 => h9) rfl dX1_leftOf_1 ?_
  refine lv_iload_n xX xB dX1_leftOf_4 rfl (lv_at wl 1 rfl) ?_
  refine z_sipush xX xB dX1_leftOf_5 (by decide) ?_
  refine z_m255 xX xB dX1_leftOf_8 (by omega) ?_
  refine z_iald xX xB wK wP 1 rfl g rfl (by omega) (Nat.le_of_ble_eq_true rfl) dX1_leftOf_9 ?_
  exact g_iret xX xB xR xL wS dX1_leftOf_10 rfl

set_option maxHeartbeats 4000000 in
set_option maxRecDepth 100000 in
theorem c_X1_rightOf (l : Launch) (D : va_G) (kI kB : ClassId) (o : Nat) (h : Nat) (a0 : Nat) (a1 : Nat) (a2 : Nat) (a3 : Nat) (a4 : Nat) (a5 : Nat) (a6 : Nat) (a7 : Nat) (a8 : Nat) (a9 : Nat) (pc : Nat) (hc : Nat) (lc : Nat) (RT : Nat → Int) (g : Nat) (hg : g < 256) : gI l yX1_rightOf wsX1_rightOf ({ frames := 0, cells := 0, slots := 0, locals := 0 } : Room) D kI kB [.ref o, .int (zI (g : Int))] [(o, .inr (1, [.ref h, .ref a0, .ref a1, .ref a2, .ref a3, .ref a4, .ref a5, .ref a6, .ref a7, .ref a8, .ref a9, .int (zI (pc : Int)), .int (zI (hc : Int)), .int (zI (lc : Int))])), (a4, .inl (kI, 256, .inl (aZ RT)))] (zI (RT g)) := by
  refine g_start (cc := cX1_rightOf) (maxL := 2) (ret := (some .int)) (by decide) rfl (Nat.le_of_ble_eq_true rfl) ?_
  intro xp xe xs xm xbl xmt xc xX xB xR xM xT xO xL xN wP wD wK ls wl
  have wS : va_S (fun _ => False) xs.heap xs.heap [] := va_S.rf
  have wl : lv_has ls 2 [(0, .ref o), (1, .int (zI (g : Int)))] := wl
  refine lv_aload_n xX xB dX1_rightOf_0 rfl (lv_at wl 0 rfl) ?_
  refine va_get (D := D) (ci := 1) (v := .ref a4) (C := RX1) (T := TX1) (N := 14) xX xB xT in_X1_rightOf_X1 xO wK.1 wP 0 rfl rfl 5 (by decide) (xT _ (List.mem_of_getElem? (i := 1) rfl)) (fun _ h9 => h9) rfl dX1_rightOf_1 ?_
  refine lv_iload_n xX xB dX1_rightOf_4 rfl (lv_at wl 1 rfl) ?_
  refine z_sipush xX xB dX1_rightOf_5 (by decide) ?_
  refine z_m255 xX xB dX1_rightOf_8 (by omega) ?_
  refine z_iald xX xB wK wP 1 rfl g rfl (by omega) (Nat.le_of_ble_eq_true rfl) dX1_rightOf_9 ?_
  exact g_iret xX xB xR xL wS dX1_rightOf_10 rfl

set_option maxHeartbeats 4000000 in
set_option maxRecDepth 100000 in
theorem c_X1_topOf (l : Launch) (D : va_G) (kI kB : ClassId) (o : Nat) (h : Nat) (a0 : Nat) (a1 : Nat) (a2 : Nat) (a3 : Nat) (a4 : Nat) (a5 : Nat) (a6 : Nat) (a7 : Nat) (a8 : Nat) (a9 : Nat) (pc : Nat) (hc : Nat) (lc : Nat) (b0 : Nat) (b1 : Nat) (b2 : Nat) (b3 : Nat) (b4 : Nat) (b5 : Nat) (b6 : Nat) (cn : Nat) (RO : Nat → Int) (g : Nat) (hg : g < 256) : gI l yX1_topOf wsX1_topOf ({ frames := 1, cells := 0, slots := 0, locals := 21 } : Room) D kI kB [.ref o, .int (zI (g : Int))] [(o, .inr (1, [.ref h, .ref a0, .ref a1, .ref a2, .ref a3, .ref a4, .ref a5, .ref a6, .ref a7, .ref a8, .ref a9, .int (zI (pc : Int)), .int (zI (hc : Int)), .int (zI (lc : Int))])), (h, .inr (4, [.ref b0, .ref b1, .ref b2, .ref b3, .ref b4, .ref b5, .ref b6, .int (zI (cn : Int))])), (b4, .inl (kI, 256, .inl (aZ RO)))] (zI (RO g)) := by
  refine g_start (cc := cX1_topOf) (maxL := 2) (ret := (some .int)) (by decide) rfl (Nat.le_of_ble_eq_true rfl) ?_
  intro xp xe xs xm xbl xmt xc xX xB xR xM xT xO xL xN wP wD wK ls wl
  have wS : va_S (fun _ => False) xs.heap xs.heap [] := va_S.rf
  have wl : lv_has ls 2 [(0, .ref o), (1, .int (zI (g : Int)))] := wl
  refine lv_aload_n xX xB dX1_topOf_0 rfl (lv_at wl 0 rfl) ?_
  refine va_get (D := D) (ci := 1) (v := .ref h) (C := RX1) (T := TX1) (N := 14) xX xB xT in_X1_topOf_X1 xO wK.1 wP 0 rfl rfl 0 (by decide) (xT _ (List.mem_of_getElem? (i := 1) rfl)) (fun _ h9 => h9) rfl dX1_topOf_1 ?_
  refine lv_iload_n xX xB dX1_topOf_4 rfl (lv_at wl 1 rfl) ?_
  refine g_pure (va_runV (As := [.int (zI (g : Int))]) (rest := []) ⟨xX, xB, xM, xO, xT⟩ (c_X4_lineOf l D kI kB h b0 b1 b2 b3 b4 b5 b6 cn RO g (by omega)) (cwV 1 xT gX1_topOf_X4_lineOf rfl rfl rfl hd_X4_lineOf ⟨Nat.le_of_ble_eq_true rfl, Nat.le_of_ble_eq_true rfl⟩) (g_preV (ci := 4) (q0 := 1) wP wD wK [1, 2] (by decide) rfl rfl rfl) rfl rfl wl.1 rfl (lv_room (Nat.le_of_ble_eq_true rfl)) dX1_topOf_5 ⟨Nat.le_of_ble_eq_true rfl, Nat.le_of_ble_eq_true rfl⟩) wP wS (fun H locs wP wS => ?_)
  exact g_iret xX xB xR xL wS dX1_topOf_8 rfl

set_option maxHeartbeats 4000000 in
set_option maxRecDepth 100000 in
theorem c_X1_leastPlaceOf (l : Launch) (D : va_G) (kI kB : ClassId) (o : Nat) (h : Nat) (a0 : Nat) (a1 : Nat) (a2 : Nat) (a3 : Nat) (a4 : Nat) (a5 : Nat) (a6 : Nat) (a7 : Nat) (a8 : Nat) (a9 : Nat) (pc : Nat) (hc : Nat) (lc : Nat) (b0 : Nat) (b1 : Nat) (b2 : Nat) (b3 : Nat) (b4 : Nat) (b5 : Nat) (b6 : Nat) (cn : Nat) (SO : Nat → Int) (RO : Nat → Int) (g : Nat) (hg : g < 256) : gI l yX1_leastPlaceOf wsX1_leastPlaceOf ({ frames := 1, cells := 0, slots := 0, locals := 21 } : Room) D kI kB [.ref o, .int (zI (g : Int))] [(o, .inr (1, [.ref h, .ref a0, .ref a1, .ref a2, .ref a3, .ref a4, .ref a5, .ref a6, .ref a7, .ref a8, .ref a9, .int (zI (pc : Int)), .int (zI (hc : Int)), .int (zI (lc : Int))])), (h, .inr (4, [.ref b0, .ref b1, .ref b2, .ref b3, .ref b4, .ref b5, .ref b6, .int (zI (cn : Int))])), (b2, .inl (kI, 256, .inl (aZ SO))), (b4, .inl (kI, 256, .inl (aZ RO)))] (zI (RO g * 16 + SO g)) := by
  refine g_start (cc := cX1_leastPlaceOf) (maxL := 2) (ret := (some .int)) (by decide) rfl (Nat.le_of_ble_eq_true rfl) ?_
  intro xp xe xs xm xbl xmt xc xX xB xR xM xT xO xL xN wP wD wK ls wl
  have wS : va_S (fun _ => False) xs.heap xs.heap [] := va_S.rf
  have wl : lv_has ls 2 [(0, .ref o), (1, .int (zI (g : Int)))] := wl
  refine lv_aload_n xX xB dX1_leastPlaceOf_0 rfl (lv_at wl 0 rfl) ?_
  refine va_get (D := D) (ci := 1) (v := .ref h) (C := RX1) (T := TX1) (N := 14) xX xB xT in_X1_leastPlaceOf_X1 xO wK.1 wP 0 rfl rfl 0 (by decide) (xT _ (List.mem_of_getElem? (i := 1) rfl)) (fun _ h9 => h9) rfl dX1_leastPlaceOf_1 ?_
  refine lv_iload_n xX xB dX1_leastPlaceOf_4 rfl (lv_at wl 1 rfl) ?_
  refine g_pure (va_runV (As := [.int (zI (g : Int))]) (rest := []) ⟨xX, xB, xM, xO, xT⟩ (c_X4_lineOf l D kI kB h b0 b1 b2 b3 b4 b5 b6 cn RO g (by omega)) (cwV 1 xT gX1_leastPlaceOf_X4_lineOf rfl rfl rfl hd_X4_lineOf ⟨Nat.le_of_ble_eq_true rfl, Nat.le_of_ble_eq_true rfl⟩) (g_preV (ci := 4) (q0 := 1) wP wD wK [1, 3] (by decide) rfl rfl rfl) rfl rfl wl.1 rfl (lv_room (Nat.le_of_ble_eq_true rfl)) dX1_leastPlaceOf_5 ⟨Nat.le_of_ble_eq_true rfl, Nat.le_of_ble_eq_true rfl⟩) wP wS (fun H locs wP wS => ?_)
  refine z_bipush xX xB dX1_leastPlaceOf_8 (by decide) ?_
  refine z_imul xX xB dX1_leastPlaceOf_10 ?_
  refine lv_aload_n xX xB dX1_leastPlaceOf_11 rfl (lv_at wl 0 rfl) ?_
  refine va_get (D := D) (ci := 1) (v := .ref h) (C := RX1) (T := TX1) (N := 14) xX xB xT in_X1_leastPlaceOf_X1 xO wK.1 wP 0 rfl rfl 0 (by decide) (xT _ (List.mem_of_getElem? (i := 1) rfl)) (fun _ h9 => h9) rfl dX1_leastPlaceOf_12 ?_
  refine lv_iload_n xX xB dX1_leastPlaceOf_15 rfl (lv_at wl 1 rfl) ?_
  refine g_pure (va_runV (As := [.int (zI (g : Int))]) (rest := [.int (zI ((RO g) * 16))]) ⟨xX, xB, xM, xO, xT⟩ (c_X4_start l D kI kB h b0 b1 b2 b3 b4 b5 b6 cn SO g (by omega)) (cwV 1 xT gX1_leastPlaceOf_X4_start rfl rfl rfl hd_X4_start ⟨Nat.le_of_ble_eq_true rfl, Nat.le_of_ble_eq_true rfl⟩) (g_preV (ci := 4) (q0 := 1) wP wD wK [1, 2] (by decide) rfl rfl rfl) rfl rfl wl.1 rfl (lv_room (Nat.le_of_ble_eq_true rfl)) dX1_leastPlaceOf_16 ⟨Nat.le_of_ble_eq_true rfl, Nat.le_of_ble_eq_true rfl⟩) wP wS (fun H locs wP wS => ?_)
  refine z_iadd xX xB dX1_leastPlaceOf_19 ?_
  exact g_iret xX xB xR xL wS dX1_leastPlaceOf_20 rfl

set_option maxHeartbeats 4000000 in
set_option maxRecDepth 100000 in
theorem c_X1_numberAt (l : Launch) (D : va_G) (kI kB : ClassId) (o : Nat) (h : Nat) (a0 : Nat) (a1 : Nat) (a2 : Nat) (a3 : Nat) (a4 : Nat) (a5 : Nat) (a6 : Nat) (a7 : Nat) (a8 : Nat) (a9 : Nat) (pc : Nat) (hc : Nat) (lc : Nat) (b0 : Nat) (b1 : Nat) (b2 : Nat) (b3 : Nat) (b4 : Nat) (b5 : Nat) (b6 : Nat) (cn : Nat) (FI_ : Nat → Int) (CH_ : Nat → Int) (SO : Nat → Int) (EO : Nat → Int) (RO : Nat → Int) (DA : Nat → Bool) (TW : Nat → Int) (NU : Nat → Int) (PG : Nat → Int) (HG : Nat → Int) (P : Nat → Nat) (m8 : Bool) (r : Int) (c : Int) (w : Bool) (hO : RunsOK P m8 FI_ CH_ SO EO RO DA TW) (hN : NuI P m8 256 NU PG HG pc hc lc) (rr : -2147483648 ≤ r ∧ r ≤ 2147483647) (rc : -2147483648 ≤ c ∧ c ≤ 2147483647) : gI l yX1_numberAt wsX1_numberAt ({ frames := 2, cells := 0, slots := 0, locals := 42 } : Room) D kI kB [.ref o, .int (zI r), .int (zI c), .int (bI w)] [(o, .inr (1, [.ref h, .ref a0, .ref a1, .ref a2, .ref a3, .ref a4, .ref a5, .ref a6, .ref a7, .ref a8, .ref a9, .int (zI (pc : Int)), .int (zI (hc : Int)), .int (zI (lc : Int))])), (h, .inr (4, [.ref b0, .ref b1, .ref b2, .ref b3, .ref b4, .ref b5, .ref b6, .int (zI (cn : Int))])), (b0, .inl (kI, 17, .inl (aZ FI_))), (b1, .inl (kI, 16, .inl (aZ CH_))), (b2, .inl (kI, 256, .inl (aZ SO))), (b3, .inl (kI, 256, .inl (aZ EO))), (b4, .inl (kI, 256, .inl (aZ RO))), (b5, .inl (kB, 256, .inl (aB DA))), (b6, .inl (kI, 256, .inl (aZ TW))), (a6, .inl (kI, 256, .inl (aZ NU))), (a7, .inl (kI, 256, .inl (aZ PG))), (a8, .inl (kI, 256, .inl (aZ HG)))] (zI (numA P m8 r c w)) := by
  refine g_start (cc := cX1_numberAt) (maxL := 5) (ret := (some .int)) (by decide) rfl (Nat.le_of_ble_eq_true rfl) ?_
  intro xp xe xs xm xbl xmt xc xX xB xR xM xT xO xL xN wP wD wK ls wl
  have wS : va_S (fun _ => False) xs.heap xs.heap [] := va_S.rf
  have wl : lv_has ls 5 [(0, .ref o), (1, .int (zI r)), (2, .int (zI c)), (3, .int (bI w))] := wl
  refine lv_iload_n xX xB dX1_numberAt_0 rfl (lv_at wl 1 rfl) ?_
  refine g_pure (va_runSN (As := [.int (zI r)]) (rest := []) ⟨xX, xB, xM, xO, xT⟩ (c_X5_isLine l D kI kB r rr) ⟨va_cnB 1 xT ggX1_numberAt_X5_isLine rfl rfl rfl (wK.2 _ (List.mem_of_getElem? (i := 7) rfl)) (xT _ (List.mem_of_getElem? (i := 4) rfl)) hdn_X5_isLine ⟨Nat.le_of_ble_eq_true rfl, Nat.le_of_ble_eq_true rfl⟩, (xT _ (List.mem_of_getElem? (i := 3) rfl)), trivial⟩ (g_preS wP wD wK [] (by decide) rfl) rfl rfl wl.1 rfl (lv_room (Nat.le_of_ble_eq_true rfl)) dX1_numberAt_1 ⟨Nat.le_of_ble_eq_true rfl, Nat.le_of_ble_eq_true rfl⟩) wP wS (fun H locs wP wS => ?_)
  refine b_if_eq (tgt := 14) xX xB dX1_numberAt_4 (by decide) (fun h4 => ?_) (fun h4 => ?_)
  · skip
    refine z_iconst xX xB dX1_numberAt_14 ?_
    exact g_iret xX xB xR xL wS dX1_numberAt_15 (congrArg zI (numA_out (fun z => of_decide_eq_false h4 (by omega))).symm)
  · skip
    refine lv_iload_n xX xB dX1_numberAt_7 rfl (lv_at wl 2 rfl) ?_
    refine g_pure (va_runSN (As := [.int (zI c)]) (rest := []) ⟨xX, xB, xM, xO, xT⟩ (c_X5_isLine l D kI kB c rc) ⟨va_cnB 1 xT ggX1_numberAt_X5_isLine rfl rfl rfl (wK.2 _ (List.mem_of_getElem? (i := 7) rfl)) (xT _ (List.mem_of_getElem? (i := 4) rfl)) hdn_X5_isLine ⟨Nat.le_of_ble_eq_true rfl, Nat.le_of_ble_eq_true rfl⟩, (xT _ (List.mem_of_getElem? (i := 3) rfl)), trivial⟩ (g_preS wP wD wK [] (by decide) rfl) rfl rfl wl.1 rfl (lv_room (Nat.le_of_ble_eq_true rfl)) dX1_numberAt_8 ⟨Nat.le_of_ble_eq_true rfl, Nat.le_of_ble_eq_true rfl⟩) wP wS (fun H locs wP wS => ?_)
    refine b_if_ne (tgt := 16) xX xB dX1_numberAt_11 (by decide) (fun h11 => ?_) (fun h11 => ?_)
    · skip
      have h4 := of_decide_eq_true h4
      have h11 := of_decide_eq_true h11
      obtain ⟨rN, rfl⟩ := Int.eq_ofNat_of_zero_le h4.1
      obtain ⟨cN, rfl⟩ := Int.eq_ofNat_of_zero_le h11.1
      have hx : 16 * rN + cN < 256 := by omega
      refine lv_aload_n xX xB dX1_numberAt_16 rfl (lv_at wl 0 rfl) ?_
      refine va_get (D := D) (ci := 1) (v := .ref h) (C := RX1) (T := TX1) (N := 14) xX xB xT in_X1_numberAt_X1 xO wK.1 wP 0 rfl rfl 0 (by decide) (xT _ (List.mem_of_getElem? (i := 1) rfl)) (fun _ h9 => h9) rfl dX1_numberAt_17 ?_
      refine lv_iload_n xX xB dX1_numberAt_20 rfl (lv_at wl 1 rfl) ?_
      refine lv_iload_n xX xB dX1_numberAt_21 rfl (lv_at wl 2 rfl) ?_
      refine g_pure (va_runV (As := [.int (zI (rN : Int)), .int (zI (cN : Int))]) (rest := []) ⟨xX, xB, xM, xO, xT⟩ (c_X4_runAt l D kI kB h b0 b1 b2 b3 b4 b5 b6 cn FI_ CH_ P rN cN (by omega) (by omega) (hO.2.2.1 rN (by omega)) (hO.2.2.2 rN (by omega))) (cwV 2 xT gX1_numberAt_X4_runAt rfl rfl rfl hd_X4_runAt ⟨Nat.le_of_ble_eq_true rfl, Nat.le_of_ble_eq_true rfl⟩) (g_preV (ci := 4) (q0 := 1) wP wD wK [1, 2, 3] (by decide) rfl rfl rfl) rfl rfl wl.1 rfl (lv_room (Nat.le_of_ble_eq_true rfl)) dX1_numberAt_22 ⟨Nat.le_of_ble_eq_true rfl, Nat.le_of_ble_eq_true rfl⟩) wP wS (fun H locs wP wS => ?_)
      refine lv_istore (lv' := [(4, .int (zI ((rix P (16 * rN + cN) : Nat) : Int))), (0, .ref o), (1, .int (zI (rN : Int))), (2, .int (zI (cN : Int))), (3, .int (bI w))]) xX xB dX1_numberAt_25 wl (by decide) rfl (fun ls wl => ?_)
      refine lv_aload_n xX xB dX1_numberAt_27 rfl (lv_at wl 1 rfl) ?_
      refine va_get (D := D) (ci := 1) (v := .ref h) (C := RX1) (T := TX1) (N := 14) xX xB xT in_X1_numberAt_X1 xO wK.1 wP 0 rfl rfl 0 (by decide) (xT _ (List.mem_of_getElem? (i := 1) rfl)) (fun _ h9 => h9) rfl dX1_numberAt_28 ?_
      refine lv_iload xX xB dX1_numberAt_31 (lv_at wl 0 rfl) ?_
      refine g_pure (va_runV (As := [.int (zI ((rix P (16 * rN + cN) : Nat) : Int))]) (rest := []) ⟨xX, xB, xM, xO, xT⟩ (c_X4_isDark l D kI kB h b0 b1 b2 b3 b4 b5 b6 cn DA (rix P (16 * rN + cN)) (rix_256 hx)) (cwV 1 xT gX1_numberAt_X4_isDark rfl rfl rfl hd_X4_isDark ⟨Nat.le_of_ble_eq_true rfl, Nat.le_of_ble_eq_true rfl⟩) (g_preV (ci := 4) (q0 := 1) wP wD wK [1, 7] (by decide) rfl rfl rfl) rfl rfl wl.1 rfl (lv_room (Nat.le_of_ble_eq_true rfl)) dX1_numberAt_33 ⟨Nat.le_of_ble_eq_true rfl, Nat.le_of_ble_eq_true rfl⟩) wP wS (fun H locs wP wS => ?_)
      refine lv_ri (y := bI (dk P (16 * rN + cN))) (congrArg bI (hO.da hx)) ?_
      refine lv_iload_n xX xB dX1_numberAt_36 rfl (lv_at wl 4 rfl) ?_
      refine b_icmp_ne (tgt := 61) xX xB dX1_numberAt_37 (by decide) (fun h37 => ?_) (fun h37 => ?_)
      · skip
        refine z_iconst xX xB dX1_numberAt_61 ?_
        exact g_iret xX xB xR xL wS dX1_numberAt_62 (congrArg zI (by rw [numA_in (by omega) (by omega), if_neg h37]))
      · skip
        refine lv_aload_n xX xB dX1_numberAt_40 rfl (lv_at wl 1 rfl) ?_
        refine va_get (D := D) (ci := 1) (v := .ref a6) (C := RX1) (T := TX1) (N := 14) xX xB xT in_X1_numberAt_X1 xO wK.1 wP 0 rfl rfl 7 (by decide) (xT _ (List.mem_of_getElem? (i := 2) rfl)) (fun _ h9 => h9) rfl dX1_numberAt_41 ?_
        refine lv_aload_n xX xB dX1_numberAt_44 rfl (lv_at wl 1 rfl) ?_
        refine va_get (D := D) (ci := 1) (v := .ref h) (C := RX1) (T := TX1) (N := 14) xX xB xT in_X1_numberAt_X1 xO wK.1 wP 0 rfl rfl 0 (by decide) (xT _ (List.mem_of_getElem? (i := 1) rfl)) (fun _ h9 => h9) rfl dX1_numberAt_45 ?_
        refine lv_iload xX xB dX1_numberAt_48 (lv_at wl 0 rfl) ?_
        refine g_pure (va_runV (As := [.int (zI ((rix P (16 * rN + cN) : Nat) : Int))]) (rest := [.ref a6]) ⟨xX, xB, xM, xO, xT⟩ (c_X4_groupOf l D kI kB h b0 b1 b2 b3 b4 b5 b6 cn TW (rix P (16 * rN + cN)) (rix_256 hx)) (cwV 1 xT gX1_numberAt_X4_groupOf rfl rfl rfl hd_X4_groupOf ⟨Nat.le_of_ble_eq_true rfl, Nat.le_of_ble_eq_true rfl⟩) (g_preV (ci := 4) (q0 := 1) wP wD wK [1, 8] (by decide) rfl rfl rfl) rfl rfl wl.1 rfl (lv_room (Nat.le_of_ble_eq_true rfl)) dX1_numberAt_50 ⟨Nat.le_of_ble_eq_true rfl, Nat.le_of_ble_eq_true rfl⟩) wP wS (fun H locs wP wS => ?_)
        refine lv_ri (y := zI ((rix P (rp P m8 (16 * rN + cN)) : Nat) : Int)) (congrArg zI (hO.tw hx)) ?_
        refine z_sipush xX xB dX1_numberAt_53 (by decide) ?_
        refine z_m255 xX xB dX1_numberAt_56 (by have := rix_256 (P := P) (rp_lt (P := P) (m8 := m8) hx); omega) ?_
        refine z_iald xX xB wK wP 9 rfl (rix P (rp P m8 (16 * rN + cN))) rfl (rix_256 (rp_lt hx)) (Nat.le_of_ble_eq_true rfl) dX1_numberAt_57 ?_
        refine lv_goto (tgt := 62) xX xB dX1_numberAt_58 (by decide) ?_
        exact g_iret xX xB xR xL wS dX1_numberAt_62 (congrArg zI (by rw [numA_in (by omega) (by omega), if_pos h37]; exact hN.1 _ (rp_lt hx) (rp_rp _)))
    · skip
      refine z_iconst xX xB dX1_numberAt_14 ?_
      exact g_iret xX xB xR xL wS dX1_numberAt_15 (congrArg zI (numA_out (fun z => of_decide_eq_false h11 (by omega))).symm)

set_option maxHeartbeats 4000000 in
set_option maxRecDepth 100000 in
theorem c_X1_partAt (l : Launch) (D : va_G) (kI kB : ClassId) (o : Nat) (h : Nat) (a0 : Nat) (a1 : Nat) (a2 : Nat) (a3 : Nat) (a4 : Nat) (a5 : Nat) (a6 : Nat) (a7 : Nat) (a8 : Nat) (a9 : Nat) (pc : Nat) (hc : Nat) (lc : Nat) (b0 : Nat) (b1 : Nat) (b2 : Nat) (b3 : Nat) (b4 : Nat) (b5 : Nat) (b6 : Nat) (cn : Nat) (FI_ : Nat → Int) (CH_ : Nat → Int) (SO : Nat → Int) (EO : Nat → Int) (RO : Nat → Int) (DA : Nat → Bool) (TW : Nat → Int) (NU : Nat → Int) (PG : Nat → Int) (HG : Nat → Int) (P : Nat → Nat) (m8 : Bool) (r : Int) (c : Int) (hO : RunsOK P m8 FI_ CH_ SO EO RO DA TW) (hN : NuI P m8 256 NU PG HG pc hc lc) (rr : -2147483648 ≤ r ∧ r ≤ 2147483647) (rc : -2147483648 ≤ c ∧ c ≤ 2147483647) : gI l yX1_partAt wsX1_partAt ({ frames := 3, cells := 0, slots := 0, locals := 66 } : Room) D kI kB [.ref o, .int (zI r), .int (zI c)] [(o, .inr (1, [.ref h, .ref a0, .ref a1, .ref a2, .ref a3, .ref a4, .ref a5, .ref a6, .ref a7, .ref a8, .ref a9, .int (zI (pc : Int)), .int (zI (hc : Int)), .int (zI (lc : Int))])), (h, .inr (4, [.ref b0, .ref b1, .ref b2, .ref b3, .ref b4, .ref b5, .ref b6, .int (zI (cn : Int))])), (b0, .inl (kI, 17, .inl (aZ FI_))), (b1, .inl (kI, 16, .inl (aZ CH_))), (b2, .inl (kI, 256, .inl (aZ SO))), (b3, .inl (kI, 256, .inl (aZ EO))), (b4, .inl (kI, 256, .inl (aZ RO))), (b5, .inl (kB, 256, .inl (aB DA))), (b6, .inl (kI, 256, .inl (aZ TW))), (a6, .inl (kI, 256, .inl (aZ NU))), (a7, .inl (kI, 256, .inl (aZ PG))), (a8, .inl (kI, 256, .inl (aZ HG)))] (zI (numA P m8 r c true)) := by
  refine g_start (cc := cX1_partAt) (maxL := 3) (ret := (some .int)) (by decide) rfl (Nat.le_of_ble_eq_true rfl) ?_
  intro xp xe xs xm xbl xmt xc xX xB xR xM xT xO xL xN wP wD wK ls wl
  have wS : va_S (fun _ => False) xs.heap xs.heap [] := va_S.rf
  have wl : lv_has ls 3 [(0, .ref o), (1, .int (zI r)), (2, .int (zI c))] := wl
  refine lv_aload_n xX xB dX1_partAt_0 rfl (lv_at wl 0 rfl) ?_
  refine lv_iload_n xX xB dX1_partAt_1 rfl (lv_at wl 1 rfl) ?_
  refine lv_iload_n xX xB dX1_partAt_2 rfl (lv_at wl 2 rfl) ?_
  refine z_iconst xX xB dX1_partAt_3 ?_
  refine g_pure (va_runV (As := [.int (zI r), .int (zI c), .int (zI 1)]) (rest := []) ⟨xX, xB, xM, xO, xT⟩ (c_X1_numberAt l D kI kB o h a0 a1 a2 a3 a4 a5 a6 a7 a8 a9 pc hc lc b0 b1 b2 b3 b4 b5 b6 cn FI_ CH_ SO EO RO DA TW NU PG HG P m8 r c true hO hN rr rc) (cwV 3 xT gX1_partAt_X1_numberAt rfl rfl rfl hd_X1_numberAt ⟨Nat.le_of_ble_eq_true rfl, Nat.le_of_ble_eq_true rfl⟩) (g_preV (ci := 1) (q0 := 0) wP wD wK [0, 1, 2, 3, 4, 5, 6, 7, 8, 9, 10, 11] (by decide) rfl rfl rfl) rfl rfl wl.1 rfl (lv_room (Nat.le_of_ble_eq_true rfl)) dX1_partAt_4 ⟨Nat.le_of_ble_eq_true rfl, Nat.le_of_ble_eq_true rfl⟩) wP wS (fun H locs wP wS => ?_)
  exact g_iret xX xB xR xL wS dX1_partAt_7 rfl

set_option maxHeartbeats 4000000 in
set_option maxRecDepth 100000 in
theorem c_X1_holeAt (l : Launch) (D : va_G) (kI kB : ClassId) (o : Nat) (h : Nat) (a0 : Nat) (a1 : Nat) (a2 : Nat) (a3 : Nat) (a4 : Nat) (a5 : Nat) (a6 : Nat) (a7 : Nat) (a8 : Nat) (a9 : Nat) (pc : Nat) (hc : Nat) (lc : Nat) (b0 : Nat) (b1 : Nat) (b2 : Nat) (b3 : Nat) (b4 : Nat) (b5 : Nat) (b6 : Nat) (cn : Nat) (FI_ : Nat → Int) (CH_ : Nat → Int) (SO : Nat → Int) (EO : Nat → Int) (RO : Nat → Int) (DA : Nat → Bool) (TW : Nat → Int) (NU : Nat → Int) (PG : Nat → Int) (HG : Nat → Int) (P : Nat → Nat) (m8 : Bool) (r : Int) (c : Int) (hO : RunsOK P m8 FI_ CH_ SO EO RO DA TW) (hN : NuI P m8 256 NU PG HG pc hc lc) (rr : -2147483648 ≤ r ∧ r ≤ 2147483647) (rc : -2147483648 ≤ c ∧ c ≤ 2147483647) : gI l yX1_holeAt wsX1_holeAt ({ frames := 3, cells := 0, slots := 0, locals := 66 } : Room) D kI kB [.ref o, .int (zI r), .int (zI c)] [(o, .inr (1, [.ref h, .ref a0, .ref a1, .ref a2, .ref a3, .ref a4, .ref a5, .ref a6, .ref a7, .ref a8, .ref a9, .int (zI (pc : Int)), .int (zI (hc : Int)), .int (zI (lc : Int))])), (h, .inr (4, [.ref b0, .ref b1, .ref b2, .ref b3, .ref b4, .ref b5, .ref b6, .int (zI (cn : Int))])), (b0, .inl (kI, 17, .inl (aZ FI_))), (b1, .inl (kI, 16, .inl (aZ CH_))), (b2, .inl (kI, 256, .inl (aZ SO))), (b3, .inl (kI, 256, .inl (aZ EO))), (b4, .inl (kI, 256, .inl (aZ RO))), (b5, .inl (kB, 256, .inl (aB DA))), (b6, .inl (kI, 256, .inl (aZ TW))), (a6, .inl (kI, 256, .inl (aZ NU))), (a7, .inl (kI, 256, .inl (aZ PG))), (a8, .inl (kI, 256, .inl (aZ HG)))] (zI (numA P m8 r c false)) := by
  refine g_start (cc := cX1_holeAt) (maxL := 3) (ret := (some .int)) (by decide) rfl (Nat.le_of_ble_eq_true rfl) ?_
  intro xp xe xs xm xbl xmt xc xX xB xR xM xT xO xL xN wP wD wK ls wl
  have wS : va_S (fun _ => False) xs.heap xs.heap [] := va_S.rf
  have wl : lv_has ls 3 [(0, .ref o), (1, .int (zI r)), (2, .int (zI c))] := wl
  refine lv_aload_n xX xB dX1_holeAt_0 rfl (lv_at wl 0 rfl) ?_
  refine lv_iload_n xX xB dX1_holeAt_1 rfl (lv_at wl 1 rfl) ?_
  refine lv_iload_n xX xB dX1_holeAt_2 rfl (lv_at wl 2 rfl) ?_
  refine z_iconst xX xB dX1_holeAt_3 ?_
  refine g_pure (va_runV (As := [.int (zI r), .int (zI c), .int (zI 0)]) (rest := []) ⟨xX, xB, xM, xO, xT⟩ (c_X1_numberAt l D kI kB o h a0 a1 a2 a3 a4 a5 a6 a7 a8 a9 pc hc lc b0 b1 b2 b3 b4 b5 b6 cn FI_ CH_ SO EO RO DA TW NU PG HG P m8 r c false hO hN rr rc) (cwV 3 xT gX1_holeAt_X1_numberAt rfl rfl rfl hd_X1_numberAt ⟨Nat.le_of_ble_eq_true rfl, Nat.le_of_ble_eq_true rfl⟩) (g_preV (ci := 1) (q0 := 0) wP wD wK [0, 1, 2, 3, 4, 5, 6, 7, 8, 9, 10, 11] (by decide) rfl rfl rfl) rfl rfl wl.1 rfl (lv_room (Nat.le_of_ble_eq_true rfl)) dX1_holeAt_4 ⟨Nat.le_of_ble_eq_true rfl, Nat.le_of_ble_eq_true rfl⟩) wP wS (fun H locs wP wS => ?_)
  exact g_iret xX xB xR xL wS dX1_holeAt_7 rfl

set_option maxHeartbeats 4000000 in
set_option maxRecDepth 100000 in
theorem c_X1_holeAround (l : Launch) (D : va_G) (kI kB : ClassId) (o : Nat) (h : Nat) (a0 : Nat) (a1 : Nat) (a2 : Nat) (a3 : Nat) (a4 : Nat) (a5 : Nat) (a6 : Nat) (a7 : Nat) (a8 : Nat) (a9 : Nat) (pc : Nat) (hc : Nat) (lc : Nat) (b0 : Nat) (b1 : Nat) (b2 : Nat) (b3 : Nat) (b4 : Nat) (b5 : Nat) (b6 : Nat) (cn : Nat) (FI_ : Nat → Int) (CH_ : Nat → Int) (SO : Nat → Int) (EO : Nat → Int) (RO : Nat → Int) (DA : Nat → Bool) (TW : Nat → Int) (NU : Nat → Int) (PG : Nat → Int) (HG : Nat → Int) (P : Nat → Nat) (m8 : Bool) (p : Nat) (hO : RunsOK P m8 FI_ CH_ SO EO RO DA TW) (hN : NuI P m8 256 NU PG HG pc hc lc) (hp : p < pc) : gI l yX1_holeAround wsX1_holeAround ({ frames := 4, cells := 0, slots := 0, locals := 88 } : Room) D kI kB [.ref o, .int (zI (p : Int))] [(o, .inr (1, [.ref h, .ref a0, .ref a1, .ref a2, .ref a3, .ref a4, .ref a5, .ref a6, .ref a7, .ref a8, .ref a9, .int (zI (pc : Int)), .int (zI (hc : Int)), .int (zI (lc : Int))])), (h, .inr (4, [.ref b0, .ref b1, .ref b2, .ref b3, .ref b4, .ref b5, .ref b6, .int (zI (cn : Int))])), (b0, .inl (kI, 17, .inl (aZ FI_))), (b1, .inl (kI, 16, .inl (aZ CH_))), (b2, .inl (kI, 256, .inl (aZ SO))), (b3, .inl (kI, 256, .inl (aZ EO))), (b4, .inl (kI, 256, .inl (aZ RO))), (b5, .inl (kB, 256, .inl (aB DA))), (b6, .inl (kI, 256, .inl (aZ TW))), (a6, .inl (kI, 256, .inl (aZ NU))), (a7, .inl (kI, 256, .inl (aZ PG))), (a8, .inl (kI, 256, .inl (aZ HG)))] (zI (lieR P m8 (selD P m8 p))) := by
  refine g_start (cc := cX1_holeAround) (maxL := 3) (ret := (some .int)) (by decide) rfl (Nat.le_of_ble_eq_true rfl) ?_
  intro xp xe xs xm xbl xmt xc xX xB xR xM xT xO xL xN wP wD wK ls wl
  have wS : va_S (fun _ => False) xs.heap xs.heap [] := va_S.rf
  have wl : lv_has ls 3 [(0, .ref o), (1, .int (zI (p : Int)))] := wl
  have hS := selD_spec (P := P) (m8 := m8) (k := p) (by rw [← hN.2.2.2.1]; exact hp)
  have hpc : pc ≤ 128 := by rw [hN.2.2.2.1]; exact cD_128
  have hg := rix_256 (P := P) hS.1
  refine lv_aload_n xX xB dX1_holeAround_0 rfl (lv_at wl 0 rfl) ?_
  refine lv_iload_n xX xB dX1_holeAround_1 rfl (lv_at wl 1 rfl) ?_
  refine g_pure (va_runV (As := [.int (zI (p : Int))]) (rest := []) ⟨xX, xB, xM, xO, xT⟩ (c_X1_groupOfPart l D kI kB o h a0 a1 a2 a3 a4 a5 a6 a7 a8 a9 pc hc lc PG p (by omega)) (cwV 1 xT gX1_holeAround_X1_groupOfPart rfl rfl rfl hd_X1_groupOfPart ⟨Nat.le_of_ble_eq_true rfl, Nat.le_of_ble_eq_true rfl⟩) (g_preV (ci := 1) (q0 := 0) wP wD wK [0, 10] (by decide) rfl rfl rfl) rfl rfl wl.1 rfl (lv_room (Nat.le_of_ble_eq_true rfl)) dX1_holeAround_2 ⟨Nat.le_of_ble_eq_true rfl, Nat.le_of_ble_eq_true rfl⟩) wP wS (fun H locs wP wS => ?_)
  refine lv_ri (y := zI ((rix P (selD P m8 p) : Nat) : Int)) (congrArg zI (hN.pg hp)) ?_
  refine lv_istore_n (lv' := [(2, .int (zI ((rix P (selD P m8 p) : Nat) : Int))), (0, .ref o), (1, .int (zI (p : Int)))]) xX xB dX1_holeAround_5 rfl wl (by decide) rfl (fun ls wl => ?_)
  refine lv_aload_n xX xB dX1_holeAround_6 rfl (lv_at wl 1 rfl) ?_
  refine lv_aload_n xX xB dX1_holeAround_7 rfl (lv_at wl 1 rfl) ?_
  refine va_get (D := D) (ci := 1) (v := .ref h) (C := RX1) (T := TX1) (N := 14) xX xB xT in_X1_holeAround_X1 xO wK.1 wP 0 rfl rfl 0 (by decide) (xT _ (List.mem_of_getElem? (i := 1) rfl)) (fun _ h9 => h9) rfl dX1_holeAround_8 ?_
  refine lv_iload_n xX xB dX1_holeAround_11 rfl (lv_at wl 0 rfl) ?_
  refine g_pure (va_runV (As := [.int (zI ((rix P (selD P m8 p) : Nat) : Int))]) (rest := [.ref o]) ⟨xX, xB, xM, xO, xT⟩ (c_X4_lineOf l D kI kB h b0 b1 b2 b3 b4 b5 b6 cn RO (rix P (selD P m8 p)) (by omega)) (cwV 1 xT gX1_holeAround_X4_lineOf rfl rfl rfl hd_X4_lineOf ⟨Nat.le_of_ble_eq_true rfl, Nat.le_of_ble_eq_true rfl⟩) (g_preV (ci := 4) (q0 := 1) wP wD wK [1, 6] (by decide) rfl rfl rfl) rfl rfl wl.1 rfl (lv_room (Nat.le_of_ble_eq_true rfl)) dX1_holeAround_12 ⟨Nat.le_of_ble_eq_true rfl, Nat.le_of_ble_eq_true rfl⟩) wP wS (fun H locs wP wS => ?_)
  refine lv_ri (y := zI ((selD P m8 p / 16 : Nat) : Int)) (congrArg zI (hO.ro hS.1 hS.2.1.1).1) ?_
  refine z_iconst xX xB dX1_holeAround_15 ?_
  refine z_isub xX xB dX1_holeAround_16 ?_
  refine lv_aload_n xX xB dX1_holeAround_17 rfl (lv_at wl 1 rfl) ?_
  refine va_get (D := D) (ci := 1) (v := .ref h) (C := RX1) (T := TX1) (N := 14) xX xB xT in_X1_holeAround_X1 xO wK.1 wP 0 rfl rfl 0 (by decide) (xT _ (List.mem_of_getElem? (i := 1) rfl)) (fun _ h9 => h9) rfl dX1_holeAround_18 ?_
  refine lv_iload_n xX xB dX1_holeAround_21 rfl (lv_at wl 0 rfl) ?_
  refine g_pure (va_runV (As := [.int (zI ((rix P (selD P m8 p) : Nat) : Int))]) (rest := [.int (zI (((selD P m8 p / 16 : Nat) : Int) - 1)), .ref o]) ⟨xX, xB, xM, xO, xT⟩ (c_X4_start l D kI kB h b0 b1 b2 b3 b4 b5 b6 cn SO (rix P (selD P m8 p)) (by omega)) (cwV 1 xT gX1_holeAround_X4_start rfl rfl rfl hd_X4_start ⟨Nat.le_of_ble_eq_true rfl, Nat.le_of_ble_eq_true rfl⟩) (g_preV (ci := 4) (q0 := 1) wP wD wK [1, 4] (by decide) rfl rfl rfl) rfl rfl wl.1 rfl (lv_room (Nat.le_of_ble_eq_true rfl)) dX1_holeAround_22 ⟨Nat.le_of_ble_eq_true rfl, Nat.le_of_ble_eq_true rfl⟩) wP wS (fun H locs wP wS => ?_)
  refine lv_ri (y := zI ((selD P m8 p % 16 : Nat) : Int)) (congrArg zI (hO.ro hS.1 hS.2.1.1).2) ?_
  refine g_pure (va_runV (As := [.int (zI (((selD P m8 p / 16 : Nat) : Int) - 1)), .int (zI ((selD P m8 p % 16 : Nat) : Int))]) (rest := []) ⟨xX, xB, xM, xO, xT⟩ (c_X1_holeAt l D kI kB o h a0 a1 a2 a3 a4 a5 a6 a7 a8 a9 pc hc lc b0 b1 b2 b3 b4 b5 b6 cn FI_ CH_ SO EO RO DA TW NU PG HG P m8 (((selD P m8 p / 16 : Nat) : Int) - 1) ((selD P m8 p % 16 : Nat) : Int) hO hN (by omega) (by omega)) (cwV 2 xT gX1_holeAround_X1_holeAt rfl rfl rfl hd_X1_holeAt ⟨Nat.le_of_ble_eq_true rfl, Nat.le_of_ble_eq_true rfl⟩) (g_preV (ci := 1) (q0 := 0) wP wD wK [0, 1, 2, 3, 4, 5, 6, 7, 8, 9, 10, 11] (by decide) rfl rfl rfl) rfl rfl wl.1 rfl (lv_room (Nat.le_of_ble_eq_true rfl)) dX1_holeAround_25 ⟨Nat.le_of_ble_eq_true rfl, Nat.le_of_ble_eq_true rfl⟩) wP wS (fun H locs wP wS => ?_)
  exact g_iret xX xB xR xL wS dX1_holeAround_28 (congrArg zI (numA_lie hS.1 hS.2.1))

set_option maxHeartbeats 4000000 in
set_option maxRecDepth 100000 in
theorem c_X1_partAround (l : Launch) (D : va_G) (kI kB : ClassId) (o : Nat) (h : Nat) (a0 : Nat) (a1 : Nat) (a2 : Nat) (a3 : Nat) (a4 : Nat) (a5 : Nat) (a6 : Nat) (a7 : Nat) (a8 : Nat) (a9 : Nat) (pc : Nat) (hc : Nat) (lc : Nat) (b0 : Nat) (b1 : Nat) (b2 : Nat) (b3 : Nat) (b4 : Nat) (b5 : Nat) (b6 : Nat) (cn : Nat) (FI_ : Nat → Int) (CH_ : Nat → Int) (SO : Nat → Int) (EO : Nat → Int) (RO : Nat → Int) (DA : Nat → Bool) (TW : Nat → Int) (NU : Nat → Int) (PG : Nat → Int) (HG : Nat → Int) (P : Nat → Nat) (m8 : Bool) (p : Nat) (hO : RunsOK P m8 FI_ CH_ SO EO RO DA TW) (hN : NuI P m8 256 NU PG HG pc hc lc) (hp : p < hc) : gI l yX1_partAround wsX1_partAround ({ frames := 4, cells := 0, slots := 0, locals := 88 } : Room) D kI kB [.ref o, .int (zI (p : Int))] [(o, .inr (1, [.ref h, .ref a0, .ref a1, .ref a2, .ref a3, .ref a4, .ref a5, .ref a6, .ref a7, .ref a8, .ref a9, .int (zI (pc : Int)), .int (zI (hc : Int)), .int (zI (lc : Int))])), (h, .inr (4, [.ref b0, .ref b1, .ref b2, .ref b3, .ref b4, .ref b5, .ref b6, .int (zI (cn : Int))])), (b0, .inl (kI, 17, .inl (aZ FI_))), (b1, .inl (kI, 16, .inl (aZ CH_))), (b2, .inl (kI, 256, .inl (aZ SO))), (b3, .inl (kI, 256, .inl (aZ EO))), (b4, .inl (kI, 256, .inl (aZ RO))), (b5, .inl (kB, 256, .inl (aB DA))), (b6, .inl (kI, 256, .inl (aZ TW))), (a6, .inl (kI, 256, .inl (aZ NU))), (a7, .inl (kI, 256, .inl (aZ PG))), (a8, .inl (kI, 256, .inl (aZ HG)))] (zI ((cD P m8 (rp P m8 (selH P m8 p - 16)) : Nat) : Int)) := by
  refine g_start (cc := cX1_partAround) (maxL := 3) (ret := (some .int)) (by decide) rfl (Nat.le_of_ble_eq_true rfl) ?_
  intro xp xe xs xm xbl xmt xc xX xB xR xM xT xO xL xN wP wD wK ls wl
  have wS : va_S (fun _ => False) xs.heap xs.heap [] := va_S.rf
  have wl : lv_has ls 3 [(0, .ref o), (1, .int (zI (p : Int)))] := wl
  have hS := selH_spec (P := P) (m8 := m8) (k := p) (by rw [← hN.2.2.2.2.1]; exact hp)
  have hpc : hc ≤ 128 := by rw [hN.2.2.2.2.1]; exact cH_le (Nat.le_refl _)
  have hg := rix_256 (P := P) hS.1
  refine lv_aload_n xX xB dX1_partAround_0 rfl (lv_at wl 0 rfl) ?_
  refine lv_iload_n xX xB dX1_partAround_1 rfl (lv_at wl 1 rfl) ?_
  refine g_pure (va_runV (As := [.int (zI (p : Int))]) (rest := []) ⟨xX, xB, xM, xO, xT⟩ (c_X1_groupOfHole l D kI kB o h a0 a1 a2 a3 a4 a5 a6 a7 a8 a9 pc hc lc HG p (by omega)) (cwV 1 xT gX1_partAround_X1_groupOfHole rfl rfl rfl hd_X1_groupOfHole ⟨Nat.le_of_ble_eq_true rfl, Nat.le_of_ble_eq_true rfl⟩) (g_preV (ci := 1) (q0 := 0) wP wD wK [0, 11] (by decide) rfl rfl rfl) rfl rfl wl.1 rfl (lv_room (Nat.le_of_ble_eq_true rfl)) dX1_partAround_2 ⟨Nat.le_of_ble_eq_true rfl, Nat.le_of_ble_eq_true rfl⟩) wP wS (fun H locs wP wS => ?_)
  refine lv_ri (y := zI ((rix P (selH P m8 p) : Nat) : Int)) (congrArg zI (hN.hg hp)) ?_
  refine lv_istore_n (lv' := [(2, .int (zI ((rix P (selH P m8 p) : Nat) : Int))), (0, .ref o), (1, .int (zI (p : Int)))]) xX xB dX1_partAround_5 rfl wl (by decide) rfl (fun ls wl => ?_)
  refine lv_aload_n xX xB dX1_partAround_6 rfl (lv_at wl 1 rfl) ?_
  refine lv_aload_n xX xB dX1_partAround_7 rfl (lv_at wl 1 rfl) ?_
  refine va_get (D := D) (ci := 1) (v := .ref h) (C := RX1) (T := TX1) (N := 14) xX xB xT in_X1_partAround_X1 xO wK.1 wP 0 rfl rfl 0 (by decide) (xT _ (List.mem_of_getElem? (i := 1) rfl)) (fun _ h9 => h9) rfl dX1_partAround_8 ?_
  refine lv_iload_n xX xB dX1_partAround_11 rfl (lv_at wl 0 rfl) ?_
  refine g_pure (va_runV (As := [.int (zI ((rix P (selH P m8 p) : Nat) : Int))]) (rest := [.ref o]) ⟨xX, xB, xM, xO, xT⟩ (c_X4_lineOf l D kI kB h b0 b1 b2 b3 b4 b5 b6 cn RO (rix P (selH P m8 p)) (by omega)) (cwV 1 xT gX1_partAround_X4_lineOf rfl rfl rfl hd_X4_lineOf ⟨Nat.le_of_ble_eq_true rfl, Nat.le_of_ble_eq_true rfl⟩) (g_preV (ci := 4) (q0 := 1) wP wD wK [1, 6] (by decide) rfl rfl rfl) rfl rfl wl.1 rfl (lv_room (Nat.le_of_ble_eq_true rfl)) dX1_partAround_12 ⟨Nat.le_of_ble_eq_true rfl, Nat.le_of_ble_eq_true rfl⟩) wP wS (fun H locs wP wS => ?_)
  refine lv_ri (y := zI ((selH P m8 p / 16 : Nat) : Int)) (congrArg zI (hO.ro hS.1 hS.2.1.1.1).1) ?_
  refine z_iconst xX xB dX1_partAround_15 ?_
  refine z_isub xX xB dX1_partAround_16 ?_
  refine lv_aload_n xX xB dX1_partAround_17 rfl (lv_at wl 1 rfl) ?_
  refine va_get (D := D) (ci := 1) (v := .ref h) (C := RX1) (T := TX1) (N := 14) xX xB xT in_X1_partAround_X1 xO wK.1 wP 0 rfl rfl 0 (by decide) (xT _ (List.mem_of_getElem? (i := 1) rfl)) (fun _ h9 => h9) rfl dX1_partAround_18 ?_
  refine lv_iload_n xX xB dX1_partAround_21 rfl (lv_at wl 0 rfl) ?_
  refine g_pure (va_runV (As := [.int (zI ((rix P (selH P m8 p) : Nat) : Int))]) (rest := [.int (zI (((selH P m8 p / 16 : Nat) : Int) - 1)), .ref o]) ⟨xX, xB, xM, xO, xT⟩ (c_X4_start l D kI kB h b0 b1 b2 b3 b4 b5 b6 cn SO (rix P (selH P m8 p)) (by omega)) (cwV 1 xT gX1_partAround_X4_start rfl rfl rfl hd_X4_start ⟨Nat.le_of_ble_eq_true rfl, Nat.le_of_ble_eq_true rfl⟩) (g_preV (ci := 4) (q0 := 1) wP wD wK [1, 4] (by decide) rfl rfl rfl) rfl rfl wl.1 rfl (lv_room (Nat.le_of_ble_eq_true rfl)) dX1_partAround_22 ⟨Nat.le_of_ble_eq_true rfl, Nat.le_of_ble_eq_true rfl⟩) wP wS (fun H locs wP wS => ?_)
  refine lv_ri (y := zI ((selH P m8 p % 16 : Nat) : Int)) (congrArg zI (hO.ro hS.1 hS.2.1.1.1).2) ?_
  refine g_pure (va_runV (As := [.int (zI (((selH P m8 p / 16 : Nat) : Int) - 1)), .int (zI ((selH P m8 p % 16 : Nat) : Int))]) (rest := []) ⟨xX, xB, xM, xO, xT⟩ (c_X1_partAt l D kI kB o h a0 a1 a2 a3 a4 a5 a6 a7 a8 a9 pc hc lc b0 b1 b2 b3 b4 b5 b6 cn FI_ CH_ SO EO RO DA TW NU PG HG P m8 (((selH P m8 p / 16 : Nat) : Int) - 1) ((selH P m8 p % 16 : Nat) : Int) hO hN (by omega) (by omega)) (cwV 2 xT gX1_partAround_X1_partAt rfl rfl rfl hd_X1_partAt ⟨Nat.le_of_ble_eq_true rfl, Nat.le_of_ble_eq_true rfl⟩) (g_preV (ci := 1) (q0 := 0) wP wD wK [0, 1, 2, 3, 4, 5, 6, 7, 8, 9, 10, 11] (by decide) rfl rfl rfl) rfl rfl wl.1 rfl (lv_room (Nat.le_of_ble_eq_true rfl)) dX1_partAround_25 ⟨Nat.le_of_ble_eq_true rfl, Nat.le_of_ble_eq_true rfl⟩) wP wS (fun H locs wP wS => ?_)
  exact g_iret xX xB xR xL wS dX1_partAround_28 (congrArg zI (numA_ab hS.1 hS.2.1))

set_option maxHeartbeats 4000000 in
set_option maxRecDepth 100000 in
theorem c_X1_depthOf (l : Launch) (D : va_G) (kI kB : ClassId) (o : Nat) (h : Nat) (a0 : Nat) (a1 : Nat) (a2 : Nat) (a3 : Nat) (a4 : Nat) (a5 : Nat) (a6 : Nat) (a7 : Nat) (a8 : Nat) (a9 : Nat) (pc : Nat) (hc : Nat) (lc : Nat) (b0 : Nat) (b1 : Nat) (b2 : Nat) (b3 : Nat) (b4 : Nat) (b5 : Nat) (b6 : Nat) (cn : Nat) (FI_ : Nat → Int) (CH_ : Nat → Int) (SO : Nat → Int) (EO : Nat → Int) (RO : Nat → Int) (DA : Nat → Bool) (TW : Nat → Int) (NU : Nat → Int) (PG : Nat → Int) (HG : Nat → Int) (P : Nat → Nat) (m8 : Bool) (p : Nat) (hO : RunsOK P m8 FI_ CH_ SO EO RO DA TW) (hN : NuI P m8 256 NU PG HG pc hc lc) (hp : p < pc) : gI l yX1_depthOf wsX1_depthOf ({ frames := 5, cells := 0, slots := 0, locals := 110 } : Room) D kI kB [.ref o, .int (zI (p : Int))] [(o, .inr (1, [.ref h, .ref a0, .ref a1, .ref a2, .ref a3, .ref a4, .ref a5, .ref a6, .ref a7, .ref a8, .ref a9, .int (zI (pc : Int)), .int (zI (hc : Int)), .int (zI (lc : Int))])), (h, .inr (4, [.ref b0, .ref b1, .ref b2, .ref b3, .ref b4, .ref b5, .ref b6, .int (zI (cn : Int))])), (b0, .inl (kI, 17, .inl (aZ FI_))), (b1, .inl (kI, 16, .inl (aZ CH_))), (b2, .inl (kI, 256, .inl (aZ SO))), (b3, .inl (kI, 256, .inl (aZ EO))), (b4, .inl (kI, 256, .inl (aZ RO))), (b5, .inl (kB, 256, .inl (aB DA))), (b6, .inl (kI, 256, .inl (aZ TW))), (a6, .inl (kI, 256, .inl (aZ NU))), (a7, .inl (kI, 256, .inl (aZ PG))), (a8, .inl (kI, 256, .inl (aZ HG)))] (zI ((deepR P m8 (selD P m8 p) : Nat) : Int)) := by
  refine g_start (cc := cX1_depthOf) (maxL := 4) (ret := (some .int)) (by decide) rfl (Nat.le_of_ble_eq_true rfl) ?_
  intro xp xe xs xm xbl xmt xc xX xB xR xM xT xO xL xN wP wD wK ls wl
  have wS : va_S (fun _ => False) xs.heap xs.heap [] := va_S.rf
  have wl : lv_has ls 4 [(0, .ref o), (1, .int (zI (p : Int)))] := wl
  generalize hQ : MQ xbl _ _ xs 0 0 _ = xQ
  have hS := selD_spec (P := P) (m8 := m8) (k := p) (by rw [← hN.2.2.2.1]; exact hp)
  have hdp : deepR P m8 (selD P m8 p) ≤ 256 := dpN_le _ _
  refine z_iconst xX xB dX1_depthOf_0 ?_
  refine lv_istore_n (lv' := [(2, .int (zI 0)), (0, .ref o), (1, .int (zI (p : Int)))]) xX xB dX1_depthOf_1 rfl wl (by decide) rfl (fun ls wl => ?_)
  refine lv_aload_n xX xB dX1_depthOf_2 rfl (lv_at wl 1 rfl) ?_
  refine lv_iload_n xX xB dX1_depthOf_3 rfl (lv_at wl 2 rfl) ?_
  refine g_pure (va_runV (As := [.int (zI (p : Int))]) (rest := []) ⟨xX, xB, xM, xO, xT⟩ (c_X1_holeAround l D kI kB o h a0 a1 a2 a3 a4 a5 a6 a7 a8 a9 pc hc lc b0 b1 b2 b3 b4 b5 b6 cn FI_ CH_ SO EO RO DA TW NU PG HG P m8 p hO hN hp) (cwV 1 xT gX1_depthOf_X1_holeAround rfl rfl rfl hd_X1_holeAround ⟨Nat.le_of_ble_eq_true rfl, Nat.le_of_ble_eq_true rfl⟩) (g_preV (ci := 1) (q0 := 0) wP wD wK [0, 1, 2, 3, 4, 5, 6, 7, 8, 9, 10, 11] (by decide) rfl rfl rfl) rfl rfl wl.1 rfl (lv_room (Nat.le_of_ble_eq_true rfl)) dX1_depthOf_4 ⟨Nat.le_of_ble_eq_true rfl, Nat.le_of_ble_eq_true rfl⟩) wP wS (fun H locs wP wS => ?_)
  refine lv_istore_n (lv' := [(3, .int (zI (lieR P m8 (selD P m8 p)))), (2, .int (zI 0)), (0, .ref o), (1, .int (zI (p : Int)))]) xX xB dX1_depthOf_7 rfl wl (by decide) rfl (fun ls wl => ?_)
  have K : ∀ n_ : Nat, ∀ (Rc : Nat) (d : Nat), deepR P m8 Rc < n_ → (Rc < 256) → (isD P m8 Rc) → (d + deepR P m8 Rc = deepR P m8 (selD P m8 p)) → ∀ (H : Heap) (locs : List Loc) (ls : Array Slot), va_P D gC [(o, .inr (1, [.ref h, .ref a0, .ref a1, .ref a2, .ref a3, .ref a4, .ref a5, .ref a6, .ref a7, .ref a8, .ref a9, .int (zI (pc : Int)), .int (zI (hc : Int)), .int (zI (lc : Int))])), (h, .inr (4, [.ref b0, .ref b1, .ref b2, .ref b3, .ref b4, .ref b5, .ref b6, .int (zI (cn : Int))])), (b0, .inl (kI, 17, .inl (aZ FI_))), (b1, .inl (kI, 16, .inl (aZ CH_))), (b2, .inl (kI, 256, .inl (aZ SO))), (b3, .inl (kI, 256, .inl (aZ EO))), (b4, .inl (kI, 256, .inl (aZ RO))), (b5, .inl (kB, 256, .inl (aB DA))), (b6, .inl (kI, 256, .inl (aZ TW))), (a6, .inl (kI, 256, .inl (aZ NU))), (a7, .inl (kI, 256, .inl (aZ PG))), (a8, .inl (kI, 256, .inl (aZ HG)))] H → va_S (fun _ => False) xs.heap H locs → lv_has ls 4 [(0, .ref o), (1, .int (zI (p : Int))), (2, .int (zI (d : Int))), (3, .int (zI (lieR P m8 Rc)))] → W xp l xe ({ frames := 5, cells := 0, slots := 0, locals := 110 } : Room) xs xm (List.toArray [.ref o, .int (zI (p : Int))]) xbl xmt xc H locs 0 0 xQ (F0 xm 8 ls []) := by
    intro n_
    induction n_ with
    | zero =>
      intro Rc d hme
      exact absurd hme (Nat.not_lt_zero _)
    | succ n_ ihK =>
      intro Rc d hme hRc hDc hd H locs ls wP wS wl
      have lr := lieR_rng (P := P) (m8 := m8) hRc
      refine lv_iload_n xX xB dX1_depthOf_8 rfl (lv_at wl 3 rfl) ?_
      refine z_iconst xX xB dX1_depthOf_9 ?_
      refine z_icmp_eq (tgt := 36) xX xB dX1_depthOf_10 (by decide) (by omega) (by omega) (fun h10 => ?_) (fun h10 => ?_)
      · skip
        refine lv_iload_n xX xB dX1_depthOf_36 rfl (lv_at wl 2 rfl) ?_
        subst hQ
        exact g_iret xX xB xR xL wS dX1_depthOf_37 (congrArg (fun z : Nat => zI (z : Int)) (by have ls := deepR_step hRc hDc; rw [if_pos h10] at ls; omega))
      · skip
        refine lv_iload_n xX xB dX1_depthOf_13 rfl (lv_at wl 2 rfl) ?_
        refine z_sipush xX xB dX1_depthOf_14 (by decide) ?_
        refine z_icmp_ge (tgt := 36) xX xB dX1_depthOf_17 (by decide) (by omega) (by omega) (fun h17 => ?_) (fun h17 => ?_)
        · exact absurd h17 (by have ls := deepR_step hRc hDc; rw [if_neg h10] at ls; omega)
        · skip
          obtain ⟨l1, l2, l3, l4⟩ := lieR_hole hRc hDc h10
          have lk : cH P m8 (rp P m8 (Rc - 16)) < hc := by rw [hN.2.2.2.2.1]; exact cH_lt l3 l2
          have la := isD_above l3 l2
          have lp : cD P m8 (rp P m8 (rp P m8 (Rc - 16) - 16)) < pc := by rw [hN.2.2.2.1]; exact cD_lt la.2 la.1
          have ls := deepR_step hRc hDc
          rw [if_neg h10] at ls
          refine lv_iinc (v := zI ((d : Int) + 1)) (lv' := [(2, .int (zI ((d : Int) + 1))), (0, .ref o), (1, .int (zI (p : Int))), (3, .int (zI (lieR P m8 Rc)))]) xX xB dX1_depthOf_20 wl (k := 2) rfl (zI_add _ _) (by decide) rfl (fun ls wl => ?_)
          refine lv_aload_n xX xB dX1_depthOf_23 rfl (lv_at wl 1 rfl) ?_
          refine lv_aload_n xX xB dX1_depthOf_24 rfl (lv_at wl 1 rfl) ?_
          refine lv_iload_n xX xB dX1_depthOf_25 rfl (lv_at wl 3 rfl) ?_
          refine lv_ri (y := zI ((cH P m8 (rp P m8 (Rc - 16)) : Nat) : Int)) (congrArg zI l4) ?_
          refine g_pure (va_runV (As := [.int (zI ((cH P m8 (rp P m8 (Rc - 16)) : Nat) : Int))]) (rest := [.ref o]) ⟨xX, xB, xM, xO, xT⟩ (c_X1_partAround l D kI kB o h a0 a1 a2 a3 a4 a5 a6 a7 a8 a9 pc hc lc b0 b1 b2 b3 b4 b5 b6 cn FI_ CH_ SO EO RO DA TW NU PG HG P m8 (cH P m8 (rp P m8 (Rc - 16))) hO hN lk) (cwV 1 xT gX1_depthOf_X1_partAround rfl rfl rfl hd_X1_partAround ⟨Nat.le_of_ble_eq_true rfl, Nat.le_of_ble_eq_true rfl⟩) (g_preV (ci := 1) (q0 := 0) wP wD wK [0, 1, 2, 3, 4, 5, 6, 7, 8, 9, 10, 11] (by decide) rfl rfl rfl) rfl rfl wl.1 rfl (lv_room (Nat.le_of_ble_eq_true rfl)) dX1_depthOf_26 ⟨Nat.le_of_ble_eq_true rfl, Nat.le_of_ble_eq_true rfl⟩) wP wS (fun H locs wP wS => ?_)
          refine lv_ri (y := zI ((cD P m8 (rp P m8 (rp P m8 (Rc - 16) - 16)) : Nat) : Int)) (congrArg zI (by rw [selH_cH l3 l2])) ?_
          refine g_pure (va_runV (As := [.int (zI ((cD P m8 (rp P m8 (rp P m8 (Rc - 16) - 16)) : Nat) : Int))]) (rest := []) ⟨xX, xB, xM, xO, xT⟩ (c_X1_holeAround l D kI kB o h a0 a1 a2 a3 a4 a5 a6 a7 a8 a9 pc hc lc b0 b1 b2 b3 b4 b5 b6 cn FI_ CH_ SO EO RO DA TW NU PG HG P m8 (cD P m8 (rp P m8 (rp P m8 (Rc - 16) - 16))) hO hN lp) (cwV 1 xT gX1_depthOf_X1_holeAround rfl rfl rfl hd_X1_holeAround ⟨Nat.le_of_ble_eq_true rfl, Nat.le_of_ble_eq_true rfl⟩) (g_preV (ci := 1) (q0 := 0) wP wD wK [0, 1, 2, 3, 4, 5, 6, 7, 8, 9, 10, 11] (by decide) rfl rfl rfl) rfl rfl wl.1 rfl (lv_room (Nat.le_of_ble_eq_true rfl)) dX1_depthOf_29 ⟨Nat.le_of_ble_eq_true rfl, Nat.le_of_ble_eq_true rfl⟩) wP wS (fun H locs wP wS => ?_)
          refine lv_ri (y := zI (lieR P m8 (rp P m8 (rp P m8 (Rc - 16) - 16)))) (congrArg zI (by rw [selD_cD la.2 la.1])) ?_
          refine lv_istore_n (lv' := [(3, .int (zI (lieR P m8 (rp P m8 (rp P m8 (Rc - 16) - 16))))), (2, .int (zI ((d : Int) + 1))), (0, .ref o), (1, .int (zI (p : Int)))]) xX xB dX1_depthOf_32 rfl wl (by decide) rfl (fun ls wl => ?_)
          refine lv_goto (tgt := 8) xX xB dX1_depthOf_33 (by decide) ?_
          exact ihK (rp P m8 (rp P m8 (Rc - 16) - 16)) (d + 1) (by omega) la.2 la.1 (by omega) _ _ _ wP wS (lv_sub wl [2, 3, 1, 0] rfl)
  exact K _ (selD P m8 p) 0 (Nat.lt_succ_self _) hS.1 hS.2.1 (by omega) _ _ _ wP wS (lv_sub wl [2, 3, 1, 0] rfl)
