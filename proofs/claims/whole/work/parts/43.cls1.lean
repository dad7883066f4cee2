set_option maxRecDepth 20000 in
theorem in_X4_isDark_X4 : ∀ w ∈ u_ws RX4 TX4 8, w ∈ wsX4_isDark := by decide +kernel
set_option maxRecDepth 20000 in
theorem in_X4_groupOf_X4 : ∀ w ∈ u_ws RX4 TX4 8, w ∈ wsX4_groupOf := by decide +kernel
set_option maxRecDepth 20000 in
theorem in_X4_lineOf_X4 : ∀ w ∈ u_ws RX4 TX4 8, w ∈ wsX4_lineOf := by decide +kernel
set_option maxRecDepth 20000 in
theorem in_X4_start_X4 : ∀ w ∈ u_ws RX4 TX4 8, w ∈ wsX4_start := by decide +kernel
set_option maxRecDepth 20000 in
theorem in_X4_end_X4 : ∀ w ∈ u_ws RX4 TX4 8, w ∈ wsX4_end := by decide +kernel
set_option maxRecDepth 20000 in
theorem in_X4_runAt_X4 : ∀ w ∈ u_ws RX4 TX4 8, w ∈ wsX4_runAt := by decide +kernel
set_option maxRecDepth 20000 in
theorem in_X4_add_X4 : ∀ w ∈ u_ws RX4 TX4 8, w ∈ wsX4_add := by decide +kernel
theorem hd_X4_end : yX4_end.cls = RX4 ∧ yX4_end.cls ≠ "java/lang/invoke/MethodHandle" ∧ yX4_end.cls ≠ "java/lang/invoke/VarHandle" ∧ (parseMethodDescriptor yX4_end.desc).map (fun d => d.parameters.length) = some 1 := by decide +kernel
theorem hd_X4_start : yX4_start.cls = RX4 ∧ yX4_start.cls ≠ "java/lang/invoke/MethodHandle" ∧ yX4_start.cls ≠ "java/lang/invoke/VarHandle" ∧ (parseMethodDescriptor yX4_start.desc).map (fun d => d.parameters.length) = some 1 := by decide +kernel
theorem hd_X4_add : yX4_add.cls = RX4 ∧ yX4_add.cls ≠ "java/lang/invoke/MethodHandle" ∧ yX4_add.cls ≠ "java/lang/invoke/VarHandle" ∧ (parseMethodDescriptor yX4_add.desc).map (fun d => d.parameters.length) = some 4 := by decide +kernel
set_option maxHeartbeats 4000000 in
set_option maxRecDepth 100000 in
theorem c_X4_isDark (l : Launch) (D : va_G) (kI kB : ClassId) (h : Nat) (b0 : Nat) (b1 : Nat) (b2 : Nat) (b3 : Nat) (b4 : Nat) (b5 : Nat) (b6 : Nat) (cn : Nat) (DA : Nat → Bool) (i : Nat) (hi : i < 256) : gI l yX4_isDark wsX4_isDark ({ frames := 0, cells := 0, slots := 0, locals := 0 } : Room) D kI kB [.ref h, .int (zI (i : Int))] [(h, .inr (4, [.ref b0, .ref b1, .ref b2, .ref b3, .ref b4, .ref b5, .ref b6, .int (zI (cn : Int))])), (b5, .inl (kB, 256, .inl (aB DA)))] (bI (DA i)) := by
  refine g_start (cc := cX4_isDark) (maxL := 2) (ret := (some .boolean)) (by decide) rfl (Nat.le_of_ble_eq_true rfl) ?_
  intro xp xe xs xm xbl xmt xc xX xB xR xM xT xO xL xN wP wD wK ls wl
  have wS : va_S (fun _ => False) xs.heap xs.heap [] := va_S.rf
  have wl : lv_has ls 2 [(0, .ref h), (1, .int (zI (i : Int)))] := wl
  refine lv_aload_n xX xB dX4_isDark_0 rfl (lv_at wl 0 rfl) ?_
  refine va_get (D := D) (ci := 4) (v := .ref b5) (C := RX4) (T := TX4) (N := 8) xX xB xT in_X4_isDark_X4 xO wK.1 wP 0 rfl rfl 5 (by decide) (xT _ (List.mem_of_getElem? (i := 1) rfl)) (fun _ h9 => h9) rfl dX4_isDark_1 ?_
  refine lv_iload_n xX xB dX4_isDark_4 rfl (lv_at wl 1 rfl) ?_
  refine z_sipush xX xB dX4_isDark_5 (by decide) ?_
  refine z_m255 xX xB dX4_isDark_8 (by omega) ?_
  refine z_bald xX xB wK wP 1 rfl i rfl (by omega) (Nat.le_of_ble_eq_true rfl) dX4_isDark_9 ?_
  exact g_zret xX xB xR xL wS dX4_isDark_10 rfl

set_option maxHeartbeats 4000000 in
set_option maxRecDepth 100000 in
theorem c_X4_groupOf (l : Launch) (D : va_G) (kI kB : ClassId) (h : Nat) (b0 : Nat) (b1 : Nat) (b2 : Nat) (b3 : Nat) (b4 : Nat) (b5 : Nat) (b6 : Nat) (cn : Nat) (TW : Nat → Int) (i : Nat) (hi : i < 256) : gI l yX4_groupOf wsX4_groupOf ({ frames := 0, cells := 0, slots := 0, locals := 0 } : Room) D kI kB [.ref h, .int (zI (i : Int))] [(h, .inr (4, [.ref b0, .ref b1, .ref b2, .ref b3, .ref b4, .ref b5, .ref b6, .int (zI (cn : Int))])), (b6, .inl (kI, 256, .inl (aZ TW)))] (zI (TW i)) := by
  refine g_start (cc := cX4_groupOf) (maxL := 2) (ret := (some .int)) (by decide) rfl (Nat.le_of_ble_eq_true rfl) ?_
  intro xp xe xs xm xbl xmt xc xX xB xR xM xT xO xL xN wP wD wK ls wl
  have wS : va_S (fun _ => False) xs.heap xs.heap [] := va_S.rf
  have wl : lv_has ls 2 [(0, .ref h), (1, .int (zI (i : Int)))] := wl
  refine lv_aload_n xX xB dX4_groupOf_0 rfl (lv_at wl 0 rfl) ?_
  refine va_get (D := D) (ci := 4) (v := .ref b6) (C := RX4) (T := TX4) (N := 8) xX xB xT in_X4_groupOf_X4 xO wK.1 wP 0 rfl rfl 6 (by decide) (xT _ (List.mem_of_getElem? (i := 1) rfl)) (fun _ h9 => h9) rfl dX4_groupOf_1 ?_
  refine lv_iload_n xX xB dX4_groupOf_4 rfl (lv_at wl 1 rfl) ?_
  refine z_sipush xX xB dX4_groupOf_5 (by decide) ?_
  refine z_m255 xX xB dX4_groupOf_8 (by omega) ?_
  refine z_iald xX xB wK wP 1 rfl i rfl (by omega) (Nat.le_of_ble_eq_true rfl) dX4_groupOf_9 ?_
  exact g_iret xX xB xR xL wS dX4_groupOf_10 rfl

set_option maxHeartbeats 4000000 in
set_option maxRecDepth 100000 in
theorem c_X4_lineOf (l : Launch) (D : va_G) (kI kB : ClassId) (h : Nat) (b0 : Nat) (b1 : Nat) (b2 : Nat) (b3 : Nat) (b4 : Nat) (b5 : Nat) (b6 : Nat) (cn : Nat) (RO : Nat → Int) (i : Nat) (hi : i < 256) : gI l yX4_lineOf wsX4_lineOf ({ frames := 0, cells := 0, slots := 0, locals := 0 } : Room) D kI kB [.ref h, .int (zI (i : Int))] [(h, .inr (4, [.ref b0, .ref b1, .ref b2, .ref b3, .ref b4, .ref b5, .ref b6, .int (zI (cn : Int))])), (b4, .inl (kI, 256, .inl (aZ RO)))] (zI (RO i)) := by
  refine g_start (cc := cX4_lineOf) (maxL := 2) (ret := (some .int)) (by decide) rfl (Nat.le_of_ble_eq_true rfl) ?_
  intro xp xe xs xm xbl xmt xc xX xB xR xM xT xO xL xN wP wD wK ls wl
  have wS : va_S (fun _ => False) xs.heap xs.heap [] := va_S.rf
  have wl : lv_has ls 2 [(0, .ref h), (1, .int (zI (i : Int)))] := wl
  refine lv_aload_n xX xB dX4_lineOf_0 rfl (lv_at wl 0 rfl) ?_
  refine va_get (D := D) (ci := 4) (v := .ref b4) (C := RX4) (T := TX4) (N := 8) xX xB xT in_X4_lineOf_X4 xO wK.1 wP 0 rfl rfl 4 (by decide) (xT _ (List.mem_of_getElem? (i := 1) rfl)) (fun _ h9 => h9) rfl dX4_lineOf_1 ?_
  refine lv_iload_n xX xB dX4_lineOf_4 rfl (lv_at wl 1 rfl) ?_
  refine z_sipush xX xB dX4_lineOf_5 (by decide) ?_
  refine z_m255 xX xB dX4_lineOf_8 (by omega) ?_
  refine z_iald xX xB wK wP 1 rfl i rfl (by omega) (Nat.le_of_ble_eq_true rfl) dX4_lineOf_9 ?_
  exact g_iret xX xB xR xL wS dX4_lineOf_10 rfl

set_option maxHeartbeats 4000000 in
set_option maxRecDepth 100000 in
theorem c_X4_start (l : Launch) (D : va_G) (kI kB : ClassId) (h : Nat) (b0 : Nat) (b1 : Nat) (b2 : Nat) (b3 : Nat) (b4 : Nat) (b5 : Nat) (b6 : Nat) (cn : Nat) (SO : Nat → Int) (i : Nat) (hi : i < 256) : gI l yX4_start wsX4_start ({ frames := 0, cells := 0, slots := 0, locals := 0 } : Room) D kI kB [.ref h, .int (zI (i : Int))] [(h, .inr (4, [.ref b0, .ref b1, .ref b2, .ref b3, .ref b4, .ref b5, .ref b6, .int (zI (cn : Int))])), (b2, .inl (kI, 256, .inl (aZ SO)))] (zI (SO i)) := by
  refine g_start (cc := cX4_start) (maxL := 2) (ret := (some .int)) (by decide) rfl (Nat.le_of_ble_eq_true rfl) ?_
  intro xp xe xs xm xbl xmt xc xX xB xR xM xT xO xL xN wP wD wK ls wl
  have wS : va_S (fun _ => False) xs.heap xs.heap [] := va_S.rf
  have wl : lv_has ls 2 [(0, .ref h), (1, .int (zI (i : Int)))] := wl
  refine lv_aload_n xX xB dX4_start_0 rfl (lv_at wl 0 rfl) ?_
  refine va_get (D := D) (ci := 4) (v := .ref b2) (C := RX4) (T := TX4) (N := 8) xX xB xT in_X4_start_X4 xO wK.1 wP 0 rfl rfl 2 (by decide) (xT _ (List.mem_of_getElem? (i := 1) rfl)) (fun _ h9 => h9) rfl dX4_start_1 ?_
  refine lv_iload_n xX xB dX4_start_4 rfl (lv_at wl 1 rfl) ?_
  refine z_sipush xX xB dX4_start_5 (by decide) ?_
  refine z_m255 xX xB dX4_start_8 (by omega) ?_
  refine z_iald xX xB wK wP 1 rfl i rfl (by omega) (Nat.le_of_ble_eq_true rfl) dX4_start_9 ?_
  exact g_iret xX xB xR xL wS dX4_start_10 rfl

set_option maxHeartbeats 4000000 in
set_option maxRecDepth 100000 in
theorem c_X4_end (l : Launch) (D : va_G) (kI kB : ClassId) (h : Nat) (b0 : Nat) (b1 : Nat) (b2 : Nat) (b3 : Nat) (b4 : Nat) (b5 : Nat) (b6 : Nat) (cn : Nat) (EO : Nat → Int) (i : Nat) (hi : i < 256) : gI l yX4_end wsX4_end ({ frames := 0, cells := 0, slots := 0, locals := 0 } : Room) D kI kB [.ref h, .int (zI (i : Int))] [(h, .inr (4, [.ref b0, .ref b1, .ref b2, .ref b3, .ref b4, .ref b5, .ref b6, .int (zI (cn : Int))])), (b3, .inl (kI, 256, .inl (aZ EO)))] (zI (EO i)) := by
  refine g_start (cc := cX4_end) (maxL := 2) (ret := (some .int)) (by decide) rfl (Nat.le_of_ble_eq_true rfl) ?_
  intro xp xe xs xm xbl xmt xc xX xB xR xM xT xO xL xN wP wD wK ls wl
  have wS : va_S (fun _ => False) xs.heap xs.heap [] := va_S.rf
  have wl : lv_has ls 2 [(0, .ref h), (1, .int (zI (i : Int)))] := wl
  refine lv_aload_n xX xB dX4_end_0 rfl (lv_at wl 0 rfl) ?_
  refine va_get (D := D) (ci := 4) (v := .ref b3) (C := RX4) (T := TX4) (N := 8) xX xB xT in_X4_end_X4 xO wK.1 wP 0 rfl rfl 3 (by decide) (xT _ (List.mem_of_getElem? (i := 1) rfl)) (fun _ h9 => h9) rfl dX4_end_1 ?_
  refine lv_iload_n xX xB dX4_end_4 rfl (lv_at wl 1 rfl) ?_
  refine z_sipush xX xB dX4_end_5 (by decide) ?_
  refine z_m255 xX xB dX4_end_8 (by omega) ?_
  refine z_iald xX xB wK wP 1 rfl i rfl (by omega) (Nat.le_of_ble_eq_true rfl) dX4_end_9 ?_
  exact g_iret xX xB xR xL wS dX4_end_10 rfl

set_option maxHeartbeats 4000000 in
set_option maxRecDepth 100000 in
theorem c_X4_length (l : Launch) (D : va_G) (kI kB : ClassId) (h : Nat) (b0 : Nat) (b1 : Nat) (b2 : Nat) (b3 : Nat) (b4 : Nat) (b5 : Nat) (b6 : Nat) (cn : Nat) (SO : Nat → Int) (EO : Nat → Int) (i : Nat) (hi : i < 256) : gI l yX4_length wsX4_length ({ frames := 1, cells := 0, slots := 0, locals := 21 } : Room) D kI kB [.ref h, .int (zI (i : Int))] [(h, .inr (4, [.ref b0, .ref b1, .ref b2, .ref b3, .ref b4, .ref b5, .ref b6, .int (zI (cn : Int))])), (b2, .inl (kI, 256, .inl (aZ SO))), (b3, .inl (kI, 256, .inl (aZ EO)))] (zI (EO i - SO i + 1)) := by
  refine g_start (cc := cX4_length) (maxL := 2) (ret := (some .int)) (by decide) rfl (Nat.le_of_ble_eq_true rfl) ?_
  intro xp xe xs xm xbl xmt xc xX xB xR xM xT xO xL xN wP wD wK ls wl
  have wS : va_S (fun _ => False) xs.heap xs.heap [] := va_S.rf
  have wl : lv_has ls 2 [(0, .ref h), (1, .int (zI (i : Int)))] := wl
  refine lv_aload_n xX xB dX4_length_0 rfl (lv_at wl 0 rfl) ?_
  refine lv_iload_n xX xB dX4_length_1 rfl (lv_at wl 1 rfl) ?_
  refine g_pure (va_runV (As := [.int (zI (i : Int))]) (rest := []) ⟨xX, xB, xM, xO, xT⟩ (c_X4_end l D kI kB h b0 b1 b2 b3 b4 b5 b6 cn EO i (by omega)) (cwV 1 xT gX4_length_X4_end rfl rfl rfl hd_X4_end ⟨Nat.le_of_ble_eq_true rfl, Nat.le_of_ble_eq_true rfl⟩) (g_preV (ci := 4) (q0 := 0) wP wD wK [0, 2] (by decide) rfl rfl rfl) rfl rfl wl.1 rfl (lv_room (Nat.le_of_ble_eq_true rfl)) dX4_length_2 ⟨Nat.le_of_ble_eq_true rfl, Nat.le_of_ble_eq_true rfl⟩) wP wS (fun H locs wP wS => ?_)
  refine lv_aload_n xX xB dX4_length_5 rfl (lv_at wl 0 rfl) ?_
  refine lv_iload_n xX xB dX4_length_6 rfl (lv_at wl 1 rfl) ?_
  refine g_pure (va_runV (As := [.int (zI (i : Int))]) (rest := [.int (zI (EO i))]) ⟨xX, xB, xM, xO, xT⟩ (c_X4_start l D kI kB h b0 b1 b2 b3 b4 b5 b6 cn SO i (by omega)) (cwV 1 xT gX4_length_X4_start rfl rfl rfl hd_X4_start ⟨Nat.le_of_ble_eq_true rfl, Nat.le_of_ble_eq_true rfl⟩) (g_preV (ci := 4) (q0 := 0) wP wD wK [0, 1] (by decide) rfl rfl rfl) rfl rfl wl.1 rfl (lv_room (Nat.le_of_ble_eq_true rfl)) dX4_length_7 ⟨Nat.le_of_ble_eq_true rfl, Nat.le_of_ble_eq_true rfl⟩) wP wS (fun H locs wP wS => ?_)
  refine z_isub xX xB dX4_length_10 ?_
  refine z_iconst xX xB dX4_length_11 ?_
  refine z_iadd xX xB dX4_length_12 ?_
  exact g_iret xX xB xR xL wS dX4_length_13 rfl

set_option maxHeartbeats 4000000 in
set_option maxRecDepth 100000 in
theorem c_X4_columns (l : Launch) (D : va_G) (kI kB : ClassId) (h : Nat) (b0 : Nat) (b1 : Nat) (b2 : Nat) (b3 : Nat) (b4 : Nat) (b5 : Nat) (b6 : Nat) (cn : Nat) (SO : Nat → Int) (EO : Nat → Int) (i : Nat) (sc : Nat) (ec : Nat) (hi : i < 256) (hs : SO i = (sc : Int)) (he : EO i = (ec : Int)) (hse : sc ≤ ec) (hec : ec < 16) : gI l yX4_columns wsX4_columns ({ frames := 1, cells := 0, slots := 0, locals := 21 } : Room) D kI kB [.ref h, .int (zI (i : Int))] [(h, .inr (4, [.ref b0, .ref b1, .ref b2, .ref b3, .ref b4, .ref b5, .ref b6, .int (zI (cn : Int))])), (b2, .inl (kI, 256, .inl (aZ SO))), (b3, .inl (kI, 256, .inl (aZ EO)))] (zI ((colN sc ec : Nat) : Int)) := by
  refine g_start (cc := cX4_columns) (maxL := 2) (ret := (some .int)) (by decide) rfl (Nat.le_of_ble_eq_true rfl) ?_
  intro xp xe xs xm xbl xmt xc xX xB xR xM xT xO xL xN wP wD wK ls wl
  have wS : va_S (fun _ => False) xs.heap xs.heap [] := va_S.rf
  have wl : lv_has ls 2 [(0, .ref h), (1, .int (zI (i : Int)))] := wl
  refine z_iconst xX xB dX4_columns_0 ?_
  refine lv_aload_n xX xB dX4_columns_1 rfl (lv_at wl 0 rfl) ?_
  refine lv_iload_n xX xB dX4_columns_2 rfl (lv_at wl 1 rfl) ?_
  refine g_pure (va_runV (As := [.int (zI (i : Int))]) (rest := [.int (zI 2)]) ⟨xX, xB, xM, xO, xT⟩ (c_X4_end l D kI kB h b0 b1 b2 b3 b4 b5 b6 cn EO i (by omega)) (cwV 1 xT gX4_columns_X4_end rfl rfl rfl hd_X4_end ⟨Nat.le_of_ble_eq_true rfl, Nat.le_of_ble_eq_true rfl⟩) (g_preV (ci := 4) (q0 := 0) wP wD wK [0, 2] (by decide) rfl rfl rfl) rfl rfl wl.1 rfl (lv_room (Nat.le_of_ble_eq_true rfl)) dX4_columns_3 ⟨Nat.le_of_ble_eq_true rfl, Nat.le_of_ble_eq_true rfl⟩) wP wS (fun H locs wP wS => ?_)
  refine lv_ishl xX xB dX4_columns_6 ?_
  refine lv_ri (y := zI ((2 <<< ec : Nat) : Int)) (by rw [he]; exact zb_2shl hec) ?_
  refine z_iconst xX xB dX4_columns_7 ?_
  refine lv_aload_n xX xB dX4_columns_8 rfl (lv_at wl 0 rfl) ?_
  refine lv_iload_n xX xB dX4_columns_9 rfl (lv_at wl 1 rfl) ?_
  refine g_pure (va_runV (As := [.int (zI (i : Int))]) (rest := [.int (zI 1), .int (zI ((2 <<< ec : Nat) : Int))]) ⟨xX, xB, xM, xO, xT⟩ (c_X4_start l D kI kB h b0 b1 b2 b3 b4 b5 b6 cn SO i (by omega)) (cwV 1 xT gX4_columns_X4_start rfl rfl rfl hd_X4_start ⟨Nat.le_of_ble_eq_true rfl, Nat.le_of_ble_eq_true rfl⟩) (g_preV (ci := 4) (q0 := 0) wP wD wK [0, 1] (by decide) rfl rfl rfl) rfl rfl wl.1 rfl (lv_room (Nat.le_of_ble_eq_true rfl)) dX4_columns_10 ⟨Nat.le_of_ble_eq_true rfl, Nat.le_of_ble_eq_true rfl⟩) wP wS (fun H locs wP wS => ?_)
  refine lv_ishl xX xB dX4_columns_13 ?_
  refine lv_ri (y := zI ((1 <<< sc : Nat) : Int)) (by rw [hs]; exact zb_bitk (k := sc) (by omega)) ?_
  refine z_isub xX xB dX4_columns_14 ?_
  refine lv_ri (y := zI ((colN sc ec : Nat) : Int)) (congrArg zI (Int.natCast_sub (shl_le hse)).symm) ?_
  exact g_iret xX xB xR xL wS dX4_columns_15 rfl

set_option maxHeartbeats 4000000 in
set_option maxRecDepth 100000 in
theorem c_X4_runAt (l : Launch) (D : va_G) (kI kB : ClassId) (h : Nat) (b0 : Nat) (b1 : Nat) (b2 : Nat) (b3 : Nat) (b4 : Nat) (b5 : Nat) (b6 : Nat) (cn : Nat) (FI_ : Nat → Int) (CH_ : Nat → Int) (P : Nat → Nat) (r : Nat) (k : Nat) (hr : r < 16) (hk : k < 16) (hFI : FI_ r = ((sR P (16 * r) : Nat) : Int)) (hCH : CH_ r = ((chN P r : Nat) : Int)) : gI l yX4_runAt wsX4_runAt ({ frames := 1, cells := 0, slots := 0, locals := 20 } : Room) D kI kB [.ref h, .int (zI (r : Int)), .int (zI (k : Int))] [(h, .inr (4, [.ref b0, .ref b1, .ref b2, .ref b3, .ref b4, .ref b5, .ref b6, .int (zI (cn : Int))])), (b0, .inl (kI, 17, .inl (aZ FI_))), (b1, .inl (kI, 16, .inl (aZ CH_)))] (zI ((rix P (16 * r + k) : Nat) : Int)) := by
  refine g_start (cc := cX4_runAt) (maxL := 3) (ret := (some .int)) (by decide) rfl (Nat.le_of_ble_eq_true rfl) ?_
  intro xp xe xs xm xbl xmt xc xX xB xR xM xT xO xL xN wP wD wK ls wl
  have wS : va_S (fun _ => False) xs.heap xs.heap [] := va_S.rf
  have wl : lv_has ls 3 [(0, .ref h), (1, .int (zI (r : Int))), (2, .int (zI (k : Int)))] := wl
  refine lv_aload_n xX xB dX4_runAt_0 rfl (lv_at wl 0 rfl) ?_
  refine va_get (D := D) (ci := 4) (v := .ref b0) (C := RX4) (T := TX4) (N := 8) xX xB xT in_X4_runAt_X4 xO wK.1 wP 0 rfl rfl 0 (by decide) (xT _ (List.mem_of_getElem? (i := 1) rfl)) (fun _ h9 => h9) rfl dX4_runAt_1 ?_
  refine lv_iload_n xX xB dX4_runAt_4 rfl (lv_at wl 1 rfl) ?_
  refine z_bipush xX xB dX4_runAt_5 (by decide) ?_
  refine z_m15 xX xB dX4_runAt_7 (by omega) ?_
  refine z_iald xX xB wK wP 1 rfl r rfl (by omega) (Nat.le_of_ble_eq_true rfl) dX4_runAt_8 ?_
  refine lv_ri (y := zI ((sR P (16 * r) : Nat) : Int)) (congrArg zI hFI) ?_
  refine lv_aload_n xX xB dX4_runAt_9 rfl (lv_at wl 0 rfl) ?_
  refine va_get (D := D) (ci := 4) (v := .ref b1) (C := RX4) (T := TX4) (N := 8) xX xB xT in_X4_runAt_X4 xO wK.1 wP 0 rfl rfl 1 (by decide) (xT _ (List.mem_of_getElem? (i := 2) rfl)) (fun _ h9 => h9) rfl dX4_runAt_10 ?_
  refine lv_iload_n xX xB dX4_runAt_13 rfl (lv_at wl 1 rfl) ?_
  refine z_bipush xX xB dX4_runAt_14 (by decide) ?_
  refine z_m15 xX xB dX4_runAt_16 (by omega) ?_
  refine z_iald xX xB wK wP 2 rfl r rfl (by omega) (Nat.le_of_ble_eq_true rfl) dX4_runAt_17 ?_
  refine lv_ri (y := zI ((chN P r : Nat) : Int)) (congrArg zI hCH) ?_
  refine z_iconst xX xB dX4_runAt_18 ?_
  refine lv_iload_n xX xB dX4_runAt_19 rfl (lv_at wl 2 rfl) ?_
  refine lv_ishl xX xB dX4_runAt_20 ?_
  refine lv_ri (y := zI ((2 <<< k : Nat) : Int)) (zb_2shl hk) ?_
  refine z_iconst xX xB dX4_runAt_21 ?_
  refine z_isub xX xB dX4_runAt_22 ?_
  refine lv_ri (y := zI (((2 <<< k) - 1 : Nat) : Int)) (congrArg zI (by have : 1 ≤ 2 <<< k := (shl_le (Nat.zero_le k)); omega)) ?_
  refine lv_iand xX xB dX4_runAt_23 ?_
  refine lv_ri (y := zI (((chN P r) &&& ((2 <<< k) - 1) : Nat) : Int)) (zb_and _ _) ?_
  refine g_pure (va_runS (As := [.int (zI (((chN P r) &&& ((2 <<< k) - 1) : Nat) : Int))]) (rest := [.int (zI ((sR P (16 * r) : Nat) : Int))]) ⟨xX, xB, xM, xO, xT⟩ (c_J6_bitCount_0f7a4 l D kI kB ((chN P r) &&& ((2 <<< k) - 1)) (and_leL (chN_lt P r) _)) (va_cwS 1 xT gX4_runAt_J6_bitCount_0f7a4 rfl rfl rfl hdn_J6_bitCount_0f7a4 ⟨Nat.le_of_ble_eq_true rfl, Nat.le_of_ble_eq_true rfl⟩) (g_preS wP wD wK [] (by decide) rfl) rfl rfl wl.1 rfl (lv_room (Nat.le_of_ble_eq_true rfl)) dX4_runAt_24 ⟨Nat.le_of_ble_eq_true rfl, Nat.le_of_ble_eq_true rfl⟩) wP wS (fun H locs wP wS => ?_)
  refine z_iadd xX xB dX4_runAt_27 ?_
  exact g_iret xX xB xR xL wS dX4_runAt_28 (congrArg (fun z : Nat => zI (z : Int)) (run_at hk))

set_option maxHeartbeats 4000000 in
set_option maxRecDepth 100000 in
theorem c_X4_add (l : Launch) (D : va_G) (kI kB : ClassId) (h : Nat) (b0 : Nat) (b1 : Nat) (b2 : Nat) (b3 : Nat) (b4 : Nat) (b5 : Nat) (b6 : Nat) (cn : Nat) (SO : Nat → Int) (EO : Nat → Int) (RO : Nat → Int) (DA : Nat → Bool) (TW : Nat → Int) (r : Int) (sc : Int) (ec : Int) (bd : Bool) (hc : cn < 256) : gV l yX4_add wsX4_add ({ frames := 0, cells := 0, slots := 0, locals := 0 } : Room) D kI kB [.ref h, .int (zI r), .int (zI sc), .int (zI ec), .int (bI bd)] [(h, .inr (4, [.ref b0, .ref b1, .ref b2, .ref b3, .ref b4, .ref b5, .ref b6, .int (zI (cn : Int))])), (b2, .inl (kI, 256, .inl (aZ SO))), (b3, .inl (kI, 256, .inl (aZ EO))), (b4, .inl (kI, 256, .inl (aZ RO))), (b5, .inl (kB, 256, .inl (aB DA))), (b6, .inl (kI, 256, .inl (aZ TW)))] (fun (_ : Unit) => [(h, .inr (4, [.ref b0, .ref b1, .ref b2, .ref b3, .ref b4, .ref b5, .ref b6, .int (zI ((cn + 1 : Nat) : Int))])), (b2, .inl (kI, 256, .inl (aZ (uZ SO cn sc)))), (b3, .inl (kI, 256, .inl (aZ (uZ EO cn ec)))), (b4, .inl (kI, 256, .inl (aZ (uZ RO cn r)))), (b5, .inl (kB, 256, .inl (aB (uB DA cn bd)))), (b6, .inl (kI, 256, .inl (aZ (uZ TW cn (cn : Int)))))]) (fun (_ : Unit) => True) := by
  refine g_start (cc := cX4_add) (maxL := 6) (ret := none) (by decide) rfl (Nat.le_of_ble_eq_true rfl) ?_
  intro xp xe xs xm xbl xmt xc xX xB xR xM xT xO xL xN wP wD wK ls wl
  have wS : va_S (gA [(h, .inr (4, [.ref b0, .ref b1, .ref b2, .ref b3, .ref b4, .ref b5, .ref b6, .int (zI (cn : Int))])), (b2, .inl (kI, 256, .inl (aZ SO))), (b3, .inl (kI, 256, .inl (aZ EO))), (b4, .inl (kI, 256, .inl (aZ RO))), (b5, .inl (kB, 256, .inl (aB DA))), (b6, .inl (kI, 256, .inl (aZ TW)))]) xs.heap xs.heap [] := va_S.rf
  have wl : lv_has ls 6 [(0, .ref h), (1, .int (zI r)), (2, .int (zI sc)), (3, .int (zI ec)), (4, .int (bI bd))] := wl
  refine lv_aload_n xX xB dX4_add_0 rfl (lv_at wl 0 rfl) ?_
  refine va_get (D := D) (ci := 4) (v := .int (zI (cn : Int))) (C := RX4) (T := TX4) (N := 8) xX xB xT in_X4_add_X4 xO wK.1 wP 0 rfl rfl 7 (by decide) (xT _ (List.mem_of_getElem? (i := 1) rfl)) (fun _ h9 => h9) rfl dX4_add_1 ?_
  refine z_sipush xX xB dX4_add_4 (by decide) ?_
  refine z_m255 xX xB dX4_add_7 (by omega) ?_
  refine lv_istore (lv' := [(5, .int (zI (cn : Int))), (0, .ref h), (1, .int (zI r)), (2, .int (zI sc)), (3, .int (zI ec)), (4, .int (bI bd))]) xX xB dX4_add_8 wl (by decide) rfl (fun ls wl => ?_)
  refine lv_aload_n xX xB dX4_add_10 rfl (lv_at wl 1 rfl) ?_
  refine va_get (D := D) (ci := 4) (v := .ref b4) (C := RX4) (T := TX4) (N := 8) xX xB xT in_X4_add_X4 xO wK.1 wP 0 rfl rfl 4 (by decide) (xT _ (List.mem_of_getElem? (i := 2) rfl)) (fun _ h9 => h9) rfl dX4_add_11 ?_
  refine lv_iload xX xB dX4_add_14 (lv_at wl 0 rfl) ?_
  refine lv_iload_n xX xB dX4_add_16 rfl (lv_at wl 2 rfl) ?_
  refine z_iast xX xB wK wP wD wS 3 rfl cn rfl (by omega) (Nat.le_of_ble_eq_true rfl) dX4_add_17 (fun H locs wP wD wS => ?_)
  have wP : va_P D gC [(h, .inr (4, [.ref b0, .ref b1, .ref b2, .ref b3, .ref b4, .ref b5, .ref b6, .int (zI (cn : Int))])), (b2, .inl (kI, 256, .inl (aZ SO))), (b3, .inl (kI, 256, .inl (aZ EO))), (b4, .inl (kI, 256, .inl (aZ (uZ RO cn r)))), (b5, .inl (kB, 256, .inl (aB DA))), (b6, .inl (kI, 256, .inl (aZ TW)))] H := wP
  have wD : va_D (gA [(h, .inr (4, [.ref b0, .ref b1, .ref b2, .ref b3, .ref b4, .ref b5, .ref b6, .int (zI (cn : Int))])), (b2, .inl (kI, 256, .inl (aZ SO))), (b3, .inl (kI, 256, .inl (aZ EO))), (b4, .inl (kI, 256, .inl (aZ RO))), (b5, .inl (kB, 256, .inl (aB DA))), (b6, .inl (kI, 256, .inl (aZ TW)))]) [(h, .inr (4, [.ref b0, .ref b1, .ref b2, .ref b3, .ref b4, .ref b5, .ref b6, .int (zI (cn : Int))])), (b2, .inl (kI, 256, .inl (aZ SO))), (b3, .inl (kI, 256, .inl (aZ EO))), (b4, .inl (kI, 256, .inl (aZ (uZ RO cn r)))), (b5, .inl (kB, 256, .inl (aB DA))), (b6, .inl (kI, 256, .inl (aZ TW)))] := wD
  refine lv_aload_n xX xB dX4_add_18 rfl (lv_at wl 1 rfl) ?_
  refine va_get (D := D) (ci := 4) (v := .ref b2) (C := RX4) (T := TX4) (N := 8) xX xB xT in_X4_add_X4 xO wK.1 wP 0 rfl rfl 2 (by decide) (xT _ (List.mem_of_getElem? (i := 3) rfl)) (fun _ h9 => h9) rfl dX4_add_19 ?_
  refine lv_iload xX xB dX4_add_22 (lv_at wl 0 rfl) ?_
  refine lv_iload_n xX xB dX4_add_24 rfl (lv_at wl 3 rfl) ?_
  refine z_iast xX xB wK wP wD wS 1 rfl cn rfl (by omega) (Nat.le_of_ble_eq_true rfl) dX4_add_25 (fun H locs wP wD wS => ?_)
  have wP : va_P D gC [(h, .inr (4, [.ref b0, .ref b1, .ref b2, .ref b3, .ref b4, .ref b5, .ref b6, .int (zI (cn : Int))])), (b2, .inl (kI, 256, .inl (aZ (uZ SO cn sc)))), (b3, .inl (kI, 256, .inl (aZ EO))), (b4, .inl (kI, 256, .inl (aZ (uZ RO cn r)))), (b5, .inl (kB, 256, .inl (aB DA))), (b6, .inl (kI, 256, .inl (aZ TW)))] H := wP
  have wD : va_D (gA [(h, .inr (4, [.ref b0, .ref b1, .ref b2, .ref b3, .ref b4, .ref b5, .ref b6, .int (zI (cn : Int))])), (b2, .inl (kI, 256, .inl (aZ SO))), (b3, .inl (kI, 256, .inl (aZ EO))), (b4, .inl (kI, 256, .inl (aZ RO))), (b5, .inl (kB, 256, .inl (aB DA))), (b6, .inl (kI, 256, .inl (aZ TW)))]) [(h, .inr (4, [.ref b0, .ref b1, .ref b2, .ref b3, .ref b4, .ref b5, .ref b6, .int (zI (cn : Int))])), (b2, .inl (kI, 256, .inl (aZ (uZ SO cn sc)))), (b3, .inl (kI, 256, .inl (aZ EO))), (b4, .inl (kI, 256, .inl (aZ (uZ RO cn r)))), (b5, .inl (kB, 256, .inl (aB DA))), (b6, .inl (kI, 256, .inl (aZ TW)))] := wD
  refine lv_aload_n xX xB dX4_add_26 rfl (lv_at wl 1 rfl) ?_
  refine va_get (D := D) (ci := 4) (v := .ref b3) (C := RX4) (T := TX4) (N := 8) xX xB xT in_X4_add_X4 xO wK.1 wP 0 rfl rfl 3 (by decide) (xT _ (List.mem_of_getElem? (i := 4) rfl)) (fun _ h9 => h9) rfl dX4_add_27 ?_
  refine lv_iload xX xB dX4_add_30 (lv_at wl 0 rfl) ?_
  refine lv_iload_n xX xB dX4_add_32 rfl (lv_at wl 4 rfl) ?_
  refine z_iast xX xB wK wP wD wS 2 rfl cn rfl (by omega) (Nat.le_of_ble_eq_true rfl) dX4_add_33 (fun H locs wP wD wS => ?_)
  have wP : va_P D gC [(h, .inr (4, [.ref b0, .ref b1, .ref b2, .ref b3, .ref b4, .ref b5, .ref b6, .int (zI (cn : Int))])), (b2, .inl (kI, 256, .inl (aZ (uZ SO cn sc)))), (b3, .inl (kI, 256, .inl (aZ (uZ EO cn ec)))), (b4, .inl (kI, 256, .inl (aZ (uZ RO cn r)))), (b5, .inl (kB, 256, .inl (aB DA))), (b6, .inl (kI, 256, .inl (aZ TW)))] H := wP
  have wD : va_D (gA [(h, .inr (4, [.ref b0, .ref b1, .ref b2, .ref b3, .ref b4, .ref b5, .ref b6, .int (zI (cn : Int))])), (b2, .inl (kI, 256, .inl (aZ SO))), (b3, .inl (kI, 256, .inl (aZ EO))), (b4, .inl (kI, 256, .inl (aZ RO))), (b5, .inl (kB, 256, .inl (aB DA))), (b6, .inl (kI, 256, .inl (aZ TW)))]) [(h, .inr (4, [.ref b0, .ref b1, .ref b2, .ref b3, .ref b4, .ref b5, .ref b6, .int (zI (cn : Int))])), (b2, .inl (kI, 256, .inl (aZ (uZ SO cn sc)))), (b3, .inl (kI, 256, .inl (aZ (uZ EO cn ec)))), (b4, .inl (kI, 256, .inl (aZ (uZ RO cn r)))), (b5, .inl (kB, 256, .inl (aB DA))), (b6, .inl (kI, 256, .inl (aZ TW)))] := wD
  refine lv_aload_n xX xB dX4_add_34 rfl (lv_at wl 1 rfl) ?_
  refine va_get (D := D) (ci := 4) (v := .ref b5) (C := RX4) (T := TX4) (N := 8) xX xB xT in_X4_add_X4 xO wK.1 wP 0 rfl rfl 5 (by decide) (xT _ (List.mem_of_getElem? (i := 5) rfl)) (fun _ h9 => h9) rfl dX4_add_35 ?_
  refine lv_iload xX xB dX4_add_38 (lv_at wl 0 rfl) ?_
  refine lv_iload xX xB dX4_add_40 (lv_at wl 5 rfl) ?_
  refine z_bast xX xB wK wP wD wS 4 rfl cn rfl (by omega) (Nat.le_of_ble_eq_true rfl) dX4_add_42 (fun H locs wP wD wS => ?_)
  have wP : va_P D gC [(h, .inr (4, [.ref b0, .ref b1, .ref b2, .ref b3, .ref b4, .ref b5, .ref b6, .int (zI (cn : Int))])), (b2, .inl (kI, 256, .inl (aZ (uZ SO cn sc)))), (b3, .inl (kI, 256, .inl (aZ (uZ EO cn ec)))), (b4, .inl (kI, 256, .inl (aZ (uZ RO cn r)))), (b5, .inl (kB, 256, .inl (aB (uB DA cn bd)))), (b6, .inl (kI, 256, .inl (aZ TW)))] H := wP
  have wD : va_D (gA [(h, .inr (4, [.ref b0, .ref b1, .ref b2, .ref b3, .ref b4, .ref b5, .ref b6, .int (zI (cn : Int))])), (b2, .inl (kI, 256, .inl (aZ SO))), (b3, .inl (kI, 256, .inl (aZ EO))), (b4, .inl (kI, 256, .inl (aZ RO))), (b5, .inl (kB, 256, .inl (aB DA))), (b6, .inl (kI, 256, .inl (aZ TW)))]) [(h, .inr (4, [.ref b0, .ref b1, .ref b2, .ref b3, .ref b4, .ref b5, .ref b6, .int (zI (cn : Int))])), (b2, .inl (kI, 256, .inl (aZ (uZ SO cn sc)))), (b3, .inl (kI, 256, .inl (aZ (uZ EO cn ec)))), (b4, .inl (kI, 256, .inl (aZ (uZ RO cn r)))), (b5, .inl (kB, 256, .inl (aB (uB DA cn bd)))), (b6, .inl (kI, 256, .inl (aZ TW)))] := wD
  refine lv_aload_n xX xB dX4_add_43 rfl (lv_at wl 1 rfl) ?_
  refine va_get (D := D) (ci := 4) (v := .ref b6) (C := RX4) (T := TX4) (N := 8) xX xB xT in_X4_add_X4 xO wK.1 wP 0 rfl rfl 6 (by decide) (xT _ (List.mem_of_getElem? (i := 6) rfl)) (fun _ h9 => h9) rfl dX4_add_44 ?_
  refine lv_iload xX xB dX4_add_47 (lv_at wl 0 rfl) ?_
  refine lv_iload xX xB dX4_add_49 (lv_at wl 0 rfl) ?_
  refine z_iast xX xB wK wP wD wS 5 rfl cn rfl (by omega) (Nat.le_of_ble_eq_true rfl) dX4_add_51 (fun H locs wP wD wS => ?_)
  have wP : va_P D gC [(h, .inr (4, [.ref b0, .ref b1, .ref b2, .ref b3, .ref b4, .ref b5, .ref b6, .int (zI (cn : Int))])), (b2, .inl (kI, 256, .inl (aZ (uZ SO cn sc)))), (b3, .inl (kI, 256, .inl (aZ (uZ EO cn ec)))), (b4, .inl (kI, 256, .inl (aZ (uZ RO cn r)))), (b5, .inl (kB, 256, .inl (aB (uB DA cn bd)))), (b6, .inl (kI, 256, .inl (aZ (uZ TW cn (cn : Int)))))] H := wP
  have wD : va_D (gA [(h, .inr (4, [.ref b0, .ref b1, .ref b2, .ref b3, .ref b4, .ref b5, .ref b6, .int (zI (cn : Int))])), (b2, .inl (kI, 256, .inl (aZ SO))), (b3, .inl (kI, 256, .inl (aZ EO))), (b4, .inl (kI, 256, .inl (aZ RO))), (b5, .inl (kB, 256, .inl (aB DA))), (b6, .inl (kI, 256, .inl (aZ TW)))]) [(h, .inr (4, [.ref b0, .ref b1, .ref b2, .ref b3, .ref b4, .ref b5, .ref b6, .int (zI (cn : Int))])), (b2, .inl (kI, 256, .inl (aZ (uZ SO cn sc)))), (b3, .inl (kI, 256, .inl (aZ (uZ EO cn ec)))), (b4, .inl (kI, 256, .inl (aZ (uZ RO cn r)))), (b5, .inl (kB, 256, .inl (aB (uB DA cn bd)))), (b6, .inl (kI, 256, .inl (aZ (uZ TW cn (cn : Int)))))] := wD
  refine lv_aload_n xX xB dX4_add_52 rfl (lv_at wl 1 rfl) ?_
  refine lv_dup xX xB dX4_add_53 rfl ?_
  refine va_get (D := D) (ci := 4) (v := .int (zI (cn : Int))) (C := RX4) (T := TX4) (N := 8) xX xB xT in_X4_add_X4 xO wK.1 wP 0 rfl rfl 7 (by decide) (xT _ (List.mem_of_getElem? (i := 1) rfl)) (fun _ h9 => h9) rfl dX4_add_54 ?_
  refine z_iconst xX xB dX4_add_57 ?_
  refine z_iadd xX xB dX4_add_58 ?_
  refine va_put (D := D) (ci := 4) (v := .int (zI ((cn : Int) + 1))) (ty := .int) (C := RX4) (T := TX4) (N := 8) xX xB xT in_X4_add_X4 tyX4 tyX4_ok nmX4 xO wK.1 wP wD wS 0 rfl rfl 7 (by decide) (xT _ (List.mem_of_getElem? (i := 1) rfl)) (fun _ h9 => h9) rfl (by decide +kernel) rfl rfl (Nat.le_of_ble_eq_true rfl) dX4_add_59 (fun H locs wP wD wS => ?_)
  have wP : va_P D gC [(h, .inr (4, [.ref b0, .ref b1, .ref b2, .ref b3, .ref b4, .ref b5, .ref b6, .int (zI ((cn : Int) + 1))])), (b2, .inl (kI, 256, .inl (aZ (uZ SO cn sc)))), (b3, .inl (kI, 256, .inl (aZ (uZ EO cn ec)))), (b4, .inl (kI, 256, .inl (aZ (uZ RO cn r)))), (b5, .inl (kB, 256, .inl (aB (uB DA cn bd)))), (b6, .inl (kI, 256, .inl (aZ (uZ TW cn (cn : Int)))))] H := wP
  have wD : va_D (gA [(h, .inr (4, [.ref b0, .ref b1, .ref b2, .ref b3, .ref b4, .ref b5, .ref b6, .int (zI (cn : Int))])), (b2, .inl (kI, 256, .inl (aZ SO))), (b3, .inl (kI, 256, .inl (aZ EO))), (b4, .inl (kI, 256, .inl (aZ RO))), (b5, .inl (kB, 256, .inl (aB DA))), (b6, .inl (kI, 256, .inl (aZ TW)))]) [(h, .inr (4, [.ref b0, .ref b1, .ref b2, .ref b3, .ref b4, .ref b5, .ref b6, .int (zI ((cn : Int) + 1))])), (b2, .inl (kI, 256, .inl (aZ (uZ SO cn sc)))), (b3, .inl (kI, 256, .inl (aZ (uZ EO cn ec)))), (b4, .inl (kI, 256, .inl (aZ (uZ RO cn r)))), (b5, .inl (kB, 256, .inl (aB (uB DA cn bd)))), (b6, .inl (kI, 256, .inl (aZ (uZ TW cn (cn : Int)))))] := wD
  exact g_vret () xX xB xR xL wP wS dX4_add_62 trivial

set_option maxHeartbeats 4000000 in
set_option maxRecDepth 100000 in
theorem c_X4_cut (l : Launch) (D : va_G) (kI kB : ClassId) (h : Nat) (b0 : Nat) (b1 : Nat) (b2 : Nat) (b3 : Nat) (b4 : Nat) (b5 : Nat) (b6 : Nat) (SO : Nat → Int) (EO : Nat → Int) (RO : Nat → Int) (DA : Nat → Bool) (TW : Nat → Int) (P : Nat → Nat) (r : Nat) (hr : r < 16) (hP : P r < 65536) (hR : RecI P (sR P (16 * r)) SO EO RO DA) (hT : ∀ j, j < sR P (16 * r) → TW j = (j : Int)) : gV l yX4_cut wsX4_cut ({ frames := 1, cells := 0, slots := 0, locals := 25 } : Room) D kI kB [.ref h, .int (zI (r : Int)), .int (zI ((P r : Nat) : Int))] [(h, .inr (4, [.ref b0, .ref b1, .ref b2, .ref b3, .ref b4, .ref b5, .ref b6, .int (zI ((sR P (16 * r) : Nat) : Int))])), (b2, .inl (kI, 256, .inl (aZ SO))), (b3, .inl (kI, 256, .inl (aZ EO))), (b4, .inl (kI, 256, .inl (aZ RO))), (b5, .inl (kB, 256, .inl (aB DA))), (b6, .inl (kI, 256, .inl (aZ TW)))] (fun (w_ : (Nat → Int) × (Nat → Int) × (Nat → Int) × (Nat → Bool) × (Nat → Int)) => [(h, .inr (4, [.ref b0, .ref b1, .ref b2, .ref b3, .ref b4, .ref b5, .ref b6, .int (zI ((sR P (16 * (r + 1)) : Nat) : Int))])), (b2, .inl (kI, 256, .inl (aZ (w_.1)))), (b3, .inl (kI, 256, .inl (aZ (w_.2.1)))), (b4, .inl (kI, 256, .inl (aZ (w_.2.2.1)))), (b5, .inl (kB, 256, .inl (aB (w_.2.2.2.1)))), (b6, .inl (kI, 256, .inl (aZ (w_.2.2.2.2))))]) (fun (w_ : (Nat → Int) × (Nat → Int) × (Nat → Int) × (Nat → Bool) × (Nat → Int)) => RecI P (sR P (16 * (r + 1))) (w_.1) (w_.2.1) (w_.2.2.1) (w_.2.2.2.1) ∧ (∀ j, j < sR P (16 * (r + 1)) → (w_.2.2.2.2) j = (j : Int))) := by
  refine g_start (cc := cX4_cut) (maxL := 5) (ret := none) (by decide) rfl (Nat.le_of_ble_eq_true rfl) ?_
  intro xp xe xs xm xbl xmt xc xX xB xR xM xT xO xL xN wP wD wK ls wl
  have wS : va_S (gA [(h, .inr (4, [.ref b0, .ref b1, .ref b2, .ref b3, .ref b4, .ref b5, .ref b6, .int (zI ((sR P (16 * r) : Nat) : Int))])), (b2, .inl (kI, 256, .inl (aZ SO))), (b3, .inl (kI, 256, .inl (aZ EO))), (b4, .inl (kI, 256, .inl (aZ RO))), (b5, .inl (kB, 256, .inl (aB DA))), (b6, .inl (kI, 256, .inl (aZ TW)))]) xs.heap xs.heap [] := va_S.rf
  have wl : lv_has ls 5 [(0, .ref h), (1, .int (zI (r : Int))), (2, .int (zI ((P r : Nat) : Int)))] := wl
  generalize hQ : MQ xbl _ _ xs 0 0 _ = xQ
  refine z_iconst xX xB dX4_cut_0 ?_
  refine lv_istore_n (lv' := [(3, .int (zI 0)), (0, .ref h), (1, .int (zI (r : Int))), (2, .int (zI ((P r : Nat) : Int)))]) xX xB dX4_cut_1 rfl wl (by decide) rfl (fun ls wl => ?_)
  refine z_iconst xX xB dX4_cut_2 ?_
  refine lv_istore (lv' := [(4, .int (zI 1)), (3, .int (zI 0)), (0, .ref h), (1, .int (zI (r : Int))), (2, .int (zI ((P r : Nat) : Int)))]) xX xB dX4_cut_3 wl (by decide) rfl (fun ls wl => ?_)
  have K : ∀ n_ : Nat, ∀ (sc : Nat) (k : Nat) (cn : Nat) (SO1 : Nat → Int) (EO1 : Nat → Int) (RO1 : Nat → Int) (DA1 : Nat → Bool) (TW1 : Nat → Int), 17 - k < n_ → (k ≤ 17) → (CutI P r sc k) → (sc < k) → (cn = sR P (16 * r + sc)) → (RecI P cn SO1 EO1 RO1 DA1) → (∀ j, j < cn → TW1 j = (j : Int)) → ∀ (H : Heap) (locs : List Loc) (ls : Array Slot), va_P D gC [(h, .inr (4, [.ref b0, .ref b1, .ref b2, .ref b3, .ref b4, .ref b5, .ref b6, .int (zI (cn : Int))])), (b2, .inl (kI, 256, .inl (aZ SO1))), (b3, .inl (kI, 256, .inl (aZ EO1))), (b4, .inl (kI, 256, .inl (aZ RO1))), (b5, .inl (kB, 256, .inl (aB DA1))), (b6, .inl (kI, 256, .inl (aZ TW1)))] H → va_D (gA [(h, .inr (4, [.ref b0, .ref b1, .ref b2, .ref b3, .ref b4, .ref b5, .ref b6, .int (zI ((sR P (16 * r) : Nat) : Int))])), (b2, .inl (kI, 256, .inl (aZ SO))), (b3, .inl (kI, 256, .inl (aZ EO))), (b4, .inl (kI, 256, .inl (aZ RO))), (b5, .inl (kB, 256, .inl (aB DA))), (b6, .inl (kI, 256, .inl (aZ TW)))]) [(h, .inr (4, [.ref b0, .ref b1, .ref b2, .ref b3, .ref b4, .ref b5, .ref b6, .int (zI (cn : Int))])), (b2, .inl (kI, 256, .inl (aZ SO1))), (b3, .inl (kI, 256, .inl (aZ EO1))), (b4, .inl (kI, 256, .inl (aZ RO1))), (b5, .inl (kB, 256, .inl (aB DA1))), (b6, .inl (kI, 256, .inl (aZ TW1)))] → va_S (gA [(h, .inr (4, [.ref b0, .ref b1, .ref b2, .ref b3, .ref b4, .ref b5, .ref b6, .int (zI ((sR P (16 * r) : Nat) : Int))])), (b2, .inl (kI, 256, .inl (aZ SO))), (b3, .inl (kI, 256, .inl (aZ EO))), (b4, .inl (kI, 256, .inl (aZ RO))), (b5, .inl (kB, 256, .inl (aB DA))), (b6, .inl (kI, 256, .inl (aZ TW)))]) xs.heap H locs → lv_has ls 5 [(0, .ref h), (1, .int (zI (r : Int))), (2, .int (zI ((P r : Nat) : Int))), (3, .int (zI (sc : Int))), (4, .int (zI (k : Int)))] → W xp l xe ({ frames := 1, cells := 0, slots := 0, locals := 25 } : Room) xs xm (List.toArray [.ref h, .int (zI (r : Int)), .int (zI ((P r : Nat) : Int))]) xbl xmt xc H locs 0 0 xQ (F0 xm 5 ls []) := by
    intro n_
    induction n_ with
    | zero =>
      intro sc k cn SO1 EO1 RO1 DA1 TW1 hme
      exact absurd hme (Nat.not_lt_zero _)
    | succ n_ ihK =>
      intro sc k cn SO1 EO1 RO1 DA1 TW1 hme hk hC hsk hcn hR1 hT1 H locs ls wP wD wS wl
      refine lv_iload xX xB dX4_cut_5 (lv_at wl 4 rfl) ?_
      refine z_bipush xX xB dX4_cut_7 (by decide) ?_
      refine z_icmp_gt (tgt := 66) xX xB dX4_cut_9 (by decide) (by omega) (by omega) (fun h9 => ?_) (fun h9 => ?_)
      · skip
        have e17 : 17 = k := by omega
        subst e17
        have es : 16 = sc := by have z1 := hC.1; have z2 := hC.2.2; by_cases q : sc < 16; exact absurd ((z1 q).2 16 q (by omega)) (by rw [stt_row (by omega)]; decide); omega
        subst es
        rw [show 16 * r + 16 = 16 * (r + 1) by omega] at hcn
        subst hcn
        subst hQ
        exact g_vret (SO1, EO1, RO1, DA1, TW1) xX xB xR xL wP wS dX4_cut_66 ⟨hR1, hT1⟩
      · skip
        refine lv_iload xX xB dX4_cut_12 (lv_at wl 4 rfl) ?_
        refine z_bipush xX xB dX4_cut_14 (by decide) ?_
        refine z_icmp_eq (tgt := 33) xX xB dX4_cut_16 (by decide) (by omega) (by omega) (fun h16 => ?_) (fun h16 => ?_)
        · skip
          have hk16 : sc < 16 := by have := hC.2.1; omega
          have hE := hC.end (by omega) hr (Or.inl (by omega))
          have hlt : cn < sR P 256 := by rw [hcn]; exact sR_lt (by omega) (hC.1 hk16).1
          have h256 := sR_le (P := P) 256
          refine lv_aload_n xX xB dX4_cut_33 rfl (lv_at wl 0 rfl) ?_
          refine lv_iload_n xX xB dX4_cut_34 rfl (lv_at wl 1 rfl) ?_
          refine lv_iload_n xX xB dX4_cut_35 rfl (lv_at wl 3 rfl) ?_
          refine lv_iload xX xB dX4_cut_36 (lv_at wl 4 rfl) ?_
          refine z_iconst xX xB dX4_cut_38 ?_
          refine z_isub xX xB dX4_cut_39 ?_
          refine lv_iload_n xX xB dX4_cut_40 rfl (lv_at wl 2 rfl) ?_
          refine lv_iload_n xX xB dX4_cut_41 rfl (lv_at wl 3 rfl) ?_
          refine lv_ishr xX xB dX4_cut_42 ?_
          refine lv_ri (y := zI ((P r >>> sc : Nat) : Int)) (zb_shr (by omega) (by omega)) ?_
          refine z_iconst xX xB dX4_cut_43 ?_
          refine lv_iand xX xB dX4_cut_44 ?_
          refine lv_ri (y := bI (dk P (16 * r + sc))) ((zb_and _ 1).trans (by rw [zb_bit, ← dk_row (P := P) (r := r) (show sc < 16 by omega)]; unfold bI; cases dk P (16 * r + sc) <;> rfl)) ?_
          refine z_iconst xX xB dX4_cut_45 ?_
          refine b_icmp_ne1 (tgt := 53) xX xB dX4_cut_46 (by decide) (fun h46 => ?_) (fun h46 => ?_)
          · skip
            refine z_iconst xX xB dX4_cut_53 ?_
            refine g_modv (va_runV (As := [.int (zI (r : Int)), .int (zI (sc : Int)), .int (zI ((k : Int) - 1)), .int (zI 0)]) (rest := []) ⟨xX, xB, xM, xO, xT⟩ (c_X4_add l D kI kB h b0 b1 b2 b3 b4 b5 b6 cn SO1 EO1 RO1 DA1 TW1 (r : Int) (sc : Int) ((k : Int) - 1) false (by omega)) (cwV 4 xT gX4_cut_X4_add rfl rfl rfl hd_X4_add ⟨Nat.le_of_ble_eq_true rfl, Nat.le_of_ble_eq_true rfl⟩) (g_preV (ci := 4) (q0 := 0) wP wD wK [0, 1, 2, 3, 4, 5] (by decide) rfl rfl rfl) rfl rfl wl.1 rfl (lv_room (Nat.le_of_ble_eq_true rfl)) dX4_cut_54 ⟨Nat.le_of_ble_eq_true rfl, Nat.le_of_ble_eq_true rfl⟩) wP wD wS [0, 1, 2, 3, 4, 5] rfl (fun _ => rfl) (fun u_ H locs hc54 wP wD wS => ?_)
            try dsimp only at hc54
            have wP : va_P D gC [(h, .inr (4, [.ref b0, .ref b1, .ref b2, .ref b3, .ref b4, .ref b5, .ref b6, .int (zI ((cn + 1 : Nat) : Int))])), (b2, .inl (kI, 256, .inl (aZ (uZ SO1 cn (sc : Int))))), (b3, .inl (kI, 256, .inl (aZ (uZ EO1 cn ((k : Int) - 1))))), (b4, .inl (kI, 256, .inl (aZ (uZ RO1 cn (r : Int))))), (b5, .inl (kB, 256, .inl (aB (uB DA1 cn false)))), (b6, .inl (kI, 256, .inl (aZ (uZ TW1 cn (cn : Int)))))] H := wP
            have wD : va_D (gA [(h, .inr (4, [.ref b0, .ref b1, .ref b2, .ref b3, .ref b4, .ref b5, .ref b6, .int (zI ((sR P (16 * r) : Nat) : Int))])), (b2, .inl (kI, 256, .inl (aZ SO))), (b3, .inl (kI, 256, .inl (aZ EO))), (b4, .inl (kI, 256, .inl (aZ RO))), (b5, .inl (kB, 256, .inl (aB DA))), (b6, .inl (kI, 256, .inl (aZ TW)))]) [(h, .inr (4, [.ref b0, .ref b1, .ref b2, .ref b3, .ref b4, .ref b5, .ref b6, .int (zI ((cn + 1 : Nat) : Int))])), (b2, .inl (kI, 256, .inl (aZ (uZ SO1 cn (sc : Int))))), (b3, .inl (kI, 256, .inl (aZ (uZ EO1 cn ((k : Int) - 1))))), (b4, .inl (kI, 256, .inl (aZ (uZ RO1 cn (r : Int))))), (b5, .inl (kB, 256, .inl (aB (uB DA1 cn false)))), (b6, .inl (kI, 256, .inl (aZ (uZ TW1 cn (cn : Int)))))] := wD
            refine lv_iload xX xB dX4_cut_57 (lv_at wl 4 rfl) ?_
            refine lv_istore_n (lv' := [(3, .int (zI (k : Int))), (0, .ref h), (1, .int (zI (r : Int))), (2, .int (zI ((P r : Nat) : Int))), (4, .int (zI (k : Int)))]) xX xB dX4_cut_59 rfl wl (by decide) rfl (fun ls wl => ?_)
            refine lv_iinc (v := zI ((k : Int) + 1)) (lv' := [(4, .int (zI ((k : Int) + 1))), (3, .int (zI (k : Int))), (0, .ref h), (1, .int (zI (r : Int))), (2, .int (zI ((P r : Nat) : Int)))]) xX xB dX4_cut_60 wl (k := 4) rfl (zI_add _ _) (by decide) rfl (fun ls wl => ?_)
            refine lv_goto (tgt := 5) xX xB dX4_cut_63 (by decide) ?_
            exact ihK k (k + 1) (cn + 1) (uZ SO1 cn (sc : Int)) (uZ EO1 cn ((k : Int) - 1)) (uZ RO1 cn (r : Int)) (uB DA1 cn false) (uZ TW1 cn (cn : Int)) (by omega) (by omega) hE.1 (by omega) (by rw [hE.2.2.2, hcn]) (hR1.add (by rw [hcn, hE.2.1]; omega) (by rw [hcn, hE.2.2.1]; omega) (by rw [hcn, hE.2.1]; omega) (by rw [hcn, hE.2.1, h46])) (lt_s (fun j hj => by rw [uZ_n _ _ (by omega)]; exact hT1 j hj) (uZ_s _ _ _)) _ _ _ wP wD wS (lv_sub wl [2, 3, 4, 1, 0] rfl)
          · skip
            refine z_iconst xX xB dX4_cut_49 ?_
            refine lv_goto (tgt := 54) xX xB dX4_cut_50 (by decide) ?_
            refine g_modv (va_runV (As := [.int (zI (r : Int)), .int (zI (sc : Int)), .int (zI ((k : Int) - 1)), .int (zI 1)]) (rest := []) ⟨xX, xB, xM, xO, xT⟩ (c_X4_add l D kI kB h b0 b1 b2 b3 b4 b5 b6 cn SO1 EO1 RO1 DA1 TW1 (r : Int) (sc : Int) ((k : Int) - 1) true (by omega)) (cwV 4 xT gX4_cut_X4_add rfl rfl rfl hd_X4_add ⟨Nat.le_of_ble_eq_true rfl, Nat.le_of_ble_eq_true rfl⟩) (g_preV (ci := 4) (q0 := 0) wP wD wK [0, 1, 2, 3, 4, 5] (by decide) rfl rfl rfl) rfl rfl wl.1 rfl (lv_room (Nat.le_of_ble_eq_true rfl)) dX4_cut_54 ⟨Nat.le_of_ble_eq_true rfl, Nat.le_of_ble_eq_true rfl⟩) wP wD wS [0, 1, 2, 3, 4, 5] rfl (fun _ => rfl) (fun u_ H locs hc54 wP wD wS => ?_)
            try dsimp only at hc54
            have wP : va_P D gC [(h, .inr (4, [.ref b0, .ref b1, .ref b2, .ref b3, .ref b4, .ref b5, .ref b6, .int (zI ((cn + 1 : Nat) : Int))])), (b2, .inl (kI, 256, .inl (aZ (uZ SO1 cn (sc : Int))))), (b3, .inl (kI, 256, .inl (aZ (uZ EO1 cn ((k : Int) - 1))))), (b4, .inl (kI, 256, .inl (aZ (uZ RO1 cn (r : Int))))), (b5, .inl (kB, 256, .inl (aB (uB DA1 cn true)))), (b6, .inl (kI, 256, .inl (aZ (uZ TW1 cn (cn : Int)))))] H := wP
            have wD : va_D (gA [(h, .inr (4, [.ref b0, .ref b1, .ref b2, .ref b3, .ref b4, .ref b5, .ref b6, .int (zI ((sR P (16 * r) : Nat) : Int))])), (b2, .inl (kI, 256, .inl (aZ SO))), (b3, .inl (kI, 256, .inl (aZ EO))), (b4, .inl (kI, 256, .inl (aZ RO))), (b5, .inl (kB, 256, .inl (aB DA))), (b6, .inl (kI, 256, .inl (aZ TW)))]) [(h, .inr (4, [.ref b0, .ref b1, .ref b2, .ref b3, .ref b4, .ref b5, .ref b6, .int (zI ((cn + 1 : Nat) : Int))])), (b2, .inl (kI, 256, .inl (aZ (uZ SO1 cn (sc : Int))))), (b3, .inl (kI, 256, .inl (aZ (uZ EO1 cn ((k : Int) - 1))))), (b4, .inl (kI, 256, .inl (aZ (uZ RO1 cn (r : Int))))), (b5, .inl (kB, 256, .inl (aB (uB DA1 cn true)))), (b6, .inl (kI, 256, .inl (aZ (uZ TW1 cn (cn : Int)))))] := wD
            refine lv_iload xX xB dX4_cut_57 (lv_at wl 4 rfl) ?_
            refine lv_istore_n (lv' := [(3, .int (zI (k : Int))), (0, .ref h), (1, .int (zI (r : Int))), (2, .int (zI ((P r : Nat) : Int))), (4, .int (zI (k : Int)))]) xX xB dX4_cut_59 rfl wl (by decide) rfl (fun ls wl => ?_)
            refine lv_iinc (v := zI ((k : Int) + 1)) (lv' := [(4, .int (zI ((k : Int) + 1))), (3, .int (zI (k : Int))), (0, .ref h), (1, .int (zI (r : Int))), (2, .int (zI ((P r : Nat) : Int)))]) xX xB dX4_cut_60 wl (k := 4) rfl (zI_add _ _) (by decide) rfl (fun ls wl => ?_)
            refine lv_goto (tgt := 5) xX xB dX4_cut_63 (by decide) ?_
            exact ihK k (k + 1) (cn + 1) (uZ SO1 cn (sc : Int)) (uZ EO1 cn ((k : Int) - 1)) (uZ RO1 cn (r : Int)) (uB DA1 cn true) (uZ TW1 cn (cn : Int)) (by omega) (by omega) hE.1 (by omega) (by rw [hE.2.2.2, hcn]) (hR1.add (by rw [hcn, hE.2.1]; omega) (by rw [hcn, hE.2.2.1]; omega) (by rw [hcn, hE.2.1]; omega) (by rw [hcn, hE.2.1, h46])) (lt_s (fun j hj => by rw [uZ_n _ _ (by omega)]; exact hT1 j hj) (uZ_s _ _ _)) _ _ _ wP wD wS (lv_sub wl [2, 3, 4, 1, 0] rfl)
        · skip
          have hk16 : sc < 16 := by have := hC.2.1; omega
          refine lv_iload_n xX xB dX4_cut_19 rfl (lv_at wl 2 rfl) ?_
          refine lv_iload xX xB dX4_cut_20 (lv_at wl 4 rfl) ?_
          refine lv_ishr xX xB dX4_cut_22 ?_
          refine lv_ri (y := zI ((P r >>> k : Nat) : Int)) (zb_shr (by omega) (by omega)) ?_
          refine z_iconst xX xB dX4_cut_23 ?_
          refine lv_iand xX xB dX4_cut_24 ?_
          refine lv_ri (y := bI (dk P (16 * r + k))) ((zb_and _ 1).trans (by rw [zb_bit, ← dk_row (P := P) (r := r) (show k < 16 by omega)]; unfold bI; cases dk P (16 * r + k) <;> rfl)) ?_
          refine lv_iload_n xX xB dX4_cut_25 rfl (lv_at wl 2 rfl) ?_
          refine lv_iload_n xX xB dX4_cut_26 rfl (lv_at wl 3 rfl) ?_
          refine lv_ishr xX xB dX4_cut_27 ?_
          refine lv_ri (y := zI ((P r >>> sc : Nat) : Int)) (zb_shr (by omega) (by omega)) ?_
          refine z_iconst xX xB dX4_cut_28 ?_
          refine lv_iand xX xB dX4_cut_29 ?_
          refine lv_ri (y := bI (dk P (16 * r + sc))) ((zb_and _ 1).trans (by rw [zb_bit, ← dk_row (P := P) (r := r) (show sc < 16 by omega)]; unfold bI; cases dk P (16 * r + sc) <;> rfl)) ?_
          refine b_icmp_eq (tgt := 60) xX xB dX4_cut_30 (by decide) (fun h30 => ?_) (fun h30 => ?_)
          · skip
            refine lv_iinc (v := zI ((k : Int) + 1)) (lv' := [(4, .int (zI ((k : Int) + 1))), (0, .ref h), (1, .int (zI (r : Int))), (2, .int (zI ((P r : Nat) : Int))), (3, .int (zI (sc : Int)))]) xX xB dX4_cut_60 wl (k := 4) rfl (zI_add _ _) (by decide) rfl (fun ls wl => ?_)
            refine lv_goto (tgt := 5) xX xB dX4_cut_63 (by decide) ?_
            exact ihK sc (k + 1) cn SO1 EO1 RO1 DA1 TW1 (by omega) (by omega) (hC.same (by omega) (by omega) h30) (by omega) hcn hR1 hT1 _ _ _ wP wD wS (lv_sub wl [1, 2, 3, 4, 0] rfl)
          · skip
            have hk16 : sc < 16 := by have := hC.2.1; omega
            have hE := hC.end (by omega) hr (Or.inr ⟨by omega, h30⟩)
            have hlt : cn < sR P 256 := by rw [hcn]; exact sR_lt (by omega) (hC.1 hk16).1
            have h256 := sR_le (P := P) 256
            refine lv_aload_n xX xB dX4_cut_33 rfl (lv_at wl 0 rfl) ?_
            refine lv_iload_n xX xB dX4_cut_34 rfl (lv_at wl 1 rfl) ?_
            refine lv_iload_n xX xB dX4_cut_35 rfl (lv_at wl 3 rfl) ?_
            refine lv_iload xX xB dX4_cut_36 (lv_at wl 4 rfl) ?_
            refine z_iconst xX xB dX4_cut_38 ?_
            refine z_isub xX xB dX4_cut_39 ?_
            refine lv_iload_n xX xB dX4_cut_40 rfl (lv_at wl 2 rfl) ?_
            refine lv_iload_n xX xB dX4_cut_41 rfl (lv_at wl 3 rfl) ?_
            refine lv_ishr xX xB dX4_cut_42 ?_
            refine lv_ri (y := zI ((P r >>> sc : Nat) : Int)) (zb_shr (by omega) (by omega)) ?_
            refine z_iconst xX xB dX4_cut_43 ?_
            refine lv_iand xX xB dX4_cut_44 ?_
            refine lv_ri (y := bI (dk P (16 * r + sc))) ((zb_and _ 1).trans (by rw [zb_bit, ← dk_row (P := P) (r := r) (show sc < 16 by omega)]; unfold bI; cases dk P (16 * r + sc) <;> rfl)) ?_
            refine z_iconst xX xB dX4_cut_45 ?_
            refine b_icmp_ne1 (tgt := 53) xX xB dX4_cut_46 (by decide) (fun h46 => ?_) (fun h46 => ?_)
            · skip
              refine z_iconst xX xB dX4_cut_53 ?_
              refine g_modv (va_runV (As := [.int (zI (r : Int)), .int (zI (sc : Int)), .int (zI ((k : Int) - 1)), .int (zI 0)]) (rest := []) ⟨xX, xB, xM, xO, xT⟩ (c_X4_add l D kI kB h b0 b1 b2 b3 b4 b5 b6 cn SO1 EO1 RO1 DA1 TW1 (r : Int) (sc : Int) ((k : Int) - 1) false (by omega)) (cwV 4 xT gX4_cut_X4_add rfl rfl rfl hd_X4_add ⟨Nat.le_of_ble_eq_true rfl, Nat.le_of_ble_eq_true rfl⟩) (g_preV (ci := 4) (q0 := 0) wP wD wK [0, 1, 2, 3, 4, 5] (by decide) rfl rfl rfl) rfl rfl wl.1 rfl (lv_room (Nat.le_of_ble_eq_true rfl)) dX4_cut_54 ⟨Nat.le_of_ble_eq_true rfl, Nat.le_of_ble_eq_true rfl⟩) wP wD wS [0, 1, 2, 3, 4, 5] rfl (fun _ => rfl) (fun u_ H locs hc54 wP wD wS => ?_)
              try dsimp only at hc54
              have wP : va_P D gC [(h, .inr (4, [.ref b0, .ref b1, .ref b2, .ref b3, .ref b4, .ref b5, .ref b6, .int (zI ((cn + 1 : Nat) : Int))])), (b2, .inl (kI, 256, .inl (aZ (uZ SO1 cn (sc : Int))))), (b3, .inl (kI, 256, .inl (aZ (uZ EO1 cn ((k : Int) - 1))))), (b4, .inl (kI, 256, .inl (aZ (uZ RO1 cn (r : Int))))), (b5, .inl (kB, 256, .inl (aB (uB DA1 cn false)))), (b6, .inl (kI, 256, .inl (aZ (uZ TW1 cn (cn : Int)))))] H := wP
              have wD : va_D (gA [(h, .inr (4, [.ref b0, .ref b1, .ref b2, .ref b3, .ref b4, .ref b5, .ref b6, .int (zI ((sR P (16 * r) : Nat) : Int))])), (b2, .inl (kI, 256, .inl (aZ SO))), (b3, .inl (kI, 256, .inl (aZ EO))), (b4, .inl (kI, 256, .inl (aZ RO))), (b5, .inl (kB, 256, .inl (aB DA))), (b6, .inl (kI, 256, .inl (aZ TW)))]) [(h, .inr (4, [.ref b0, .ref b1, .ref b2, .ref b3, .ref b4, .ref b5, .ref b6, .int (zI ((cn + 1 : Nat) : Int))])), (b2, .inl (kI, 256, .inl (aZ (uZ SO1 cn (sc : Int))))), (b3, .inl (kI, 256, .inl (aZ (uZ EO1 cn ((k : Int) - 1))))), (b4, .inl (kI, 256, .inl (aZ (uZ RO1 cn (r : Int))))), (b5, .inl (kB, 256, .inl (aB (uB DA1 cn false)))), (b6, .inl (kI, 256, .inl (aZ (uZ TW1 cn (cn : Int)))))] := wD
              refine lv_iload xX xB dX4_cut_57 (lv_at wl 4 rfl) ?_
              refine lv_istore_n (lv' := [(3, .int (zI (k : Int))), (0, .ref h), (1, .int (zI (r : Int))), (2, .int (zI ((P r : Nat) : Int))), (4, .int (zI (k : Int)))]) xX xB dX4_cut_59 rfl wl (by decide) rfl (fun ls wl => ?_)
              refine lv_iinc (v := zI ((k : Int) + 1)) (lv' := [(4, .int (zI ((k : Int) + 1))), (3, .int (zI (k : Int))), (0, .ref h), (1, .int (zI (r : Int))), (2, .int (zI ((P r : Nat) : Int)))]) xX xB dX4_cut_60 wl (k := 4) rfl (zI_add _ _) (by decide) rfl (fun ls wl => ?_)
              refine lv_goto (tgt := 5) xX xB dX4_cut_63 (by decide) ?_
              exact ihK k (k + 1) (cn + 1) (uZ SO1 cn (sc : Int)) (uZ EO1 cn ((k : Int) - 1)) (uZ RO1 cn (r : Int)) (uB DA1 cn false) (uZ TW1 cn (cn : Int)) (by omega) (by omega) hE.1 (by omega) (by rw [hE.2.2.2, hcn]) (hR1.add (by rw [hcn, hE.2.1]; omega) (by rw [hcn, hE.2.2.1]; omega) (by rw [hcn, hE.2.1]; omega) (by rw [hcn, hE.2.1, h46])) (lt_s (fun j hj => by rw [uZ_n _ _ (by omega)]; exact hT1 j hj) (uZ_s _ _ _)) _ _ _ wP wD wS (lv_sub wl [2, 3, 4, 1, 0] rfl)
            · skip
              refine z_iconst xX xB dX4_cut_49 ?_
              refine lv_goto (tgt := 54) xX xB dX4_cut_50 (by decide) ?_
              refine g_modv (va_runV (As := [.int (zI (r : Int)), .int (zI (sc : Int)), .int (zI ((k : Int) - 1)), .int (zI 1)]) (rest := []) ⟨xX, xB, xM, xO, xT⟩ (c_X4_add l D kI kB h b0 b1 b2 b3 b4 b5 b6 cn SO1 EO1 RO1 DA1 TW1 (r : Int) (sc : Int) ((k : Int) - 1) true (by omega)) (cwV 4 xT gX4_cut_X4_add rfl rfl rfl hd_X4_add ⟨Nat.le_of_ble_eq_true rfl, Nat.le_of_ble_eq_true rfl⟩) (g_preV (ci := 4) (q0 := 0) wP wD wK [0, 1, 2, 3, 4, 5] (by decide) rfl rfl rfl) rfl rfl wl.1 rfl (lv_room (Nat.le_of_ble_eq_true rfl)) dX4_cut_54 ⟨Nat.le_of_ble_eq_true rfl, Nat.le_of_ble_eq_true rfl⟩) wP wD wS [0, 1, 2, 3, 4, 5] rfl (fun _ => rfl) (fun u_ H locs hc54 wP wD wS => ?_)
              try dsimp only at hc54
              have wP : va_P D gC [(h, .inr (4, [.ref b0, .ref b1, .ref b2, .ref b3, .ref b4, .ref b5, .ref b6, .int (zI ((cn + 1 : Nat) : Int))])), (b2, .inl (kI, 256, .inl (aZ (uZ SO1 cn (sc : Int))))), (b3, .inl (kI, 256, .inl (aZ (uZ EO1 cn ((k : Int) - 1))))), (b4, .inl (kI, 256, .inl (aZ (uZ RO1 cn (r : Int))))), (b5, .inl (kB, 256, .inl (aB (uB DA1 cn true)))), (b6, .inl (kI, 256, .inl (aZ (uZ TW1 cn (cn : Int)))))] H := wP
              have wD : va_D (gA [(h, .inr (4, [.ref b0, .ref b1, .ref b2, .ref b3, .ref b4, .ref b5, .ref b6, .int (zI ((sR P (16 * r) : Nat) : Int))])), (b2, .inl (kI, 256, .inl (aZ SO))), (b3, .inl (kI, 256, .inl (aZ EO))), (b4, .inl (kI, 256, .inl (aZ RO))), (b5, .inl (kB, 256, .inl (aB DA))), (b6, .inl (kI, 256, .inl (aZ TW)))]) [(h, .inr (4, [.ref b0, .ref b1, .ref b2, .ref b3, .ref b4, .ref b5, .ref b6, .int (zI ((cn + 1 : Nat) : Int))])), (b2, .inl (kI, 256, .inl (aZ (uZ SO1 cn (sc : Int))))), (b3, .inl (kI, 256, .inl (aZ (uZ EO1 cn ((k : Int) - 1))))), (b4, .inl (kI, 256, .inl (aZ (uZ RO1 cn (r : Int))))), (b5, .inl (kB, 256, .inl (aB (uB DA1 cn true)))), (b6, .inl (kI, 256, .inl (aZ (uZ TW1 cn (cn : Int)))))] := wD
              refine lv_iload xX xB dX4_cut_57 (lv_at wl 4 rfl) ?_
              refine lv_istore_n (lv' := [(3, .int (zI (k : Int))), (0, .ref h), (1, .int (zI (r : Int))), (2, .int (zI ((P r : Nat) : Int))), (4, .int (zI (k : Int)))]) xX xB dX4_cut_59 rfl wl (by decide) rfl (fun ls wl => ?_)
              refine lv_iinc (v := zI ((k : Int) + 1)) (lv' := [(4, .int (zI ((k : Int) + 1))), (3, .int (zI (k : Int))), (0, .ref h), (1, .int (zI (r : Int))), (2, .int (zI ((P r : Nat) : Int)))]) xX xB dX4_cut_60 wl (k := 4) rfl (zI_add _ _) (by decide) rfl (fun ls wl => ?_)
              refine lv_goto (tgt := 5) xX xB dX4_cut_63 (by decide) ?_
              exact ihK k (k + 1) (cn + 1) (uZ SO1 cn (sc : Int)) (uZ EO1 cn ((k : Int) - 1)) (uZ RO1 cn (r : Int)) (uB DA1 cn true) (uZ TW1 cn (cn : Int)) (by omega) (by omega) hE.1 (by omega) (by rw [hE.2.2.2, hcn]) (hR1.add (by rw [hcn, hE.2.1]; omega) (by rw [hcn, hE.2.2.1]; omega) (by rw [hcn, hE.2.1]; omega) (by rw [hcn, hE.2.1, h46])) (lt_s (fun j hj => by rw [uZ_n _ _ (by omega)]; exact hT1 j hj) (uZ_s _ _ _)) _ _ _ wP wD wS (lv_sub wl [2, 3, 4, 1, 0] rfl)
  exact K _ 0 1 (sR P (16 * r)) SO EO RO DA TW (Nat.lt_succ_self _) (by omega) (CutI.z P r) (by omega) rfl hR hT _ _ _ wP wD wS (lv_sub wl [2, 3, 4, 1, 0] rfl)
