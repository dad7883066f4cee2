set_option maxRecDepth 20000 in
theorem in_X4_leastKnown_X4 : ∀ w ∈ u_ws RX4 TX4 8, w ∈ wsX4_leastKnown := by decide +kernel
set_option maxRecDepth 20000 in
theorem in_X4_join_X4 : ∀ w ∈ u_ws RX4 TX4 8, w ∈ wsX4_join := by decide +kernel
set_option maxRecDepth 20000 in
theorem in_X4_firstOfColour_X4 : ∀ w ∈ u_ws RX4 TX4 8, w ∈ wsX4_firstOfColour := by decide +kernel
set_option maxRecDepth 20000 in
theorem in_X4_joinToRowAbove_X4 : ∀ w ∈ u_ws RX4 TX4 8, w ∈ wsX4_joinToRowAbove := by decide +kernel
theorem hd_X4_leastKnown : yX4_leastKnown.cls = RX4 ∧ yX4_leastKnown.cls ≠ "java/lang/invoke/MethodHandle" ∧ yX4_leastKnown.cls ≠ "java/lang/invoke/VarHandle" ∧ (parseMethodDescriptor yX4_leastKnown.desc).map (fun d => d.parameters.length) = some 1 := by decide +kernel
theorem hd_X4_isDark : yX4_isDark.cls = RX4 ∧ yX4_isDark.cls ≠ "java/lang/invoke/MethodHandle" ∧ yX4_isDark.cls ≠ "java/lang/invoke/VarHandle" ∧ (parseMethodDescriptor yX4_isDark.desc).map (fun d => d.parameters.length) = some 1 := by decide +kernel
theorem hd_X4_firstOfColour : yX4_firstOfColour.cls = RX4 ∧ yX4_firstOfColour.cls ≠ "java/lang/invoke/MethodHandle" ∧ yX4_firstOfColour.cls ≠ "java/lang/invoke/VarHandle" ∧ (parseMethodDescriptor yX4_firstOfColour.desc).map (fun d => d.parameters.length) = some 2 := by decide +kernel
theorem hd_X4_join : yX4_join.cls = RX4 ∧ yX4_join.cls ≠ "java/lang/invoke/MethodHandle" ∧ yX4_join.cls ≠ "java/lang/invoke/VarHandle" ∧ (parseMethodDescriptor yX4_join.desc).map (fun d => d.parameters.length) = some 2 := by decide +kernel
set_option maxHeartbeats 4000000 in
set_option maxRecDepth 100000 in
theorem c_X4_leastKnown (l : Launch) (D : va_G) (kI kB : ClassId) (h : Nat) (b0 : Nat) (b1 : Nat) (b2 : Nat) (b3 : Nat) (b4 : Nat) (b5 : Nat) (b6 : Nat) (cn : Nat) (T : Nat → Nat) (TW : Nat → Int) (n : Nat) (i : Nat) (hU : UFI T TW n) (hi : i < n) (hn : n ≤ 256) : gI l yX4_leastKnown wsX4_leastKnown ({ frames := 0, cells := 0, slots := 0, locals := 0 } : Room) D kI kB [.ref h, .int (zI (i : Int))] [(h, .inr (4, [.ref b0, .ref b1, .ref b2, .ref b3, .ref b4, .ref b5, .ref b6, .int (zI (cn : Int))])), (b6, .inl (kI, 256, .inl (aZ TW)))] (zI ((root T i : Nat) : Int)) := by
  refine g_start (cc := cX4_leastKnown) (maxL := 4) (ret := (some .int)) (by decide) rfl (Nat.le_of_ble_eq_true rfl) ?_
  intro xp xe xs xm xbl xmt xc xX xB xR xM xT xO xL xN wP wD wK ls wl
  have wS : va_S (fun _ => False) xs.heap xs.heap [] := va_S.rf
  have wl : lv_has ls 4 [(0, .ref h), (1, .int (zI (i : Int)))] := wl
  generalize hQ : MQ xbl _ _ xs 0 0 _ = xQ
  refine lv_iload_n xX xB dX4_leastKnown_0 rfl (lv_at wl 1 rfl) ?_
  refine lv_istore_n (lv' := [(2, .int (zI (i : Int))), (0, .ref h), (1, .int (zI (i : Int)))]) xX xB dX4_leastKnown_1 rfl wl (by decide) rfl (fun ls wl => ?_)
  refine z_iconst xX xB dX4_leastKnown_2 ?_
  refine lv_istore_n (lv' := [(3, .int (zI 0)), (2, .int (zI (i : Int))), (0, .ref h), (1, .int (zI (i : Int)))]) xX xB dX4_leastKnown_3 rfl wl (by decide) rfl (fun ls wl => ?_)
  have K : ∀ n_ : Nat, ∀ (L : Nat) (k : Nat), L < n_ → (root T L = root T i) → (L + k ≤ i) → ∀ (H : Heap) (locs : List Loc) (ls : Array Slot), va_P D gC [(h, .inr (4, [.ref b0, .ref b1, .ref b2, .ref b3, .ref b4, .ref b5, .ref b6, .int (zI (cn : Int))])), (b6, .inl (kI, 256, .inl (aZ TW)))] H → va_S (fun _ => False) xs.heap H locs → lv_has ls 4 [(0, .ref h), (1, .int (zI (i : Int))), (2, .int (zI (L : Int))), (3, .int (zI (k : Int)))] → W xp l xe ({ frames := 0, cells := 0, slots := 0, locals := 0 } : Room) xs xm (List.toArray [.ref h, .int (zI (i : Int))]) xbl xmt xc H locs 0 0 xQ (F0 xm 4 ls []) := by
    intro n_
    induction n_ with
    | zero =>
      intro L k hme
      exact absurd hme (Nat.not_lt_zero _)
    | succ n_ ihK =>
      intro L k hme hL hk H locs ls wP wS wl
      have hTL := (hU L (by omega)).2
      refine lv_iload_n xX xB dX4_leastKnown_4 rfl (lv_at wl 3 rfl) ?_
      refine z_sipush xX xB dX4_leastKnown_5 (by decide) ?_
      refine z_icmp_ge (tgt := 42) xX xB dX4_leastKnown_8 (by decide) (by omega) (by omega) (fun h8 => ?_) (fun h8 => ?_)
      · exact absurd h8 (by omega)
      · skip
        refine lv_aload_n xX xB dX4_leastKnown_11 rfl (lv_at wl 0 rfl) ?_
        refine va_get (D := D) (ci := 4) (v := .ref b6) (C := RX4) (T := TX4) (N := 8) xX xB xT in_X4_leastKnown_X4 xO wK.1 wP 0 rfl rfl 6 (by decide) (xT _ (List.mem_of_getElem? (i := 1) rfl)) (fun _ h9 => h9) rfl dX4_leastKnown_12 ?_
        refine lv_iload_n xX xB dX4_leastKnown_15 rfl (lv_at wl 2 rfl) ?_
        refine z_sipush xX xB dX4_leastKnown_16 (by decide) ?_
        refine z_m255 xX xB dX4_leastKnown_19 (by omega) ?_
        refine z_iald xX xB wK wP 1 rfl L rfl (by omega) (Nat.le_of_ble_eq_true rfl) dX4_leastKnown_20 ?_
        refine lv_ri (y := zI ((T L : Nat) : Int)) (congrArg zI (hU L (by omega)).1) ?_
        refine lv_iload_n xX xB dX4_leastKnown_21 rfl (lv_at wl 2 rfl) ?_
        refine z_icmp_ge (tgt := 42) xX xB dX4_leastKnown_22 (by decide) (by omega) (by omega) (fun h22 => ?_) (fun h22 => ?_)
        · skip
          refine lv_iload_n xX xB dX4_leastKnown_42 rfl (lv_at wl 2 rfl) ?_
          subst hQ
          exact g_iret xX xB xR xL wS dX4_leastKnown_43 (congrArg (fun z : Nat => zI (z : Int)) (by rw [← hL]; exact (root_self (by omega)).symm))
        · skip
          refine lv_aload_n xX xB dX4_leastKnown_25 rfl (lv_at wl 0 rfl) ?_
          refine va_get (D := D) (ci := 4) (v := .ref b6) (C := RX4) (T := TX4) (N := 8) xX xB xT in_X4_leastKnown_X4 xO wK.1 wP 0 rfl rfl 6 (by decide) (xT _ (List.mem_of_getElem? (i := 1) rfl)) (fun _ h9 => h9) rfl dX4_leastKnown_26 ?_
          refine lv_iload_n xX xB dX4_leastKnown_29 rfl (lv_at wl 2 rfl) ?_
          refine z_sipush xX xB dX4_leastKnown_30 (by decide) ?_
          refine z_m255 xX xB dX4_leastKnown_33 (by omega) ?_
          refine z_iald xX xB wK wP 1 rfl L rfl (by omega) (Nat.le_of_ble_eq_true rfl) dX4_leastKnown_34 ?_
          refine lv_ri (y := zI ((T L : Nat) : Int)) (congrArg zI (hU L (by omega)).1) ?_
          refine lv_istore_n (lv' := [(2, .int (zI ((T L : Nat) : Int))), (0, .ref h), (1, .int (zI (i : Int))), (3, .int (zI (k : Int)))]) xX xB dX4_leastKnown_35 rfl wl (by decide) rfl (fun ls wl => ?_)
          refine lv_iinc (v := zI ((k : Int) + 1)) (lv' := [(3, .int (zI ((k : Int) + 1))), (2, .int (zI ((T L : Nat) : Int))), (0, .ref h), (1, .int (zI (i : Int)))]) xX xB dX4_leastKnown_36 wl (k := 3) rfl (zI_add _ _) (by decide) rfl (fun ls wl => ?_)
          refine lv_goto (tgt := 4) xX xB dX4_leastKnown_39 (by decide) ?_
          exact ihK (T L) (k + 1) (by omega) (by rw [← hL, root_eq (T := T) L, if_pos (by omega)]) (by omega) _ _ _ wP wS (lv_sub wl [2, 3, 1, 0] rfl)
  exact K _ i 0 (Nat.lt_succ_self _) rfl (by omega) _ _ _ wP wS (lv_sub wl [2, 3, 1, 0] rfl)

set_option maxHeartbeats 4000000 in
set_option maxRecDepth 100000 in
theorem c_X4_join (l : Launch) (D : va_G) (kI kB : ClassId) (h : Nat) (b0 : Nat) (b1 : Nat) (b2 : Nat) (b3 : Nat) (b4 : Nat) (b5 : Nat) (b6 : Nat) (cn : Nat) (T : Nat → Nat) (TW : Nat → Int) (n : Nat) (a : Nat) (b : Nat) (hU : UFI T TW n) (ha : a < n) (hb : b < n) (hn : n ≤ 256) : gV l yX4_join wsX4_join ({ frames := 1, cells := 0, slots := 0, locals := 23 } : Room) D kI kB [.ref h, .int (zI (a : Int)), .int (zI (b : Int))] [(h, .inr (4, [.ref b0, .ref b1, .ref b2, .ref b3, .ref b4, .ref b5, .ref b6, .int (zI (cn : Int))])), (b6, .inl (kI, 256, .inl (aZ TW)))] (fun (_ : Unit) => [(h, .inr (4, [.ref b0, .ref b1, .ref b2, .ref b3, .ref b4, .ref b5, .ref b6, .int (zI (cn : Int))])), (b6, .inl (kI, 256, .inl (aZ (uZ TW (max (root T a) (root T b)) ((min (root T a) (root T b) : Nat) : Int)))))]) (fun (_ : Unit) => True) := by
  refine g_start (cc := cX4_join) (maxL := 5) (ret := none) (by decide) rfl (Nat.le_of_ble_eq_true rfl) ?_
  intro xp xe xs xm xbl xmt xc xX xB xR xM xT xO xL xN wP wD wK ls wl
  have wS : va_S (gA [(h, .inr (4, [.ref b0, .ref b1, .ref b2, .ref b3, .ref b4, .ref b5, .ref b6, .int (zI (cn : Int))])), (b6, .inl (kI, 256, .inl (aZ TW)))]) xs.heap xs.heap [] := va_S.rf
  have wl : lv_has ls 5 [(0, .ref h), (1, .int (zI (a : Int))), (2, .int (zI (b : Int)))] := wl
  have la := root_le (T := T) a
  have lb := root_le (T := T) b
  refine lv_aload_n xX xB dX4_join_0 rfl (lv_at wl 0 rfl) ?_
  refine lv_iload_n xX xB dX4_join_1 rfl (lv_at wl 1 rfl) ?_
  refine g_pure (va_runV (As := [.int (zI (a : Int))]) (rest := []) ⟨xX, xB, xM, xO, xT⟩ (c_X4_leastKnown l D kI kB h b0 b1 b2 b3 b4 b5 b6 cn T TW n a hU ha hn) (cwV 1 xT gX4_join_X4_leastKnown rfl rfl rfl hd_X4_leastKnown ⟨Nat.le_of_ble_eq_true rfl, Nat.le_of_ble_eq_true rfl⟩) (g_preV (ci := 4) (q0 := 0) wP wD wK [0, 1] (by decide) rfl rfl rfl) rfl rfl wl.1 rfl (lv_room (Nat.le_of_ble_eq_true rfl)) dX4_join_2 ⟨Nat.le_of_ble_eq_true rfl, Nat.le_of_ble_eq_true rfl⟩) wP wS (fun H locs wP wS => ?_)
  refine lv_istore_n (lv' := [(3, .int (zI ((root T a : Nat) : Int))), (0, .ref h), (1, .int (zI (a : Int))), (2, .int (zI (b : Int)))]) xX xB dX4_join_5 rfl wl (by decide) rfl (fun ls wl => ?_)
  refine lv_aload_n xX xB dX4_join_6 rfl (lv_at wl 1 rfl) ?_
  refine lv_iload_n xX xB dX4_join_7 rfl (lv_at wl 3 rfl) ?_
  refine g_pure (va_runV (As := [.int (zI (b : Int))]) (rest := []) ⟨xX, xB, xM, xO, xT⟩ (c_X4_leastKnown l D kI kB h b0 b1 b2 b3 b4 b5 b6 cn T TW n b hU hb hn) (cwV 1 xT gX4_join_X4_leastKnown rfl rfl rfl hd_X4_leastKnown ⟨Nat.le_of_ble_eq_true rfl, Nat.le_of_ble_eq_true rfl⟩) (g_preV (ci := 4) (q0 := 0) wP wD wK [0, 1] (by decide) rfl rfl rfl) rfl rfl wl.1 rfl (lv_room (Nat.le_of_ble_eq_true rfl)) dX4_join_8 ⟨Nat.le_of_ble_eq_true rfl, Nat.le_of_ble_eq_true rfl⟩) wP wS (fun H locs wP wS => ?_)
  refine lv_istore (lv' := [(4, .int (zI ((root T b : Nat) : Int))), (3, .int (zI ((root T a : Nat) : Int))), (0, .ref h), (1, .int (zI (a : Int))), (2, .int (zI (b : Int)))]) xX xB dX4_join_11 wl (by decide) rfl (fun ls wl => ?_)
  refine lv_aload_n xX xB dX4_join_13 rfl (lv_at wl 2 rfl) ?_
  refine va_get (D := D) (ci := 4) (v := .ref b6) (C := RX4) (T := TX4) (N := 8) xX xB xT in_X4_join_X4 xO wK.1 wP 0 rfl rfl 6 (by decide) (xT _ (List.mem_of_getElem? (i := 1) rfl)) (fun _ h9 => h9) rfl dX4_join_14 ?_
  refine lv_iload_n xX xB dX4_join_17 rfl (lv_at wl 1 rfl) ?_
  refine lv_iload xX xB dX4_join_18 (lv_at wl 0 rfl) ?_
  refine va_mmax xX xB (xM.trans wl.1.symm) xO (xT _ (List.mem_of_getElem? (i := 2) rfl)) (xT _ (List.mem_of_getElem? (i := 3) rfl)) (xT _ (List.mem_of_getElem? (i := 4) rfl)) (xT _ (List.mem_of_getElem? (i := 5) rfl)) (Nat.le_of_ble_eq_true rfl) (Nat.le_of_ble_eq_true rfl) (Nat.zero_le _) (Nat.zero_le _) dX4_join_20 ?_
  refine lv_ri (zI_max (by omega) (by omega)) ?_
  refine lv_ri (y := zI ((max (root T a) (root T b) : Nat) : Int)) (congrArg zI (by omega)) ?_
  refine z_sipush xX xB dX4_join_23 (by decide) ?_
  refine z_m255 xX xB dX4_join_26 (by omega) ?_
  refine lv_iload_n xX xB dX4_join_27 rfl (lv_at wl 1 rfl) ?_
  refine lv_iload xX xB dX4_join_28 (lv_at wl 0 rfl) ?_
  refine va_mmin xX xB (xM.trans wl.1.symm) xO (xT _ (List.mem_of_getElem? (i := 6) rfl)) (xT _ (List.mem_of_getElem? (i := 7) rfl)) (xT _ (List.mem_of_getElem? (i := 4) rfl)) (xT _ (List.mem_of_getElem? (i := 8) rfl)) (Nat.le_of_ble_eq_true rfl) (Nat.le_of_ble_eq_true rfl) (Nat.zero_le _) (Nat.zero_le _) dX4_join_30 ?_
  refine lv_ri (zI_min (by omega) (by omega)) ?_
  refine lv_ri (y := zI ((min (root T a) (root T b) : Nat) : Int)) (congrArg zI (by omega)) ?_
  refine z_iast xX xB wK wP wD wS 1 rfl (max (root T a) (root T b)) (by omega) (by omega) (Nat.le_of_ble_eq_true rfl) dX4_join_33 (fun H locs wP wD wS => ?_)
  have wP : va_P D gC [(h, .inr (4, [.ref b0, .ref b1, .ref b2, .ref b3, .ref b4, .ref b5, .ref b6, .int (zI (cn : Int))])), (b6, .inl (kI, 256, .inl (aZ (uZ TW (max (root T a) (root T b)) ((min (root T a) (root T b) : Nat) : Int)))))] H := wP
  have wD : va_D (gA [(h, .inr (4, [.ref b0, .ref b1, .ref b2, .ref b3, .ref b4, .ref b5, .ref b6, .int (zI (cn : Int))])), (b6, .inl (kI, 256, .inl (aZ TW)))]) [(h, .inr (4, [.ref b0, .ref b1, .ref b2, .ref b3, .ref b4, .ref b5, .ref b6, .int (zI (cn : Int))])), (b6, .inl (kI, 256, .inl (aZ (uZ TW (max (root T a) (root T b)) ((min (root T a) (root T b) : Nat) : Int)))))] := wD
  exact g_vret () xX xB xR xL wP wS dX4_join_34 trivial

set_option maxHeartbeats 4000000 in
set_option maxRecDepth 100000 in
theorem c_X4_firstOfColour (l : Launch) (D : va_G) (kI kB : ClassId) (h : Nat) (b0 : Nat) (b1 : Nat) (b2 : Nat) (b3 : Nat) (b4 : Nat) (b5 : Nat) (b6 : Nat) (cn : Nat) (FI_ : Nat → Int) (DA : Nat → Bool) (P : Nat → Nat) (r : Nat) (cl : Bool) (hr : r < 16) (hFI : FI_ r = ((sR P (16 * r) : Nat) : Int)) (hDA : DA (sR P (16 * r)) = dk P (16 * r)) : gI l yX4_firstOfColour wsX4_firstOfColour ({ frames := 1, cells := 0, slots := 0, locals := 21 } : Room) D kI kB [.ref h, .int (zI (r : Int)), .int (bI cl)] [(h, .inr (4, [.ref b0, .ref b1, .ref b2, .ref b3, .ref b4, .ref b5, .ref b6, .int (zI (cn : Int))])), (b0, .inl (kI, 17, .inl (aZ FI_))), (b5, .inl (kB, 256, .inl (aB DA)))] (zI ((foc P r cl : Nat) : Int)) := by
  refine g_start (cc := cX4_firstOfColour) (maxL := 4) (ret := (some .int)) (by decide) rfl (Nat.le_of_ble_eq_true rfl) ?_
  intro xp xe xs xm xbl xmt xc xX xB xR xM xT xO xL xN wP wD wK ls wl
  have wS : va_S (fun _ => False) xs.heap xs.heap [] := va_S.rf
  have wl : lv_has ls 4 [(0, .ref h), (1, .int (zI (r : Int))), (2, .int (bI cl))] := wl
  have hs := first_lt (P := P) hr
  refine lv_aload_n xX xB dX4_firstOfColour_0 rfl (lv_at wl 0 rfl) ?_
  refine va_get (D := D) (ci := 4) (v := .ref b0) (C := RX4) (T := TX4) (N := 8) xX xB xT in_X4_firstOfColour_X4 xO wK.1 wP 0 rfl rfl 0 (by decide) (xT _ (List.mem_of_getElem? (i := 1) rfl)) (fun _ h9 => h9) rfl dX4_firstOfColour_1 ?_
  refine lv_iload_n xX xB dX4_firstOfColour_4 rfl (lv_at wl 1 rfl) ?_
  refine z_bipush xX xB dX4_firstOfColour_5 (by decide) ?_
  refine z_m15 xX xB dX4_firstOfColour_7 (by omega) ?_
  refine z_iald xX xB wK wP 1 rfl r rfl (by omega) (Nat.le_of_ble_eq_true rfl) dX4_firstOfColour_8 ?_
  refine lv_ri (y := zI ((sR P (16 * r) : Nat) : Int)) (congrArg zI hFI) ?_
  refine lv_istore_n (lv' := [(3, .int (zI ((sR P (16 * r) : Nat) : Int))), (0, .ref h), (1, .int (zI (r : Int))), (2, .int (bI cl))]) xX xB dX4_firstOfColour_9 rfl wl (by decide) rfl (fun ls wl => ?_)
  refine lv_aload_n xX xB dX4_firstOfColour_10 rfl (lv_at wl 1 rfl) ?_
  refine lv_iload_n xX xB dX4_firstOfColour_11 rfl (lv_at wl 0 rfl) ?_
  refine g_pure (va_runV (As := [.int (zI ((sR P (16 * r) : Nat) : Int))]) (rest := []) ⟨xX, xB, xM, xO, xT⟩ (c_X4_isDark l D kI kB h b0 b1 b2 b3 b4 b5 b6 cn DA (sR P (16 * r)) (by omega)) (cwV 1 xT gX4_firstOfColour_X4_isDark rfl rfl rfl hd_X4_isDark ⟨Nat.le_of_ble_eq_true rfl, Nat.le_of_ble_eq_true rfl⟩) (g_preV (ci := 4) (q0 := 0) wP wD wK [0, 2] (by decide) rfl rfl rfl) rfl rfl wl.1 rfl (lv_room (Nat.le_of_ble_eq_true rfl)) dX4_firstOfColour_12 ⟨Nat.le_of_ble_eq_true rfl, Nat.le_of_ble_eq_true rfl⟩) wP wS (fun H locs wP wS => ?_)
  refine lv_iload_n xX xB dX4_firstOfColour_15 rfl (lv_at wl 3 rfl) ?_
  refine b_icmp_ne (tgt := 23) xX xB dX4_firstOfColour_16 (by decide) (fun h16 => ?_) (fun h16 => ?_)
  · skip
    refine lv_iload_n xX xB dX4_firstOfColour_23 rfl (lv_at wl 0 rfl) ?_
    refine z_iconst xX xB dX4_firstOfColour_24 ?_
    refine z_iadd xX xB dX4_firstOfColour_25 ?_
    exact g_iret xX xB xR xL wS dX4_firstOfColour_26 (congrArg (fun z : Nat => zI (z : Int)) (by unfold foc; rw [if_neg (by rw [← hDA]; exact h16)]))
  · skip
    refine lv_iload_n xX xB dX4_firstOfColour_19 rfl (lv_at wl 0 rfl) ?_
    refine lv_goto (tgt := 26) xX xB dX4_firstOfColour_20 (by decide) ?_
    exact g_iret xX xB xR xL wS dX4_firstOfColour_26 (congrArg (fun z : Nat => zI (z : Int)) (by unfold foc; rw [if_pos (by rw [← hDA]; exact h16)]))

set_option maxHeartbeats 4000000 in
set_option maxRecDepth 100000 in
theorem c_X4_joinToRowAbove (l : Launch) (D : va_G) (kI kB : ClassId) (h : Nat) (b0 : Nat) (b1 : Nat) (b2 : Nat) (b3 : Nat) (b4 : Nat) (b5 : Nat) (b6 : Nat) (cn : Nat) (FI_ : Nat → Int) (SO : Nat → Int) (EO : Nat → Int) (RO : Nat → Int) (DA : Nat → Bool) (TW : Nat → Int) (P : Nat → Nat) (m8 : Bool) (T : Nat → Nat) (r : Nat) (cl : Bool) (rc : Nat) (hr1 : 1 ≤ r) (hr : r < 16) (hrc : rc = bZ (cl == m8)) (hR : RecI P (sR P 256) SO EO RO DA) (hFI : ∀ k, k ≤ 16 → FI_ k = ((sR P (16 * k) : Nat) : Int)) (hU : UFI T TW (sR P 256)) (hS : SndI P m8 T) : gV l yX4_joinToRowAbove wsX4_joinToRowAbove ({ frames := 2, cells := 0, slots := 0, locals := 47 } : Room) D kI kB [.ref h, .int (zI (r : Int)), .int (bI cl), .int (zI (rc : Int))] [(h, .inr (4, [.ref b0, .ref b1, .ref b2, .ref b3, .ref b4, .ref b5, .ref b6, .int (zI (cn : Int))])), (b0, .inl (kI, 17, .inl (aZ FI_))), (b2, .inl (kI, 256, .inl (aZ SO))), (b3, .inl (kI, 256, .inl (aZ EO))), (b5, .inl (kB, 256, .inl (aB DA))), (b6, .inl (kI, 256, .inl (aZ TW)))] (fun (w_ : (Nat → Nat) × (Nat → Int)) => [(h, .inr (4, [.ref b0, .ref b1, .ref b2, .ref b3, .ref b4, .ref b5, .ref b6, .int (zI (cn : Int))])), (b0, .inl (kI, 17, .inl (aZ FI_))), (b2, .inl (kI, 256, .inl (aZ SO))), (b3, .inl (kI, 256, .inl (aZ EO))), (b5, .inl (kB, 256, .inl (aB DA))), (b6, .inl (kI, 256, .inl (aZ (w_.2))))]) (fun (w_ : (Nat → Nat) × (Nat → Int)) => UFI (w_.1) (w_.2) (sR P 256) ∧ SndI P m8 (w_.1) ∧ CoI P T (w_.1) ∧ DoneI P (w_.1) r cl rc (sR P 256) (sR P 256)) := by
  refine g_start (cc := cX4_joinToRowAbove) (maxL := 8) (ret := none) (by decide) rfl (Nat.le_of_ble_eq_true rfl) ?_
  intro xp xe xs xm xbl xmt xc xX xB xR xM xT xO xL xN wP wD wK ls wl
  have wS : va_S (gA [(h, .inr (4, [.ref b0, .ref b1, .ref b2, .ref b3, .ref b4, .ref b5, .ref b6, .int (zI (cn : Int))])), (b0, .inl (kI, 17, .inl (aZ FI_))), (b2, .inl (kI, 256, .inl (aZ SO))), (b3, .inl (kI, 256, .inl (aZ EO))), (b5, .inl (kB, 256, .inl (aB DA))), (b6, .inl (kI, 256, .inl (aZ TW)))]) xs.heap xs.heap [] := va_S.rf
  have wl : lv_has ls 8 [(0, .ref h), (1, .int (zI (r : Int))), (2, .int (bI cl)), (3, .int (zI (rc : Int)))] := wl
  generalize hQ : MQ xbl _ _ xs 0 0 _ = xQ
  have hs0 := first_lt (P := P) (r := r - 1) (by omega)
  have hs1 := first_lt (P := P) hr
  have hrcl : rc ≤ 1 := by rw [hrc]; cases cl <;> cases m8 <;> decide
  have fa := foc_le (P := P) (r - 1) cl
  have fb := foc_le (P := P) r cl
  have d0 : DA (sR P (16 * (r - 1))) = dk P (16 * (r - 1)) := by rw [(hR _ (sR_lt (P := P) (show 16 * (r - 1) < 256 by omega) (stt_row (by omega)))).2.2.2, spl_first (by omega)]
  have d1 : DA (sR P (16 * r)) = dk P (16 * r) := by rw [(hR _ (sR_lt (P := P) (show 16 * r < 256 by omega) (stt_row (by omega)))).2.2.2, spl_first hr]
  refine lv_aload_n xX xB dX4_joinToRowAbove_0 rfl (lv_at wl 0 rfl) ?_
  refine lv_iload_n xX xB dX4_joinToRowAbove_1 rfl (lv_at wl 1 rfl) ?_
  refine z_iconst xX xB dX4_joinToRowAbove_2 ?_
  refine z_isub xX xB dX4_joinToRowAbove_3 ?_
  refine lv_ri (y := zI ((r - 1 : Nat) : Int)) (congrArg zI (by omega)) ?_
  refine lv_iload_n xX xB dX4_joinToRowAbove_4 rfl (lv_at wl 2 rfl) ?_
  refine g_pure (va_runV (As := [.int (zI ((r - 1 : Nat) : Int)), .int (bI cl)]) (rest := []) ⟨xX, xB, xM, xO, xT⟩ (c_X4_firstOfColour l D kI kB h b0 b1 b2 b3 b4 b5 b6 cn FI_ DA P (r - 1) cl (by omega) (hFI (r - 1) (by omega)) d0) (cwV 2 xT gX4_joinToRowAbove_X4_firstOfColour rfl rfl rfl hd_X4_firstOfColour ⟨Nat.le_of_ble_eq_true rfl, Nat.le_of_ble_eq_true rfl⟩) (g_preV (ci := 4) (q0 := 0) wP wD wK [0, 1, 4] (by decide) rfl rfl rfl) rfl rfl wl.1 rfl (lv_room (Nat.le_of_ble_eq_true rfl)) dX4_joinToRowAbove_5 ⟨Nat.le_of_ble_eq_true rfl, Nat.le_of_ble_eq_true rfl⟩) wP wS (fun H locs wP wS => ?_)
  refine lv_istore (lv' := [(4, .int (zI ((foc P (r - 1) cl : Nat) : Int))), (0, .ref h), (1, .int (zI (r : Int))), (2, .int (bI cl)), (3, .int (zI (rc : Int)))]) xX xB dX4_joinToRowAbove_8 wl (by decide) rfl (fun ls wl => ?_)
  refine lv_aload_n xX xB dX4_joinToRowAbove_10 rfl (lv_at wl 1 rfl) ?_
  refine lv_iload_n xX xB dX4_joinToRowAbove_11 rfl (lv_at wl 2 rfl) ?_
  refine lv_iload_n xX xB dX4_joinToRowAbove_12 rfl (lv_at wl 3 rfl) ?_
  refine g_pure (va_runV (As := [.int (zI (r : Int)), .int (bI cl)]) (rest := []) ⟨xX, xB, xM, xO, xT⟩ (c_X4_firstOfColour l D kI kB h b0 b1 b2 b3 b4 b5 b6 cn FI_ DA P r cl hr (hFI r (by omega)) d1) (cwV 2 xT gX4_joinToRowAbove_X4_firstOfColour rfl rfl rfl hd_X4_firstOfColour ⟨Nat.le_of_ble_eq_true rfl, Nat.le_of_ble_eq_true rfl⟩) (g_preV (ci := 4) (q0 := 0) wP wD wK [0, 1, 4] (by decide) rfl rfl rfl) rfl rfl wl.1 rfl (lv_room (Nat.le_of_ble_eq_true rfl)) dX4_joinToRowAbove_13 ⟨Nat.le_of_ble_eq_true rfl, Nat.le_of_ble_eq_true rfl⟩) wP wS (fun H locs wP wS => ?_)
  refine lv_istore (lv' := [(5, .int (zI ((foc P r cl : Nat) : Int))), (4, .int (zI ((foc P (r - 1) cl : Nat) : Int))), (0, .ref h), (1, .int (zI (r : Int))), (2, .int (bI cl)), (3, .int (zI (rc : Int)))]) xX xB dX4_joinToRowAbove_16 wl (by decide) rfl (fun ls wl => ?_)
  refine lv_aload_n xX xB dX4_joinToRowAbove_18 rfl (lv_at wl 2 rfl) ?_
  refine va_get (D := D) (ci := 4) (v := .ref b0) (C := RX4) (T := TX4) (N := 8) xX xB xT in_X4_joinToRowAbove_X4 xO wK.1 wP 0 rfl rfl 0 (by decide) (xT _ (List.mem_of_getElem? (i := 1) rfl)) (fun _ h9 => h9) rfl dX4_joinToRowAbove_19 ?_
  refine lv_iload_n xX xB dX4_joinToRowAbove_22 rfl (lv_at wl 3 rfl) ?_
  refine z_bipush xX xB dX4_joinToRowAbove_23 (by decide) ?_
  refine z_m15 xX xB dX4_joinToRowAbove_25 (by omega) ?_
  refine z_iald xX xB wK wP 1 rfl r rfl (by omega) (Nat.le_of_ble_eq_true rfl) dX4_joinToRowAbove_26 ?_
  refine lv_ri (y := zI ((sR P (16 * r) : Nat) : Int)) (congrArg zI (hFI r (by omega))) ?_
  refine lv_istore (lv' := [(6, .int (zI ((sR P (16 * r) : Nat) : Int))), (5, .int (zI ((foc P r cl : Nat) : Int))), (4, .int (zI ((foc P (r - 1) cl : Nat) : Int))), (0, .ref h), (1, .int (zI (r : Int))), (2, .int (bI cl)), (3, .int (zI (rc : Int)))]) xX xB dX4_joinToRowAbove_27 wl (by decide) rfl (fun ls wl => ?_)
  refine lv_aload_n xX xB dX4_joinToRowAbove_29 rfl (lv_at wl 3 rfl) ?_
  refine va_get (D := D) (ci := 4) (v := .ref b0) (C := RX4) (T := TX4) (N := 8) xX xB xT in_X4_joinToRowAbove_X4 xO wK.1 wP 0 rfl rfl 0 (by decide) (xT _ (List.mem_of_getElem? (i := 1) rfl)) (fun _ h9 => h9) rfl dX4_joinToRowAbove_30 ?_
  refine lv_iload_n xX xB dX4_joinToRowAbove_33 rfl (lv_at wl 4 rfl) ?_
  refine z_bipush xX xB dX4_joinToRowAbove_34 (by decide) ?_
  refine z_m15 xX xB dX4_joinToRowAbove_36 (by omega) ?_
  refine z_iconst xX xB dX4_joinToRowAbove_37 ?_
  refine z_iadd xX xB dX4_joinToRowAbove_38 ?_
  refine z_iald xX xB wK wP 1 rfl (r + 1) (by omega) (by omega) (Nat.le_of_ble_eq_true rfl) dX4_joinToRowAbove_39 ?_
  refine lv_ri (y := zI ((sR P (16 * (r + 1)) : Nat) : Int)) (congrArg zI (hFI (r + 1) (by omega))) ?_
  refine lv_istore (lv' := [(7, .int (zI ((sR P (16 * (r + 1)) : Nat) : Int))), (6, .int (zI ((sR P (16 * r) : Nat) : Int))), (5, .int (zI ((foc P r cl : Nat) : Int))), (4, .int (zI ((foc P (r - 1) cl : Nat) : Int))), (0, .ref h), (1, .int (zI (r : Int))), (2, .int (bI cl)), (3, .int (zI (rc : Int)))]) xX xB dX4_joinToRowAbove_40 wl (by decide) rfl (fun ls wl => ?_)
  have K : ∀ n_ : Nat, ∀ (a : Nat) (b : Nat) (T1 : Nat → Nat) (TW1 : Nat → Int), 516 - (a + b) < n_ → (PtI P (r - 1) cl a) → (PtI P r cl b) → (a ≤ 258) → (b ≤ 258) → (UFI T1 TW1 (sR P 256)) → (SndI P m8 T1) → (CoI P T T1) → (DoneI P T1 r cl rc a b) → ∀ (H : Heap) (locs : List Loc) (ls : Array Slot), va_P D gC [(h, .inr (4, [.ref b0, .ref b1, .ref b2, .ref b3, .ref b4, .ref b5, .ref b6, .int (zI (cn : Int))])), (b0, .inl (kI, 17, .inl (aZ FI_))), (b2, .inl (kI, 256, .inl (aZ SO))), (b3, .inl (kI, 256, .inl (aZ EO))), (b5, .inl (kB, 256, .inl (aB DA))), (b6, .inl (kI, 256, .inl (aZ TW1)))] H → va_D (gA [(h, .inr (4, [.ref b0, .ref b1, .ref b2, .ref b3, .ref b4, .ref b5, .ref b6, .int (zI (cn : Int))])), (b0, .inl (kI, 17, .inl (aZ FI_))), (b2, .inl (kI, 256, .inl (aZ SO))), (b3, .inl (kI, 256, .inl (aZ EO))), (b5, .inl (kB, 256, .inl (aB DA))), (b6, .inl (kI, 256, .inl (aZ TW)))]) [(h, .inr (4, [.ref b0, .ref b1, .ref b2, .ref b3, .ref b4, .ref b5, .ref b6, .int (zI (cn : Int))])), (b0, .inl (kI, 17, .inl (aZ FI_))), (b2, .inl (kI, 256, .inl (aZ SO))), (b3, .inl (kI, 256, .inl (aZ EO))), (b5, .inl (kB, 256, .inl (aB DA))), (b6, .inl (kI, 256, .inl (aZ TW1)))] → va_S (gA [(h, .inr (4, [.ref b0, .ref b1, .ref b2, .ref b3, .ref b4, .ref b5, .ref b6, .int (zI (cn : Int))])), (b0, .inl (kI, 17, .inl (aZ FI_))), (b2, .inl (kI, 256, .inl (aZ SO))), (b3, .inl (kI, 256, .inl (aZ EO))), (b5, .inl (kB, 256, .inl (aB DA))), (b6, .inl (kI, 256, .inl (aZ TW)))]) xs.heap H locs → lv_has ls 8 [(0, .ref h), (1, .int (zI (r : Int))), (2, .int (bI cl)), (3, .int (zI (rc : Int))), (4, .int (zI (a : Int))), (5, .int (zI (b : Int))), (6, .int (zI ((sR P (16 * r) : Nat) : Int))), (7, .int (zI ((sR P (16 * (r + 1)) : Nat) : Int)))] → W xp l xe ({ frames := 2, cells := 0, slots := 0, locals := 47 } : Room) xs xm (List.toArray [.ref h, .int (zI (r : Int)), .int (bI cl), .int (zI (rc : Int))]) xbl xmt xc H locs 0 0 xQ (F0 xm 42 ls []) := by
    intro n_
    induction n_ with
    | zero =>
      intro a b T1 TW1 hme
      exact absurd hme (Nat.not_lt_zero _)
    | succ n_ ihK =>
      intro a b T1 TW1 hme hpa hpb hal hbl hU1 hS1 hC1 hD1 H locs ls wP wD wS wl
      have q0 := sR_le (P := P) (16 * r)
      have q00 := sR_le (P := P) (16 * (r + 1))
      refine lv_iload xX xB dX4_joinToRowAbove_42 (lv_at wl 4 rfl) ?_
      refine lv_iload xX xB dX4_joinToRowAbove_44 (lv_at wl 6 rfl) ?_
      refine z_icmp_ge (tgt := 125) xX xB dX4_joinToRowAbove_46 (by decide) (by omega) (by omega) (fun h46 => ?_) (fun h46 => ?_)
      · skip
        subst hQ
        exact g_vret (T1, TW1) xX xB xR xL wP wS dX4_joinToRowAbove_125 ⟨hU1, hS1, hC1, hD1.all (by omega)⟩
      · skip
        refine lv_iload xX xB dX4_joinToRowAbove_49 (lv_at wl 5 rfl) ?_
        refine lv_iload xX xB dX4_joinToRowAbove_51 (lv_at wl 7 rfl) ?_
        refine z_icmp_ge (tgt := 125) xX xB dX4_joinToRowAbove_53 (by decide) (by omega) (by omega) (fun h53 => ?_) (fun h53 => ?_)
        · skip
          subst hQ
          exact g_vret (T1, TW1) xX xB xR xL wP wS dX4_joinToRowAbove_125 ⟨hU1, hS1, hC1, hD1.all (by omega)⟩
        · skip
          have q1 := sR_mono (P := P) (show 16 * r ≤ 256 by omega)
          have q2 := sR_mono (P := P) (show 16 * (r + 1) ≤ 256 by omega)
          have ha : a < sR P 256 := by omega
          have hb : b < sR P 256 := by omega
          have hda := hpa.2 (by rw [show 16 * (r - 1 + 1) = 16 * r by omega]; omega)
          have hdb := hpb.2 (by omega)
          have hra := (row_iff (P := P) (i := a) (r := r - 1) ha).mp ⟨hpa.1, by rw [show 16 * (r - 1 + 1) = 16 * r by omega]; omega⟩
          have hrb := (row_iff (P := P) (i := b) (r := r) hb).mp ⟨hpb.1, by omega⟩
          refine lv_aload_n xX xB dX4_joinToRowAbove_56 rfl (lv_at wl 0 rfl) ?_
          refine lv_iload xX xB dX4_joinToRowAbove_57 (lv_at wl 4 rfl) ?_
          refine g_pure (va_runV (As := [.int (zI (a : Int))]) (rest := []) ⟨xX, xB, xM, xO, xT⟩ (c_X4_start l D kI kB h b0 b1 b2 b3 b4 b5 b6 cn SO a (by have := sR_le (P := P) 256; omega)) (cwV 1 xT gX4_joinToRowAbove_X4_start rfl rfl rfl hd_X4_start ⟨Nat.le_of_ble_eq_true rfl, Nat.le_of_ble_eq_true rfl⟩) (g_preV (ci := 4) (q0 := 0) wP wD wK [0, 2] (by decide) rfl rfl rfl) rfl rfl wl.1 rfl (lv_room (Nat.le_of_ble_eq_true rfl)) dX4_joinToRowAbove_59 ⟨Nat.le_of_ble_eq_true rfl, Nat.le_of_ble_eq_true rfl⟩) wP wS (fun H locs wP wS => ?_)
          have J11 : ∀ (T2 : Nat → Nat) (TW2 : Nat → Int), (UFI T2 TW2 (sR P 256)) → (SndI P m8 T2) → (CoI P T T2) → (DoneI P T2 r cl rc a b) → (ovl P rc a b → root T2 a = root T2 b) → ∀ (H : Heap) (locs : List Loc) (ls : Array Slot), va_P D gC [(h, .inr (4, [.ref b0, .ref b1, .ref b2, .ref b3, .ref b4, .ref b5, .ref b6, .int (zI (cn : Int))])), (b0, .inl (kI, 17, .inl (aZ FI_))), (b2, .inl (kI, 256, .inl (aZ SO))), (b3, .inl (kI, 256, .inl (aZ EO))), (b5, .inl (kB, 256, .inl (aB DA))), (b6, .inl (kI, 256, .inl (aZ TW2)))] H → va_D (gA [(h, .inr (4, [.ref b0, .ref b1, .ref b2, .ref b3, .ref b4, .ref b5, .ref b6, .int (zI (cn : Int))])), (b0, .inl (kI, 17, .inl (aZ FI_))), (b2, .inl (kI, 256, .inl (aZ SO))), (b3, .inl (kI, 256, .inl (aZ EO))), (b5, .inl (kB, 256, .inl (aB DA))), (b6, .inl (kI, 256, .inl (aZ TW)))]) [(h, .inr (4, [.ref b0, .ref b1, .ref b2, .ref b3, .ref b4, .ref b5, .ref b6, .int (zI (cn : Int))])), (b0, .inl (kI, 17, .inl (aZ FI_))), (b2, .inl (kI, 256, .inl (aZ SO))), (b3, .inl (kI, 256, .inl (aZ EO))), (b5, .inl (kB, 256, .inl (aB DA))), (b6, .inl (kI, 256, .inl (aZ TW2)))] → va_S (gA [(h, .inr (4, [.ref b0, .ref b1, .ref b2, .ref b3, .ref b4, .ref b5, .ref b6, .int (zI (cn : Int))])), (b0, .inl (kI, 17, .inl (aZ FI_))), (b2, .inl (kI, 256, .inl (aZ SO))), (b3, .inl (kI, 256, .inl (aZ EO))), (b5, .inl (kB, 256, .inl (aB DA))), (b6, .inl (kI, 256, .inl (aZ TW)))]) xs.heap H locs → lv_has ls 8 [(0, .ref h), (1, .int (zI (r : Int))), (2, .int (bI cl)), (3, .int (zI (rc : Int))), (4, .int (zI (a : Int))), (5, .int (zI (b : Int))), (6, .int (zI ((sR P (16 * r) : Nat) : Int))), (7, .int (zI ((sR P (16 * (r + 1)) : Nat) : Int)))] → W xp l xe ({ frames := 2, cells := 0, slots := 0, locals := 47 } : Room) xs xm (List.toArray [.ref h, .int (zI (r : Int)), .int (bI cl), .int (zI (rc : Int))]) xbl xmt xc H locs 0 0 xQ (F0 xm 98 ls []) := by
            intro T2 TW2 hU2 hS2 hC2 hD2 hov H locs ls wP wD wS wl
            refine lv_aload_n xX xB dX4_joinToRowAbove_98 rfl (lv_at wl 0 rfl) ?_
            refine lv_iload xX xB dX4_joinToRowAbove_99 (lv_at wl 4 rfl) ?_
            refine g_pure (va_runV (As := [.int (zI (a : Int))]) (rest := []) ⟨xX, xB, xM, xO, xT⟩ (c_X4_end l D kI kB h b0 b1 b2 b3 b4 b5 b6 cn EO a (by have := sR_le (P := P) 256; omega)) (cwV 1 xT gX4_joinToRowAbove_X4_end rfl rfl rfl hd_X4_end ⟨Nat.le_of_ble_eq_true rfl, Nat.le_of_ble_eq_true rfl⟩) (g_preV (ci := 4) (q0 := 0) wP wD wK [0, 3] (by decide) rfl rfl rfl) rfl rfl wl.1 rfl (lv_room (Nat.le_of_ble_eq_true rfl)) dX4_joinToRowAbove_101 ⟨Nat.le_of_ble_eq_true rfl, Nat.le_of_ble_eq_true rfl⟩) wP wS (fun H locs wP wS => ?_)
            refine lv_ri (y := zI ((epl P a % 16 : Nat) : Int)) (congrArg zI (hR a ha).2.1) ?_
            refine lv_aload_n xX xB dX4_joinToRowAbove_104 rfl (lv_at wl 0 rfl) ?_
            refine lv_iload xX xB dX4_joinToRowAbove_105 (lv_at wl 5 rfl) ?_
            refine g_pure (va_runV (As := [.int (zI (b : Int))]) (rest := [.int (zI ((epl P a % 16 : Nat) : Int))]) ⟨xX, xB, xM, xO, xT⟩ (c_X4_end l D kI kB h b0 b1 b2 b3 b4 b5 b6 cn EO b (by have := sR_le (P := P) 256; omega)) (cwV 1 xT gX4_joinToRowAbove_X4_end rfl rfl rfl hd_X4_end ⟨Nat.le_of_ble_eq_true rfl, Nat.le_of_ble_eq_true rfl⟩) (g_preV (ci := 4) (q0 := 0) wP wD wK [0, 3] (by decide) rfl rfl rfl) rfl rfl wl.1 rfl (lv_room (Nat.le_of_ble_eq_true rfl)) dX4_joinToRowAbove_107 ⟨Nat.le_of_ble_eq_true rfl, Nat.le_of_ble_eq_true rfl⟩) wP wS (fun H locs wP wS => ?_)
            refine lv_ri (y := zI ((epl P b % 16 : Nat) : Int)) (congrArg zI (hR b hb).2.1) ?_
            refine z_icmp_ge (tgt := 119) xX xB dX4_joinToRowAbove_110 (by decide) (by omega) (by omega) (fun h110 => ?_) (fun h110 => ?_)
            · skip
              refine lv_iinc (v := zI ((b : Int) + 2)) (lv' := [(5, .int (zI ((b : Int) + 2))), (0, .ref h), (1, .int (zI (r : Int))), (2, .int (bI cl)), (3, .int (zI (rc : Int))), (4, .int (zI (a : Int))), (6, .int (zI ((sR P (16 * r) : Nat) : Int))), (7, .int (zI ((sR P (16 * (r + 1)) : Nat) : Int)))]) xX xB dX4_joinToRowAbove_119 wl (k := 5) rfl (zI_add _ _) (by decide) rfl (fun ls wl => ?_)
              refine lv_goto (tgt := 42) xX xB dX4_joinToRowAbove_122 (by decide) ?_
              exact ihK a (b + 2) T2 TW2 (by omega) hpa (hpb.up hr (by omega)) (by omega) (by omega) hU2 hS2 hC2 (hD2.upB (by rw [hrc]; cases cl <;> cases m8 <;> decide) ha hb (by omega) hrb hda hdb (by omega) hov) _ _ _ wP wD wS (lv_sub wl [1, 2, 3, 4, 5, 0, 6, 7] rfl)
            · skip
              refine lv_iinc (v := zI ((a : Int) + 2)) (lv' := [(4, .int (zI ((a : Int) + 2))), (0, .ref h), (1, .int (zI (r : Int))), (2, .int (bI cl)), (3, .int (zI (rc : Int))), (5, .int (zI (b : Int))), (6, .int (zI ((sR P (16 * r) : Nat) : Int))), (7, .int (zI ((sR P (16 * (r + 1)) : Nat) : Int)))]) xX xB dX4_joinToRowAbove_113 wl (k := 4) rfl (zI_add _ _) (by decide) rfl (fun ls wl => ?_)
              refine lv_goto (tgt := 42) xX xB dX4_joinToRowAbove_116 (by decide) ?_
              exact ihK (a + 2) b T2 TW2 (by omega) (by exact hpa.up (by omega) (by rw [show 16 * (r - 1 + 1) = 16 * r by omega]; omega)) hpb (by omega) (by omega) hU2 hS2 hC2 (hD2.upA (by rw [hrc]; cases cl <;> cases m8 <;> decide) ha hb (by omega) hrb hda hdb (by omega) hov) _ _ _ wP wD wS (lv_sub wl [1, 2, 3, 4, 0, 5, 6, 7] rfl)
          refine lv_ri (y := zI ((spl P a % 16 : Nat) : Int)) (congrArg zI (hR a ha).1) ?_
          refine lv_aload_n xX xB dX4_joinToRowAbove_62 rfl (lv_at wl 0 rfl) ?_
          refine lv_iload xX xB dX4_joinToRowAbove_63 (lv_at wl 5 rfl) ?_
          refine g_pure (va_runV (As := [.int (zI (b : Int))]) (rest := [.int (zI ((spl P a % 16 : Nat) : Int))]) ⟨xX, xB, xM, xO, xT⟩ (c_X4_end l D kI kB h b0 b1 b2 b3 b4 b5 b6 cn EO b (by have := sR_le (P := P) 256; omega)) (cwV 1 xT gX4_joinToRowAbove_X4_end rfl rfl rfl hd_X4_end ⟨Nat.le_of_ble_eq_true rfl, Nat.le_of_ble_eq_true rfl⟩) (g_preV (ci := 4) (q0 := 0) wP wD wK [0, 3] (by decide) rfl rfl rfl) rfl rfl wl.1 rfl (lv_room (Nat.le_of_ble_eq_true rfl)) dX4_joinToRowAbove_65 ⟨Nat.le_of_ble_eq_true rfl, Nat.le_of_ble_eq_true rfl⟩) wP wS (fun H locs wP wS => ?_)
          refine lv_ri (y := zI ((epl P b % 16 : Nat) : Int)) (congrArg zI (hR b hb).2.1) ?_
          refine lv_iload_n xX xB dX4_joinToRowAbove_68 rfl (lv_at wl 3 rfl) ?_
          refine z_iadd xX xB dX4_joinToRowAbove_69 ?_
          refine z_icmp_gt (tgt := 98) xX xB dX4_joinToRowAbove_70 (by decide) (by omega) (by omega) (fun h70 => ?_) (fun h70 => ?_)
          · skip
            exact J11 T1 TW1 hU1 hS1 hC1 hD1 (fun o => absurd o (fun z => by have z1 := z.1; have z2 := z.2; omega)) _ _ _ wP wD wS (lv_sub wl [0, 1, 2, 3, 4, 5, 6, 7] rfl)
          · skip
            refine lv_aload_n xX xB dX4_joinToRowAbove_73 rfl (lv_at wl 0 rfl) ?_
            refine lv_iload xX xB dX4_joinToRowAbove_74 (lv_at wl 5 rfl) ?_
            refine g_pure (va_runV (As := [.int (zI (b : Int))]) (rest := []) ⟨xX, xB, xM, xO, xT⟩ (c_X4_start l D kI kB h b0 b1 b2 b3 b4 b5 b6 cn SO b (by have := sR_le (P := P) 256; omega)) (cwV 1 xT gX4_joinToRowAbove_X4_start rfl rfl rfl hd_X4_start ⟨Nat.le_of_ble_eq_true rfl, Nat.le_of_ble_eq_true rfl⟩) (g_preV (ci := 4) (q0 := 0) wP wD wK [0, 2] (by decide) rfl rfl rfl) rfl rfl wl.1 rfl (lv_room (Nat.le_of_ble_eq_true rfl)) dX4_joinToRowAbove_76 ⟨Nat.le_of_ble_eq_true rfl, Nat.le_of_ble_eq_true rfl⟩) wP wS (fun H locs wP wS => ?_)
            refine lv_ri (y := zI ((spl P b % 16 : Nat) : Int)) (congrArg zI (hR b hb).1) ?_
            refine lv_aload_n xX xB dX4_joinToRowAbove_79 rfl (lv_at wl 0 rfl) ?_
            refine lv_iload xX xB dX4_joinToRowAbove_80 (lv_at wl 4 rfl) ?_
            refine g_pure (va_runV (As := [.int (zI (a : Int))]) (rest := [.int (zI ((spl P b % 16 : Nat) : Int))]) ⟨xX, xB, xM, xO, xT⟩ (c_X4_end l D kI kB h b0 b1 b2 b3 b4 b5 b6 cn EO a (by have := sR_le (P := P) 256; omega)) (cwV 1 xT gX4_joinToRowAbove_X4_end rfl rfl rfl hd_X4_end ⟨Nat.le_of_ble_eq_true rfl, Nat.le_of_ble_eq_true rfl⟩) (g_preV (ci := 4) (q0 := 0) wP wD wK [0, 3] (by decide) rfl rfl rfl) rfl rfl wl.1 rfl (lv_room (Nat.le_of_ble_eq_true rfl)) dX4_joinToRowAbove_82 ⟨Nat.le_of_ble_eq_true rfl, Nat.le_of_ble_eq_true rfl⟩) wP wS (fun H locs wP wS => ?_)
            refine lv_ri (y := zI ((epl P a % 16 : Nat) : Int)) (congrArg zI (hR a ha).2.1) ?_
            refine lv_iload_n xX xB dX4_joinToRowAbove_85 rfl (lv_at wl 3 rfl) ?_
            refine z_iadd xX xB dX4_joinToRowAbove_86 ?_
            refine z_icmp_gt (tgt := 98) xX xB dX4_joinToRowAbove_87 (by decide) (by omega) (by omega) (fun h87 => ?_) (fun h87 => ?_)
            · skip
              exact J11 T1 TW1 hU1 hS1 hC1 hD1 (fun o => absurd o (fun z => by have z1 := z.1; have z2 := z.2; omega)) _ _ _ wP wD wS (lv_sub wl [0, 1, 2, 3, 4, 5, 6, 7] rfl)
            · skip
              refine lv_aload_n xX xB dX4_joinToRowAbove_90 rfl (lv_at wl 0 rfl) ?_
              refine lv_iload xX xB dX4_joinToRowAbove_91 (lv_at wl 4 rfl) ?_
              refine lv_iload xX xB dX4_joinToRowAbove_93 (lv_at wl 5 rfl) ?_
              refine g_modv (va_runV (As := [.int (zI (a : Int)), .int (zI (b : Int))]) (rest := []) ⟨xX, xB, xM, xO, xT⟩ (c_X4_join l D kI kB h b0 b1 b2 b3 b4 b5 b6 cn T1 TW1 (sR P 256) a b hU1 ha hb (sR_le 256)) (cwV 2 xT gX4_joinToRowAbove_X4_join rfl rfl rfl hd_X4_join ⟨Nat.le_of_ble_eq_true rfl, Nat.le_of_ble_eq_true rfl⟩) (g_preV (ci := 4) (q0 := 0) wP wD wK [0, 5] (by decide) rfl rfl rfl) rfl rfl wl.1 rfl (lv_room (Nat.le_of_ble_eq_true rfl)) dX4_joinToRowAbove_95 ⟨Nat.le_of_ble_eq_true rfl, Nat.le_of_ble_eq_true rfl⟩) wP wD wS [0, 5] rfl (fun _ => rfl) (fun u_ H locs hc95 wP wD wS => ?_)
              try dsimp only at hc95
              have wP : va_P D gC [(h, .inr (4, [.ref b0, .ref b1, .ref b2, .ref b3, .ref b4, .ref b5, .ref b6, .int (zI (cn : Int))])), (b0, .inl (kI, 17, .inl (aZ FI_))), (b2, .inl (kI, 256, .inl (aZ SO))), (b3, .inl (kI, 256, .inl (aZ EO))), (b5, .inl (kB, 256, .inl (aB DA))), (b6, .inl (kI, 256, .inl (aZ (uZ TW1 (max (root T1 a) (root T1 b)) ((min (root T1 a) (root T1 b) : Nat) : Int)))))] H := wP
              have wD : va_D (gA [(h, .inr (4, [.ref b0, .ref b1, .ref b2, .ref b3, .ref b4, .ref b5, .ref b6, .int (zI (cn : Int))])), (b0, .inl (kI, 17, .inl (aZ FI_))), (b2, .inl (kI, 256, .inl (aZ SO))), (b3, .inl (kI, 256, .inl (aZ EO))), (b5, .inl (kB, 256, .inl (aB DA))), (b6, .inl (kI, 256, .inl (aZ TW)))]) [(h, .inr (4, [.ref b0, .ref b1, .ref b2, .ref b3, .ref b4, .ref b5, .ref b6, .int (zI (cn : Int))])), (b0, .inl (kI, 17, .inl (aZ FI_))), (b2, .inl (kI, 256, .inl (aZ SO))), (b3, .inl (kI, 256, .inl (aZ EO))), (b5, .inl (kB, 256, .inl (aB DA))), (b6, .inl (kI, 256, .inl (aZ (uZ TW1 (max (root T1 a) (root T1 b)) ((min (root T1 a) (root T1 b) : Nat) : Int)))))] := wD
              have hcn : Cn P m8 (spl P a) (spl P b) := ovl_cn ha hb (by omega) (by rw [hda, hdb]) (by rw [hda, ← hrc]; exact ⟨by omega, by omega⟩)
              exact J11 (uN T1 (max (root T1 a) (root T1 b)) (min (root T1 a) (root T1 b))) (uZ TW1 (max (root T1 a) (root T1 b)) ((min (root T1 a) (root T1 b) : Nat) : Int)) (hU1.join _ _) (hS1.join (fun j hj => (hU1 j hj).2) ha hb hcn) (hC1.tr (CoI.join T1 a b)) (hD1.co (CoI.join T1 a b)) (fun _ => root_one T1 a b) _ _ _ wP wD wS (lv_sub wl [0, 1, 2, 3, 4, 5, 6, 7] rfl)
  exact K _ (foc P (r - 1) cl) (foc P r cl) T TW (Nat.lt_succ_self _) (foc_pt (by omega)) (foc_pt hr) (by omega) (by omega) hU hS (CoI.rf T) (DoneI.z hr1 fa (fun i h1 h2 h3 => foc_no (by omega) h1 h2 (by omega)) (fun j h1 h2 h3 => foc_no hr h1 h2 h3)) _ _ _ wP wD wS (lv_sub wl [4, 5, 6, 7, 3, 2, 1, 0] rfl)
