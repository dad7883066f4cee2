theorem settle_s {T : Nat → Nat} {TW TW1 : Nat → Int} {n i : Nat} (hU : UFI T TW n) (hi : i < n) (hA : ∀ j, j < i → TW1 j = ((root T j : Nat) : Int)) (hB : ∀ j, i ≤ j → TW1 j = TW j) : ∀ j, j < i + 1 → uZ TW1 i (TW1 (T i)) j = ((root T j : Nat) : Int) := by
  intro j hj
  by_cases q : j = i
  · subst q
    rw [uZ_s, root_eq]
    by_cases e : T j < j
    · rw [if_pos e, hA _ e]
    · have l := hU j hi
      have e2 : T j = j := by omega
      rw [if_neg e, e2, hB j (Nat.le_refl _), l.1, e2]
  · rw [uZ_n _ _ q]; exact hA j (by omega)
set_option maxRecDepth 20000 in
theorem in_X4_settle_X4 : ∀ w ∈ u_ws RX4 TX4 8, w ∈ wsX4_settle := by decide +kernel
set_option maxRecDepth 20000 in
theorem in_X4_darkGroups_X4 : ∀ w ∈ u_ws RX4 TX4 8, w ∈ wsX4_darkGroups := by decide +kernel
set_option maxRecDepth 20000 in
theorem in_X4_read_X4 : ∀ w ∈ u_ws RX4 TX4 8, w ∈ wsX4_read := by decide +kernel
theorem hd_X4_groupOf : yX4_groupOf.cls = RX4 ∧ yX4_groupOf.cls ≠ "java/lang/invoke/MethodHandle" ∧ yX4_groupOf.cls ≠ "java/lang/invoke/VarHandle" ∧ (parseMethodDescriptor yX4_groupOf.desc).map (fun d => d.parameters.length) = some 1 := by decide +kernel
theorem hd_X4_settle : yX4_settle.cls = RX4 ∧ yX4_settle.cls ≠ "java/lang/invoke/MethodHandle" ∧ yX4_settle.cls ≠ "java/lang/invoke/VarHandle" ∧ (parseMethodDescriptor yX4_settle.desc).map (fun d => d.parameters.length) = some 0 := by decide +kernel
theorem hd_X4_joinToRowAbove : yX4_joinToRowAbove.cls = RX4 ∧ yX4_joinToRowAbove.cls ≠ "java/lang/invoke/MethodHandle" ∧ yX4_joinToRowAbove.cls ≠ "java/lang/invoke/VarHandle" ∧ (parseMethodDescriptor yX4_joinToRowAbove.desc).map (fun d => d.parameters.length) = some 3 := by decide +kernel
theorem hd_X4_cut : yX4_cut.cls = RX4 ∧ yX4_cut.cls ≠ "java/lang/invoke/MethodHandle" ∧ yX4_cut.cls ≠ "java/lang/invoke/VarHandle" ∧ (parseMethodDescriptor yX4_cut.desc).map (fun d => d.parameters.length) = some 2 := by decide +kernel
set_option maxHeartbeats 4000000 in
set_option maxRecDepth 100000 in
theorem c_X4_settle (l : Launch) (D : va_G) (kI kB : ClassId) (h : Nat) (b0 : Nat) (b1 : Nat) (b2 : Nat) (b3 : Nat) (b4 : Nat) (b5 : Nat) (b6 : Nat) (cn : Nat) (T : Nat → Nat) (TW : Nat → Int) (hU : UFI T TW cn) (hn : cn ≤ 256) : gV l yX4_settle wsX4_settle ({ frames := 1, cells := 0, slots := 0, locals := 21 } : Room) D kI kB [.ref h] [(h, .inr (4, [.ref b0, .ref b1, .ref b2, .ref b3, .ref b4, .ref b5, .ref b6, .int (zI (cn : Int))])), (b6, .inl (kI, 256, .inl (aZ TW)))] (fun (TW1 : Nat → Int) => [(h, .inr (4, [.ref b0, .ref b1, .ref b2, .ref b3, .ref b4, .ref b5, .ref b6, .int (zI (cn : Int))])), (b6, .inl (kI, 256, .inl (aZ TW1)))]) (fun (TW1 : Nat → Int) => ∀ j, j < cn → TW1 j = ((root T j : Nat) : Int)) := by
  refine g_start (cc := cX4_settle) (maxL := 2) (ret := none) (by decide) rfl (Nat.le_of_ble_eq_true rfl) ?_
  intro xp xe xs xm xbl xmt xc xX xB xR xM xT xO xL xN wP wD wK ls wl
  have wS : va_S (gA [(h, .inr (4, [.ref b0, .ref b1, .ref b2, .ref b3, .ref b4, .ref b5, .ref b6, .int (zI (cn : Int))])), (b6, .inl (kI, 256, .inl (aZ TW)))]) xs.heap xs.heap [] := va_S.rf
  have wl : lv_has ls 2 [(0, .ref h)] := wl
  generalize hQ : MQ xbl _ _ xs 0 0 _ = xQ
  refine z_iconst xX xB dX4_settle_0 ?_
  refine lv_istore_n (lv' := [(1, .int (zI 0)), (0, .ref h)]) xX xB dX4_settle_1 rfl wl (by decide) rfl (fun ls wl => ?_)
  have K : ∀ n_ : Nat, ∀ (i : Nat) (TW1 : Nat → Int), cn - i < n_ → (i ≤ cn) → (∀ j, j < i → TW1 j = ((root T j : Nat) : Int)) → (∀ j, i ≤ j → TW1 j = TW j) → ∀ (H : Heap) (locs : List Loc) (ls : Array Slot), va_P D gC [(h, .inr (4, [.ref b0, .ref b1, .ref b2, .ref b3, .ref b4, .ref b5, .ref b6, .int (zI (cn : Int))])), (b6, .inl (kI, 256, .inl (aZ TW1)))] H → va_D (gA [(h, .inr (4, [.ref b0, .ref b1, .ref b2, .ref b3, .ref b4, .ref b5, .ref b6, .int (zI (cn : Int))])), (b6, .inl (kI, 256, .inl (aZ TW)))]) [(h, .inr (4, [.ref b0, .ref b1, .ref b2, .ref b3, .ref b4, .ref b5, .ref b6, .int (zI (cn : Int))])), (b6, .inl (kI, 256, .inl (aZ TW1)))] → va_S (gA [(h, .inr (4, [.ref b0, .ref b1, .ref b2, .ref b3, .ref b4, .ref b5, .ref b6, .int (zI (cn : Int))])), (b6, .inl (kI, 256, .inl (aZ TW)))]) xs.heap H locs → lv_has ls 2 [(0, .ref h), (1, .int (zI (i : Int)))] → W xp l xe ({ frames := 1, cells := 0, slots := 0, locals := 21 } : Room) xs xm (List.toArray [.ref h]) xbl xmt xc H locs 0 0 xQ (F0 xm 2 ls []) := by
    intro n_
    induction n_ with
    | zero =>
      intro i TW1 hme
      exact absurd hme (Nat.not_lt_zero _)
    | succ n_ ihK =>
      intro i TW1 hme hi hA hB H locs ls wP wD wS wl
      refine lv_iload_n xX xB dX4_settle_2 rfl (lv_at wl 1 rfl) ?_
      refine lv_aload_n xX xB dX4_settle_3 rfl (lv_at wl 0 rfl) ?_
      refine va_get (D := D) (ci := 4) (v := .int (zI (cn : Int))) (C := RX4) (T := TX4) (N := 8) xX xB xT in_X4_settle_X4 xO wK.1 wP 0 rfl rfl 7 (by decide) (xT _ (List.mem_of_getElem? (i := 1) rfl)) (fun _ h9 => h9) rfl dX4_settle_4 ?_
      refine z_icmp_ge (tgt := 39) xX xB dX4_settle_7 (by decide) (by omega) (by omega) (fun h7 => ?_) (fun h7 => ?_)
      · skip
        subst hQ
        exact g_vret TW1 xX xB xR xL wP wS dX4_settle_39 (fun j hj => hA j (by omega))
      · skip
        refine lv_iload_n xX xB dX4_settle_10 rfl (lv_at wl 1 rfl) ?_
        refine z_sipush xX xB dX4_settle_11 (by decide) ?_
        refine z_icmp_ge (tgt := 39) xX xB dX4_settle_14 (by decide) (by omega) (by omega) (fun h14 => ?_) (fun h14 => ?_)
        · skip
          subst hQ
          exact g_vret TW1 xX xB xR xL wP wS dX4_settle_39 (fun j hj => hA j (by omega))
        · skip
          refine lv_aload_n xX xB dX4_settle_17 rfl (lv_at wl 0 rfl) ?_
          refine va_get (D := D) (ci := 4) (v := .ref b6) (C := RX4) (T := TX4) (N := 8) xX xB xT in_X4_settle_X4 xO wK.1 wP 0 rfl rfl 6 (by decide) (xT _ (List.mem_of_getElem? (i := 2) rfl)) (fun _ h9 => h9) rfl dX4_settle_18 ?_
          refine lv_iload_n xX xB dX4_settle_21 rfl (lv_at wl 1 rfl) ?_
          refine lv_aload_n xX xB dX4_settle_22 rfl (lv_at wl 0 rfl) ?_
          refine lv_aload_n xX xB dX4_settle_23 rfl (lv_at wl 0 rfl) ?_
          refine va_get (D := D) (ci := 4) (v := .ref b6) (C := RX4) (T := TX4) (N := 8) xX xB xT in_X4_settle_X4 xO wK.1 wP 0 rfl rfl 6 (by decide) (xT _ (List.mem_of_getElem? (i := 2) rfl)) (fun _ h9 => h9) rfl dX4_settle_24 ?_
          refine lv_iload_n xX xB dX4_settle_27 rfl (lv_at wl 1 rfl) ?_
          refine z_iald xX xB wK wP 1 rfl i rfl (by omega) (Nat.le_of_ble_eq_true rfl) dX4_settle_28 ?_
          refine lv_ri (y := zI ((T i : Nat) : Int)) (congrArg zI ((hB i (Nat.le_refl _)).trans (hU i (by omega)).1)) ?_
          refine g_pure (va_runV (As := [.int (zI ((T i : Nat) : Int))]) (rest := [.int (zI (i : Int)), .ref b6]) ⟨xX, xB, xM, xO, xT⟩ (c_X4_groupOf l D kI kB h b0 b1 b2 b3 b4 b5 b6 cn TW1 (T i) (by have := (hU i (by omega)).2; omega)) (cwV 1 xT gX4_settle_X4_groupOf rfl rfl rfl hd_X4_groupOf ⟨Nat.le_of_ble_eq_true rfl, Nat.le_of_ble_eq_true rfl⟩) (g_preV (ci := 4) (q0 := 0) wP wD wK [0, 1] (by decide) rfl rfl rfl) rfl rfl wl.1 rfl (lv_room (Nat.le_of_ble_eq_true rfl)) dX4_settle_29 ⟨Nat.le_of_ble_eq_true rfl, Nat.le_of_ble_eq_true rfl⟩) wP wS (fun H locs wP wS => ?_)
          refine z_iast xX xB wK wP wD wS 1 rfl i rfl (by omega) (Nat.le_of_ble_eq_true rfl) dX4_settle_32 (fun H locs wP wD wS => ?_)
          have wP : va_P D gC [(h, .inr (4, [.ref b0, .ref b1, .ref b2, .ref b3, .ref b4, .ref b5, .ref b6, .int (zI (cn : Int))])), (b6, .inl (kI, 256, .inl (aZ (uZ TW1 i (TW1 (T i))))))] H := wP
          have wD : va_D (gA [(h, .inr (4, [.ref b0, .ref b1, .ref b2, .ref b3, .ref b4, .ref b5, .ref b6, .int (zI (cn : Int))])), (b6, .inl (kI, 256, .inl (aZ TW)))]) [(h, .inr (4, [.ref b0, .ref b1, .ref b2, .ref b3, .ref b4, .ref b5, .ref b6, .int (zI (cn : Int))])), (b6, .inl (kI, 256, .inl (aZ (uZ TW1 i (TW1 (T i))))))] := wD
          refine lv_iinc (v := zI ((i : Int) + 1)) (lv' := [(1, .int (zI ((i : Int) + 1))), (0, .ref h)]) xX xB dX4_settle_33 wl (k := 1) rfl (zI_add _ _) (by decide) rfl (fun ls wl => ?_)
          refine lv_goto (tgt := 2) xX xB dX4_settle_36 (by decide) ?_
          exact ihK (i + 1) (uZ TW1 i (TW1 (T i))) (by omega) (by omega) (settle_s hU (by omega) hA hB) (fun j hj => by rw [uZ_n _ _ (by omega)]; exact hB j (by omega)) _ _ _ wP wD wS (lv_sub wl [1, 0] rfl)
  exact K _ 0 TW (Nat.lt_succ_self _) (by omega) (fun j hj => absurd hj (Nat.not_lt_zero j)) (fun j _ => rfl) _ _ _ wP wD wS (lv_sub wl [1, 0] rfl)

set_option maxHeartbeats 4000000 in
set_option maxRecDepth 100000 in
theorem c_X4_darkGroups (l : Launch) (D : va_G) (kI kB : ClassId) (h : Nat) (b0 : Nat) (b1 : Nat) (b2 : Nat) (b3 : Nat) (b4 : Nat) (b5 : Nat) (b6 : Nat) (cn : Nat) (DA : Nat → Bool) (TW : Nat → Int) (hn : cn ≤ 256) (hTb : ∀ j, j < cn → -2147483648 ≤ TW j ∧ TW j ≤ 2147483647) : gI l yX4_darkGroups wsX4_darkGroups ({ frames := 0, cells := 0, slots := 0, locals := 0 } : Room) D kI kB [.ref h] [(h, .inr (4, [.ref b0, .ref b1, .ref b2, .ref b3, .ref b4, .ref b5, .ref b6, .int (zI (cn : Int))])), (b5, .inl (kB, 256, .inl (aB DA))), (b6, .inl (kI, 256, .inl (aZ TW)))] (zI ((fb_ct (fun i => DA i && decide (TW i = (i : Int))) cn : Nat) : Int)) := by
  refine g_start (cc := cX4_darkGroups) (maxL := 3) (ret := (some .int)) (by decide) rfl (Nat.le_of_ble_eq_true rfl) ?_
  intro xp xe xs xm xbl xmt xc xX xB xR xM xT xO xL xN wP wD wK ls wl
  have wS : va_S (fun _ => False) xs.heap xs.heap [] := va_S.rf
  have wl : lv_has ls 3 [(0, .ref h)] := wl
  generalize hQ : MQ xbl _ _ xs 0 0 _ = xQ
  refine z_iconst xX xB dX4_darkGroups_0 ?_
  refine lv_istore_n (lv' := [(1, .int (zI 0)), (0, .ref h)]) xX xB dX4_darkGroups_1 rfl wl (by decide) rfl (fun ls wl => ?_)
  refine z_iconst xX xB dX4_darkGroups_2 ?_
  refine lv_istore_n (lv' := [(2, .int (zI 0)), (1, .int (zI 0)), (0, .ref h)]) xX xB dX4_darkGroups_3 rfl wl (by decide) rfl (fun ls wl => ?_)
  have K : ∀ n_ : Nat, ∀ (i : Nat) (t : Nat), cn - i < n_ → (i ≤ cn) → (t = fb_ct (fun i => DA i && decide (TW i = (i : Int))) i) → ∀ (H : Heap) (locs : List Loc) (ls : Array Slot), va_P D gC [(h, .inr (4, [.ref b0, .ref b1, .ref b2, .ref b3, .ref b4, .ref b5, .ref b6, .int (zI (cn : Int))])), (b5, .inl (kB, 256, .inl (aB DA))), (b6, .inl (kI, 256, .inl (aZ TW)))] H → va_S (fun _ => False) xs.heap H locs → lv_has ls 3 [(0, .ref h), (1, .int (zI (t : Int))), (2, .int (zI (i : Int)))] → W xp l xe ({ frames := 0, cells := 0, slots := 0, locals := 0 } : Room) xs xm (List.toArray [.ref h]) xbl xmt xc H locs 0 0 xQ (F0 xm 4 ls []) := by
    intro n_
    induction n_ with
    | zero =>
      intro i t hme
      exact absurd hme (Nat.not_lt_zero _)
    | succ n_ ihK =>
      intro i t hme hi ht H locs ls wP wS wl
      have htb := fb_ct_le (fun i => DA i && decide (TW i = (i : Int))) i
      refine lv_iload_n xX xB dX4_darkGroups_4 rfl (lv_at wl 2 rfl) ?_
      refine lv_aload_n xX xB dX4_darkGroups_5 rfl (lv_at wl 0 rfl) ?_
      refine va_get (D := D) (ci := 4) (v := .int (zI (cn : Int))) (C := RX4) (T := TX4) (N := 8) xX xB xT in_X4_darkGroups_X4 xO wK.1 wP 0 rfl rfl 7 (by decide) (xT _ (List.mem_of_getElem? (i := 1) rfl)) (fun _ h9 => h9) rfl dX4_darkGroups_6 ?_
      refine z_icmp_ge (tgt := 52) xX xB dX4_darkGroups_9 (by decide) (by omega) (by omega) (fun h9 => ?_) (fun h9 => ?_)
      · skip
        refine lv_iload_n xX xB dX4_darkGroups_52 rfl (lv_at wl 1 rfl) ?_
        subst hQ
        exact g_iret xX xB xR xL wS dX4_darkGroups_53 (congrArg (fun z : Nat => zI (z : Int)) (by rw [ht, show i = cn by omega]))
      · skip
        refine lv_iload_n xX xB dX4_darkGroups_12 rfl (lv_at wl 2 rfl) ?_
        refine z_sipush xX xB dX4_darkGroups_13 (by decide) ?_
        refine z_icmp_ge (tgt := 52) xX xB dX4_darkGroups_16 (by decide) (by omega) (by omega) (fun h16 => ?_) (fun h16 => ?_)
        · skip
          refine lv_iload_n xX xB dX4_darkGroups_52 rfl (lv_at wl 1 rfl) ?_
          subst hQ
          exact g_iret xX xB xR xL wS dX4_darkGroups_53 (congrArg (fun z : Nat => zI (z : Int)) (by rw [ht, show i = cn by omega]))
        · skip
          refine lv_iload_n xX xB dX4_darkGroups_19 rfl (lv_at wl 1 rfl) ?_
          refine lv_aload_n xX xB dX4_darkGroups_20 rfl (lv_at wl 0 rfl) ?_
          refine va_get (D := D) (ci := 4) (v := .ref b5) (C := RX4) (T := TX4) (N := 8) xX xB xT in_X4_darkGroups_X4 xO wK.1 wP 0 rfl rfl 5 (by decide) (xT _ (List.mem_of_getElem? (i := 2) rfl)) (fun _ h9 => h9) rfl dX4_darkGroups_21 ?_
          refine lv_iload_n xX xB dX4_darkGroups_24 rfl (lv_at wl 2 rfl) ?_
          refine z_bald xX xB wK wP 1 rfl i rfl (by omega) (Nat.le_of_ble_eq_true rfl) dX4_darkGroups_25 ?_
          refine b_if_eq (tgt := 43) xX xB dX4_darkGroups_26 (by decide) (fun h26 => ?_) (fun h26 => ?_)
          · skip
            refine z_iconst xX xB dX4_darkGroups_43 ?_
            refine z_iadd xX xB dX4_darkGroups_44 ?_
            refine lv_istore_n (lv' := [(1, .int (zI ((t : Int) + 0))), (0, .ref h), (2, .int (zI (i : Int)))]) xX xB dX4_darkGroups_45 rfl wl (by decide) rfl (fun ls wl => ?_)
            refine lv_iinc (v := zI ((i : Int) + 1)) (lv' := [(2, .int (zI ((i : Int) + 1))), (1, .int (zI ((t : Int) + 0))), (0, .ref h)]) xX xB dX4_darkGroups_46 wl (k := 2) rfl (zI_add _ _) (by decide) rfl (fun ls wl => ?_)
            refine lv_goto (tgt := 4) xX xB dX4_darkGroups_49 (by decide) ?_
            exact ihK (i + 1) (t + 0) (by omega) (by omega) (by rw [ht]; show _ = fb_ct _ i + (if (DA i && decide (TW i = (i : Int))) = true then 1 else 0); rw [h26]; rfl) _ _ _ wP wS (lv_sub wl [2, 1, 0] rfl)
          · skip
            refine lv_aload_n xX xB dX4_darkGroups_29 rfl (lv_at wl 0 rfl) ?_
            refine va_get (D := D) (ci := 4) (v := .ref b6) (C := RX4) (T := TX4) (N := 8) xX xB xT in_X4_darkGroups_X4 xO wK.1 wP 0 rfl rfl 6 (by decide) (xT _ (List.mem_of_getElem? (i := 3) rfl)) (fun _ h9 => h9) rfl dX4_darkGroups_30 ?_
            refine lv_iload_n xX xB dX4_darkGroups_33 rfl (lv_at wl 2 rfl) ?_
            refine z_iald xX xB wK wP 2 rfl i rfl (by omega) (Nat.le_of_ble_eq_true rfl) dX4_darkGroups_34 ?_
            refine lv_iload_n xX xB dX4_darkGroups_35 rfl (lv_at wl 2 rfl) ?_
            refine t_icmp_ne xX xB dX4_darkGroups_36 dX4_darkGroups_39 dX4_darkGroups_40 dX4_darkGroups_43 (hTb i (by omega)) (by omega) ?_
            refine lv_ri (bI_Z _) ?_
            refine z_iadd xX xB dX4_darkGroups_44 ?_
            refine lv_istore_n (lv' := [(1, .int (zI ((t : Int) + ((bZ (decide (TW i = (i : Int))) : Nat) : Int)))), (0, .ref h), (2, .int (zI (i : Int)))]) xX xB dX4_darkGroups_45 rfl wl (by decide) rfl (fun ls wl => ?_)
            refine lv_iinc (v := zI ((i : Int) + 1)) (lv' := [(2, .int (zI ((i : Int) + 1))), (1, .int (zI ((t : Int) + ((bZ (decide (TW i = (i : Int))) : Nat) : Int)))), (0, .ref h)]) xX xB dX4_darkGroups_46 wl (k := 2) rfl (zI_add _ _) (by decide) rfl (fun ls wl => ?_)
            refine lv_goto (tgt := 4) xX xB dX4_darkGroups_49 (by decide) ?_
            exact ihK (i + 1) (t + (bZ (decide (TW i = (i : Int))))) (by omega) (by omega) (by rw [ht]; show _ = fb_ct _ i + (if (DA i && decide (TW i = (i : Int))) = true then 1 else 0); rw [h26, Bool.true_and]; unfold bZ; rfl) _ _ _ wP wS (lv_sub wl [2, 1, 0] rfl)
  exact K _ 0 0 (Nat.lt_succ_self _) (by omega) rfl _ _ _ wP wS (lv_sub wl [2, 1, 0] rfl)

set_option maxHeartbeats 4000000 in
set_option maxRecDepth 100000 in
theorem c_X4_read (l : Launch) (D : va_G) (kI kB : ClassId) (h : Nat) (b0 : Nat) (b1 : Nat) (b2 : Nat) (b3 : Nat) (b4 : Nat) (b5 : Nat) (b6 : Nat) (cn : Nat) (FI_ : Nat → Int) (CH_ : Nat → Int) (SO : Nat → Int) (EO : Nat → Int) (RO : Nat → Int) (DA : Nat → Bool) (TW : Nat → Int) (pp : Nat) (q1 : Nat) (q2 : Nat) (F : Nat → Int) (jb : Int) (P : Nat → Nat) (hF : Pic F P) (rj : -2147483648 ≤ jb ∧ jb ≤ 2147483647) : gV l yX4_read wsX4_read ({ frames := 3, cells := 0, slots := 0, locals := 74 } : Room) D kI kB [.ref h, .ref pp] [(h, .inr (4, [.ref b0, .ref b1, .ref b2, .ref b3, .ref b4, .ref b5, .ref b6, .int (zI (cn : Int))])), (b0, .inl (kI, 17, .inl (aZ FI_))), (b1, .inl (kI, 16, .inl (aZ CH_))), (b2, .inl (kI, 256, .inl (aZ SO))), (b3, .inl (kI, 256, .inl (aZ EO))), (b4, .inl (kI, 256, .inl (aZ RO))), (b5, .inl (kB, 256, .inl (aB DA))), (b6, .inl (kI, 256, .inl (aZ TW))), (pp, .inr (3, [.ref q1, .ref q2, .int (zI jb)])), (q1, .inl (kI, 16, .inl (aZ F)))] (fun (w_ : (Nat → Int) × (Nat → Int) × (Nat → Int) × (Nat → Int) × (Nat → Int) × (Nat → Bool) × (Nat → Int)) => [(h, .inr (4, [.ref b0, .ref b1, .ref b2, .ref b3, .ref b4, .ref b5, .ref b6, .int (zI ((sR P 256 : Nat) : Int))])), (b0, .inl (kI, 17, .inl (aZ (w_.1)))), (b1, .inl (kI, 16, .inl (aZ (w_.2.1)))), (b2, .inl (kI, 256, .inl (aZ (w_.2.2.1)))), (b3, .inl (kI, 256, .inl (aZ (w_.2.2.2.1)))), (b4, .inl (kI, 256, .inl (aZ (w_.2.2.2.2.1)))), (b5, .inl (kB, 256, .inl (aB (w_.2.2.2.2.2.1)))), (b6, .inl (kI, 256, .inl (aZ (w_.2.2.2.2.2.2)))), (pp, .inr (3, [.ref q1, .ref q2, .int (zI jb)])), (q1, .inl (kI, 16, .inl (aZ F)))]) (fun (w_ : (Nat → Int) × (Nat → Int) × (Nat → Int) × (Nat → Int) × (Nat → Int) × (Nat → Bool) × (Nat → Int)) => RunsOK P (decide (jb = 8)) (w_.1) (w_.2.1) (w_.2.2.1) (w_.2.2.2.1) (w_.2.2.2.2.1) (w_.2.2.2.2.2.1) (w_.2.2.2.2.2.2)) := by
  refine g_start (cc := cX4_read) (maxL := 4) (ret := none) (by decide) rfl (Nat.le_of_ble_eq_true rfl) ?_
  intro xp xe xs xm xbl xmt xc xX xB xR xM xT xO xL xN wP wD wK ls wl
  have wS : va_S (gA [(h, .inr (4, [.ref b0, .ref b1, .ref b2, .ref b3, .ref b4, .ref b5, .ref b6, .int (zI (cn : Int))])), (b0, .inl (kI, 17, .inl (aZ FI_))), (b1, .inl (kI, 16, .inl (aZ CH_))), (b2, .inl (kI, 256, .inl (aZ SO))), (b3, .inl (kI, 256, .inl (aZ EO))), (b4, .inl (kI, 256, .inl (aZ RO))), (b5, .inl (kB, 256, .inl (aB DA))), (b6, .inl (kI, 256, .inl (aZ TW))), (pp, .inr (3, [.ref q1, .ref q2, .int (zI jb)])), (q1, .inl (kI, 16, .inl (aZ F)))]) xs.heap xs.heap [] := va_S.rf
  have wl : lv_has ls 4 [(0, .ref h), (1, .ref pp)] := wl
  generalize hQ : MQ xbl _ _ xs 0 0 _ = xQ
  refine lv_aload_n xX xB dX4_read_0 rfl (lv_at wl 0 rfl) ?_
  refine z_iconst xX xB dX4_read_1 ?_
  refine va_put (D := D) (ci := 4) (v := .int (zI 0)) (ty := .int) (C := RX4) (T := TX4) (N := 8) xX xB xT in_X4_read_X4 tyX4 tyX4_ok nmX4 xO wK.1 wP wD wS 0 rfl rfl 7 (by decide) (xT _ (List.mem_of_getElem? (i := 1) rfl)) (fun _ h9 => h9) rfl (by decide +kernel) rfl rfl (Nat.le_of_ble_eq_true rfl) dX4_read_2 (fun H locs wP wD wS => ?_)
  have wP : va_P D gC [(h, .inr (4, [.ref b0, .ref b1, .ref b2, .ref b3, .ref b4, .ref b5, .ref b6, .int (zI 0)])), (b0, .inl (kI, 17, .inl (aZ FI_))), (b1, .inl (kI, 16, .inl (aZ CH_))), (b2, .inl (kI, 256, .inl (aZ SO))), (b3, .inl (kI, 256, .inl (aZ EO))), (b4, .inl (kI, 256, .inl (aZ RO))), (b5, .inl (kB, 256, .inl (aB DA))), (b6, .inl (kI, 256, .inl (aZ TW))), (pp, .inr (3, [.ref q1, .ref q2, .int (zI jb)])), (q1, .inl (kI, 16, .inl (aZ F)))] H := wP
  have wD : va_D (gA [(h, .inr (4, [.ref b0, .ref b1, .ref b2, .ref b3, .ref b4, .ref b5, .ref b6, .int (zI (cn : Int))])), (b0, .inl (kI, 17, .inl (aZ FI_))), (b1, .inl (kI, 16, .inl (aZ CH_))), (b2, .inl (kI, 256, .inl (aZ SO))), (b3, .inl (kI, 256, .inl (aZ EO))), (b4, .inl (kI, 256, .inl (aZ RO))), (b5, .inl (kB, 256, .inl (aB DA))), (b6, .inl (kI, 256, .inl (aZ TW))), (pp, .inr (3, [.ref q1, .ref q2, .int (zI jb)])), (q1, .inl (kI, 16, .inl (aZ F)))]) [(h, .inr (4, [.ref b0, .ref b1, .ref b2, .ref b3, .ref b4, .ref b5, .ref b6, .int (zI 0)])), (b0, .inl (kI, 17, .inl (aZ FI_))), (b1, .inl (kI, 16, .inl (aZ CH_))), (b2, .inl (kI, 256, .inl (aZ SO))), (b3, .inl (kI, 256, .inl (aZ EO))), (b4, .inl (kI, 256, .inl (aZ RO))), (b5, .inl (kB, 256, .inl (aB DA))), (b6, .inl (kI, 256, .inl (aZ TW))), (pp, .inr (3, [.ref q1, .ref q2, .int (zI jb)])), (q1, .inl (kI, 16, .inl (aZ F)))] := wD
  refine z_iconst xX xB dX4_read_5 ?_
  refine lv_istore_n (lv' := [(2, .int (zI 0)), (0, .ref h), (1, .ref pp)]) xX xB dX4_read_6 rfl wl (by decide) rfl (fun ls wl => ?_)
  have K : ∀ n_ : Nat, ∀ (r : Nat) (FI1 : Nat → Int) (CH1 : Nat → Int) (SO1 : Nat → Int) (EO1 : Nat → Int) (RO1 : Nat → Int) (DA1 : Nat → Bool) (TW1 : Nat → Int), 16 - r < n_ → (r ≤ 16) → (RecI P (sR P (16 * r)) SO1 EO1 RO1 DA1) → (∀ j, j < sR P (16 * r) → TW1 j = (j : Int)) → (∀ k, k < r → FI1 k = ((sR P (16 * k) : Nat) : Int)) → (∀ k, k < r → CH1 k = ((chN P k : Nat) : Int)) → ∀ (H : Heap) (locs : List Loc) (ls : Array Slot), va_P D gC [(h, .inr (4, [.ref b0, .ref b1, .ref b2, .ref b3, .ref b4, .ref b5, .ref b6, .int (zI ((sR P (16 * r) : Nat) : Int))])), (b0, .inl (kI, 17, .inl (aZ FI1))), (b1, .inl (kI, 16, .inl (aZ CH1))), (b2, .inl (kI, 256, .inl (aZ SO1))), (b3, .inl (kI, 256, .inl (aZ EO1))), (b4, .inl (kI, 256, .inl (aZ RO1))), (b5, .inl (kB, 256, .inl (aB DA1))), (b6, .inl (kI, 256, .inl (aZ TW1))), (pp, .inr (3, [.ref q1, .ref q2, .int (zI jb)])), (q1, .inl (kI, 16, .inl (aZ F)))] H → va_D (gA [(h, .inr (4, [.ref b0, .ref b1, .ref b2, .ref b3, .ref b4, .ref b5, .ref b6, .int (zI (cn : Int))])), (b0, .inl (kI, 17, .inl (aZ FI_))), (b1, .inl (kI, 16, .inl (aZ CH_))), (b2, .inl (kI, 256, .inl (aZ SO))), (b3, .inl (kI, 256, .inl (aZ EO))), (b4, .inl (kI, 256, .inl (aZ RO))), (b5, .inl (kB, 256, .inl (aB DA))), (b6, .inl (kI, 256, .inl (aZ TW))), (pp, .inr (3, [.ref q1, .ref q2, .int (zI jb)])), (q1, .inl (kI, 16, .inl (aZ F)))]) [(h, .inr (4, [.ref b0, .ref b1, .ref b2, .ref b3, .ref b4, .ref b5, .ref b6, .int (zI ((sR P (16 * r) : Nat) : Int))])), (b0, .inl (kI, 17, .inl (aZ FI1))), (b1, .inl (kI, 16, .inl (aZ CH1))), (b2, .inl (kI, 256, .inl (aZ SO1))), (b3, .inl (kI, 256, .inl (aZ EO1))), (b4, .inl (kI, 256, .inl (aZ RO1))), (b5, .inl (kB, 256, .inl (aB DA1))), (b6, .inl (kI, 256, .inl (aZ TW1))), (pp, .inr (3, [.ref q1, .ref q2, .int (zI jb)])), (q1, .inl (kI, 16, .inl (aZ F)))] → va_S (gA [(h, .inr (4, [.ref b0, .ref b1, .ref b2, .ref b3, .ref b4, .ref b5, .ref b6, .int (zI (cn : Int))])), (b0, .inl (kI, 17, .inl (aZ FI_))), (b1, .inl (kI, 16, .inl (aZ CH_))), (b2, .inl (kI, 256, .inl (aZ SO))), (b3, .inl (kI, 256, .inl (aZ EO))), (b4, .inl (kI, 256, .inl (aZ RO))), (b5, .inl (kB, 256, .inl (aB DA))), (b6, .inl (kI, 256, .inl (aZ TW))), (pp, .inr (3, [.ref q1, .ref q2, .int (zI jb)])), (q1, .inl (kI, 16, .inl (aZ F)))]) xs.heap H locs → lv_has ls 4 [(0, .ref h), (1, .ref pp), (2, .int (zI (r : Int)))] → W xp l xe ({ frames := 3, cells := 0, slots := 0, locals := 74 } : Room) xs xm (List.toArray [.ref h, .ref pp]) xbl xmt xc H locs 0 0 xQ (F0 xm 7 ls []) := by
    intro n_
    induction n_ with
    | zero =>
      intro r FI1 CH1 SO1 EO1 RO1 DA1 TW1 hme
      exact absurd hme (Nat.not_lt_zero _)
    | succ n_ ihK =>
      intro r FI1 CH1 SO1 EO1 RO1 DA1 TW1 hme hr hR1 hT1 hF1 hC1 H locs ls wP wD wS wl
      refine lv_iload_n xX xB dX4_read_7 rfl (lv_at wl 2 rfl) ?_
      refine z_bipush xX xB dX4_read_8 (by decide) ?_
      refine z_icmp_ge (tgt := 61) xX xB dX4_read_10 (by decide) (by omega) (by omega) (fun h10 => ?_) (fun h10 => ?_)
      · skip
        have er : r = 16 := by omega
        subst er
        refine lv_aload_n xX xB dX4_read_61 rfl (lv_at wl 0 rfl) ?_
        refine va_get (D := D) (ci := 4) (v := .ref b0) (C := RX4) (T := TX4) (N := 8) xX xB xT in_X4_read_X4 xO wK.1 wP 0 rfl rfl 0 (by decide) (xT _ (List.mem_of_getElem? (i := 2) rfl)) (fun _ h9 => h9) rfl dX4_read_62 ?_
        refine z_bipush xX xB dX4_read_65 (by decide) ?_
        refine lv_aload_n xX xB dX4_read_67 rfl (lv_at wl 0 rfl) ?_
        refine va_get (D := D) (ci := 4) (v := .int (zI ((sR P (16 * 16) : Nat) : Int))) (C := RX4) (T := TX4) (N := 8) xX xB xT in_X4_read_X4 xO wK.1 wP 0 rfl rfl 7 (by decide) (xT _ (List.mem_of_getElem? (i := 1) rfl)) (fun _ h9 => h9) rfl dX4_read_68 ?_
        refine z_iast xX xB wK wP wD wS 1 rfl 16 rfl (by decide) (Nat.le_of_ble_eq_true rfl) dX4_read_71 (fun H locs wP wD wS => ?_)
        have wP : va_P D gC [(h, .inr (4, [.ref b0, .ref b1, .ref b2, .ref b3, .ref b4, .ref b5, .ref b6, .int (zI ((sR P (16 * 16) : Nat) : Int))])), (b0, .inl (kI, 17, .inl (aZ (uZ FI1 16 ((sR P (16 * 16) : Nat) : Int))))), (b1, .inl (kI, 16, .inl (aZ CH1))), (b2, .inl (kI, 256, .inl (aZ SO1))), (b3, .inl (kI, 256, .inl (aZ EO1))), (b4, .inl (kI, 256, .inl (aZ RO1))), (b5, .inl (kB, 256, .inl (aB DA1))), (b6, .inl (kI, 256, .inl (aZ TW1))), (pp, .inr (3, [.ref q1, .ref q2, .int (zI jb)])), (q1, .inl (kI, 16, .inl (aZ F)))] H := wP
        have wD : va_D (gA [(h, .inr (4, [.ref b0, .ref b1, .ref b2, .ref b3, .ref b4, .ref b5, .ref b6, .int (zI (cn : Int))])), (b0, .inl (kI, 17, .inl (aZ FI_))), (b1, .inl (kI, 16, .inl (aZ CH_))), (b2, .inl (kI, 256, .inl (aZ SO))), (b3, .inl (kI, 256, .inl (aZ EO))), (b4, .inl (kI, 256, .inl (aZ RO))), (b5, .inl (kB, 256, .inl (aB DA))), (b6, .inl (kI, 256, .inl (aZ TW))), (pp, .inr (3, [.ref q1, .ref q2, .int (zI jb)])), (q1, .inl (kI, 16, .inl (aZ F)))]) [(h, .inr (4, [.ref b0, .ref b1, .ref b2, .ref b3, .ref b4, .ref b5, .ref b6, .int (zI ((sR P (16 * 16) : Nat) : Int))])), (b0, .inl (kI, 17, .inl (aZ (uZ FI1 16 ((sR P (16 * 16) : Nat) : Int))))), (b1, .inl (kI, 16, .inl (aZ CH1))), (b2, .inl (kI, 256, .inl (aZ SO1))), (b3, .inl (kI, 256, .inl (aZ EO1))), (b4, .inl (kI, 256, .inl (aZ RO1))), (b5, .inl (kB, 256, .inl (aB DA1))), (b6, .inl (kI, 256, .inl (aZ TW1))), (pp, .inr (3, [.ref q1, .ref q2, .int (zI jb)])), (q1, .inl (kI, 16, .inl (aZ F)))] := wD
        refine lv_aload_n xX xB dX4_read_72 rfl (lv_at wl 1 rfl) ?_
        refine g_pure (va_runV (As := []) (rest := []) ⟨xX, xB, xM, xO, xT⟩ (c_X3_cornersJoin l D kI kB pp q1 q2 jb rj) (cwV 0 xT gX4_read_X3_cornersJoin rfl rfl rfl hd_X3_cornersJoin ⟨Nat.le_of_ble_eq_true rfl, Nat.le_of_ble_eq_true rfl⟩) (g_preV (ci := 3) (q0 := 8) wP wD wK [8] (by decide) rfl rfl rfl) rfl rfl wl.1 rfl (lv_room (Nat.le_of_ble_eq_true rfl)) dX4_read_73 ⟨Nat.le_of_ble_eq_true rfl, Nat.le_of_ble_eq_true rfl⟩) wP wS (fun H locs wP wS => ?_)
        refine t_b_eq xX xB dX4_read_76 dX4_read_79 dX4_read_80 dX4_read_83 ?_
        refine lv_ri (bI_Z _) ?_
        refine lv_istore_n (lv' := [(2, .int (zI ((bZ (decide (jb = 8)) : Nat) : Int))), (0, .ref h), (1, .ref pp)]) xX xB dX4_read_84 rfl wl (by decide) rfl (fun ls wl => ?_)
        refine z_iconst xX xB dX4_read_85 ?_
        refine lv_istore_n (lv' := [(3, .int (zI 1)), (2, .int (zI ((bZ (decide (jb = 8)) : Nat) : Int))), (0, .ref h), (1, .ref pp)]) xX xB dX4_read_86 rfl wl (by decide) rfl (fun ls wl => ?_)
        have M : ∀ n_ : Nat, ∀ (k : Nat) (FI2 : Nat → Int) (T1 : Nat → Nat) (TW2 : Nat → Int), 16 - k < n_ → (1 ≤ k ∧ k ≤ 16) → (∀ k, k ≤ 16 → FI2 k = ((sR P (16 * k) : Nat) : Int)) → (UFI T1 TW2 (sR P 256)) → (SndI P (decide (jb = 8)) T1) → (AllI P (decide (jb = 8)) T1 k) → ∀ (H : Heap) (locs : List Loc) (ls : Array Slot), va_P D gC [(h, .inr (4, [.ref b0, .ref b1, .ref b2, .ref b3, .ref b4, .ref b5, .ref b6, .int (zI ((sR P 256 : Nat) : Int))])), (b0, .inl (kI, 17, .inl (aZ FI2))), (b1, .inl (kI, 16, .inl (aZ CH1))), (b2, .inl (kI, 256, .inl (aZ SO1))), (b3, .inl (kI, 256, .inl (aZ EO1))), (b4, .inl (kI, 256, .inl (aZ RO1))), (b5, .inl (kB, 256, .inl (aB DA1))), (b6, .inl (kI, 256, .inl (aZ TW2))), (pp, .inr (3, [.ref q1, .ref q2, .int (zI jb)])), (q1, .inl (kI, 16, .inl (aZ F)))] H → va_D (gA [(h, .inr (4, [.ref b0, .ref b1, .ref b2, .ref b3, .ref b4, .ref b5, .ref b6, .int (zI (cn : Int))])), (b0, .inl (kI, 17, .inl (aZ FI_))), (b1, .inl (kI, 16, .inl (aZ CH_))), (b2, .inl (kI, 256, .inl (aZ SO))), (b3, .inl (kI, 256, .inl (aZ EO))), (b4, .inl (kI, 256, .inl (aZ RO))), (b5, .inl (kB, 256, .inl (aB DA))), (b6, .inl (kI, 256, .inl (aZ TW))), (pp, .inr (3, [.ref q1, .ref q2, .int (zI jb)])), (q1, .inl (kI, 16, .inl (aZ F)))]) [(h, .inr (4, [.ref b0, .ref b1, .ref b2, .ref b3, .ref b4, .ref b5, .ref b6, .int (zI ((sR P 256 : Nat) : Int))])), (b0, .inl (kI, 17, .inl (aZ FI2))), (b1, .inl (kI, 16, .inl (aZ CH1))), (b2, .inl (kI, 256, .inl (aZ SO1))), (b3, .inl (kI, 256, .inl (aZ EO1))), (b4, .inl (kI, 256, .inl (aZ RO1))), (b5, .inl (kB, 256, .inl (aB DA1))), (b6, .inl (kI, 256, .inl (aZ TW2))), (pp, .inr (3, [.ref q1, .ref q2, .int (zI jb)])), (q1, .inl (kI, 16, .inl (aZ F)))] → va_S (gA [(h, .inr (4, [.ref b0, .ref b1, .ref b2, .ref b3, .ref b4, .ref b5, .ref b6, .int (zI (cn : Int))])), (b0, .inl (kI, 17, .inl (aZ FI_))), (b1, .inl (kI, 16, .inl (aZ CH_))), (b2, .inl (kI, 256, .inl (aZ SO))), (b3, .inl (kI, 256, .inl (aZ EO))), (b4, .inl (kI, 256, .inl (aZ RO))), (b5, .inl (kB, 256, .inl (aB DA))), (b6, .inl (kI, 256, .inl (aZ TW))), (pp, .inr (3, [.ref q1, .ref q2, .int (zI jb)])), (q1, .inl (kI, 16, .inl (aZ F)))]) xs.heap H locs → lv_has ls 4 [(0, .ref h), (1, .ref pp), (2, .int (zI ((bZ (decide (jb = 8)) : Nat) : Int))), (3, .int (zI (k : Int)))] → W xp l xe ({ frames := 3, cells := 0, slots := 0, locals := 74 } : Room) xs xm (List.toArray [.ref h, .ref pp]) xbl xmt xc H locs 0 0 xQ (F0 xm 87 ls []) := by
          intro n_
          induction n_ with
          | zero =>
            intro k FI2 T1 TW2 hme
            exact absurd hme (Nat.not_lt_zero _)
          | succ n_ ihM =>
            intro k FI2 T1 TW2 hme hk hFI hU1 hS1 hA1 H locs ls wP wD wS wl
            refine lv_iload_n xX xB dX4_read_87 rfl (lv_at wl 3 rfl) ?_
            refine z_bipush xX xB dX4_read_88 (by decide) ?_
            refine z_icmp_ge (tgt := 115) xX xB dX4_read_90 (by decide) (by omega) (by omega) (fun h90 => ?_) (fun h90 => ?_)
            · skip
              refine lv_aload_n xX xB dX4_read_115 rfl (lv_at wl 0 rfl) ?_
              refine g_modv (va_runV (As := []) (rest := []) ⟨xX, xB, xM, xO, xT⟩ (c_X4_settle l D kI kB h b0 b1 b2 b3 b4 b5 b6 (sR P 256) T1 TW2 hU1 (sR_le 256)) (cwV 0 xT gX4_read_X4_settle rfl rfl rfl hd_X4_settle ⟨Nat.le_of_ble_eq_true rfl, Nat.le_of_ble_eq_true rfl⟩) (g_preV (ci := 4) (q0 := 0) wP wD wK [0, 7] (by decide) rfl rfl rfl) rfl rfl wl.1 rfl (lv_room (Nat.le_of_ble_eq_true rfl)) dX4_read_116 ⟨Nat.le_of_ble_eq_true rfl, Nat.le_of_ble_eq_true rfl⟩) wP wD wS [0, 7] rfl (fun _ => rfl) (fun TW1_1 H locs hc116 wP wD wS => ?_)
              try dsimp only at hc116
              have wP : va_P D gC [(h, .inr (4, [.ref b0, .ref b1, .ref b2, .ref b3, .ref b4, .ref b5, .ref b6, .int (zI ((sR P 256 : Nat) : Int))])), (b0, .inl (kI, 17, .inl (aZ FI2))), (b1, .inl (kI, 16, .inl (aZ CH1))), (b2, .inl (kI, 256, .inl (aZ SO1))), (b3, .inl (kI, 256, .inl (aZ EO1))), (b4, .inl (kI, 256, .inl (aZ RO1))), (b5, .inl (kB, 256, .inl (aB DA1))), (b6, .inl (kI, 256, .inl (aZ TW1_1))), (pp, .inr (3, [.ref q1, .ref q2, .int (zI jb)])), (q1, .inl (kI, 16, .inl (aZ F)))] H := wP
              have wD : va_D (gA [(h, .inr (4, [.ref b0, .ref b1, .ref b2, .ref b3, .ref b4, .ref b5, .ref b6, .int (zI (cn : Int))])), (b0, .inl (kI, 17, .inl (aZ FI_))), (b1, .inl (kI, 16, .inl (aZ CH_))), (b2, .inl (kI, 256, .inl (aZ SO))), (b3, .inl (kI, 256, .inl (aZ EO))), (b4, .inl (kI, 256, .inl (aZ RO))), (b5, .inl (kB, 256, .inl (aB DA))), (b6, .inl (kI, 256, .inl (aZ TW))), (pp, .inr (3, [.ref q1, .ref q2, .int (zI jb)])), (q1, .inl (kI, 16, .inl (aZ F)))]) [(h, .inr (4, [.ref b0, .ref b1, .ref b2, .ref b3, .ref b4, .ref b5, .ref b6, .int (zI ((sR P 256 : Nat) : Int))])), (b0, .inl (kI, 17, .inl (aZ FI2))), (b1, .inl (kI, 16, .inl (aZ CH1))), (b2, .inl (kI, 256, .inl (aZ SO1))), (b3, .inl (kI, 256, .inl (aZ EO1))), (b4, .inl (kI, 256, .inl (aZ RO1))), (b5, .inl (kB, 256, .inl (aB DA1))), (b6, .inl (kI, 256, .inl (aZ TW1_1))), (pp, .inr (3, [.ref q1, .ref q2, .int (zI jb)])), (q1, .inl (kI, 16, .inl (aZ F)))] := wD
              subst hQ
              exact g_vret (FI2, CH1, SO1, EO1, RO1, DA1, TW1_1) xX xB xR xL wP wS dX4_read_119 ⟨hR1, fun i hi => (hc116 i hi).trans (by rw [← group_rp (fun j hj => (hU1 j hj).2) hS1 (by rw [show k = 16 by omega] at hA1; exact hA1) (spl_spec hi).1, spl_rix hi]), hFI, fun r hr => hC1 r (by omega)⟩
            · skip
              refine lv_aload_n xX xB dX4_read_93 rfl (lv_at wl 0 rfl) ?_
              refine lv_iload_n xX xB dX4_read_94 rfl (lv_at wl 3 rfl) ?_
              refine z_iconst xX xB dX4_read_95 ?_
              refine lv_iload_n xX xB dX4_read_96 rfl (lv_at wl 2 rfl) ?_
              refine g_modv (va_runV (As := [.int (zI (k : Int)), .int (zI 1), .int (zI ((bZ (decide (jb = 8)) : Nat) : Int))]) (rest := []) ⟨xX, xB, xM, xO, xT⟩ (c_X4_joinToRowAbove l D kI kB h b0 b1 b2 b3 b4 b5 b6 (sR P 256) FI2 SO1 EO1 RO1 DA1 TW2 P (decide (jb = 8)) T1 k true (bZ (decide (jb = 8))) (by omega) (by omega) (by cases decide (jb = 8) <;> rfl) hR1 hFI hU1 hS1) (cwV 3 xT gX4_read_X4_joinToRowAbove rfl rfl rfl hd_X4_joinToRowAbove ⟨Nat.le_of_ble_eq_true rfl, Nat.le_of_ble_eq_true rfl⟩) (g_preV (ci := 4) (q0 := 0) wP wD wK [0, 1, 3, 4, 6, 7] (by decide) rfl rfl rfl) rfl rfl wl.1 rfl (lv_room (Nat.le_of_ble_eq_true rfl)) dX4_read_97 ⟨Nat.le_of_ble_eq_true rfl, Nat.le_of_ble_eq_true rfl⟩) wP wD wS [0, 1, 3, 4, 6, 7] rfl (fun _ => rfl) (fun u_ H locs hc97 wP wD wS => ?_)
              obtain ⟨T1_2, TW1_3⟩ := u_
              try dsimp only at hc97
              have wP : va_P D gC [(h, .inr (4, [.ref b0, .ref b1, .ref b2, .ref b3, .ref b4, .ref b5, .ref b6, .int (zI ((sR P 256 : Nat) : Int))])), (b0, .inl (kI, 17, .inl (aZ FI2))), (b1, .inl (kI, 16, .inl (aZ CH1))), (b2, .inl (kI, 256, .inl (aZ SO1))), (b3, .inl (kI, 256, .inl (aZ EO1))), (b4, .inl (kI, 256, .inl (aZ RO1))), (b5, .inl (kB, 256, .inl (aB DA1))), (b6, .inl (kI, 256, .inl (aZ TW1_3))), (pp, .inr (3, [.ref q1, .ref q2, .int (zI jb)])), (q1, .inl (kI, 16, .inl (aZ F)))] H := wP
              have wD : va_D (gA [(h, .inr (4, [.ref b0, .ref b1, .ref b2, .ref b3, .ref b4, .ref b5, .ref b6, .int (zI (cn : Int))])), (b0, .inl (kI, 17, .inl (aZ FI_))), (b1, .inl (kI, 16, .inl (aZ CH_))), (b2, .inl (kI, 256, .inl (aZ SO))), (b3, .inl (kI, 256, .inl (aZ EO))), (b4, .inl (kI, 256, .inl (aZ RO))), (b5, .inl (kB, 256, .inl (aB DA))), (b6, .inl (kI, 256, .inl (aZ TW))), (pp, .inr (3, [.ref q1, .ref q2, .int (zI jb)])), (q1, .inl (kI, 16, .inl (aZ F)))]) [(h, .inr (4, [.ref b0, .ref b1, .ref b2, .ref b3, .ref b4, .ref b5, .ref b6, .int (zI ((sR P 256 : Nat) : Int))])), (b0, .inl (kI, 17, .inl (aZ FI2))), (b1, .inl (kI, 16, .inl (aZ CH1))), (b2, .inl (kI, 256, .inl (aZ SO1))), (b3, .inl (kI, 256, .inl (aZ EO1))), (b4, .inl (kI, 256, .inl (aZ RO1))), (b5, .inl (kB, 256, .inl (aB DA1))), (b6, .inl (kI, 256, .inl (aZ TW1_3))), (pp, .inr (3, [.ref q1, .ref q2, .int (zI jb)])), (q1, .inl (kI, 16, .inl (aZ F)))] := wD
              refine lv_aload_n xX xB dX4_read_100 rfl (lv_at wl 0 rfl) ?_
              refine lv_iload_n xX xB dX4_read_101 rfl (lv_at wl 3 rfl) ?_
              refine z_iconst xX xB dX4_read_102 ?_
              refine z_iconst xX xB dX4_read_103 ?_
              refine lv_iload_n xX xB dX4_read_104 rfl (lv_at wl 2 rfl) ?_
              refine z_isub xX xB dX4_read_105 ?_
              refine lv_ri (y := zI ((bZ (false == decide (jb = 8)) : Nat) : Int)) (congrArg zI (by cases decide (jb = 8) <;> rfl)) ?_
              refine g_modv (va_runV (As := [.int (zI (k : Int)), .int (zI 0), .int (zI ((bZ (false == decide (jb = 8)) : Nat) : Int))]) (rest := []) ⟨xX, xB, xM, xO, xT⟩ (c_X4_joinToRowAbove l D kI kB h b0 b1 b2 b3 b4 b5 b6 (sR P 256) FI2 SO1 EO1 RO1 DA1 TW1_3 P (decide (jb = 8)) T1_2 k false (bZ (false == decide (jb = 8))) (by omega) (by omega) rfl hR1 hFI hc97.1 hc97.2.1) (cwV 3 xT gX4_read_X4_joinToRowAbove rfl rfl rfl hd_X4_joinToRowAbove ⟨Nat.le_of_ble_eq_true rfl, Nat.le_of_ble_eq_true rfl⟩) (g_preV (ci := 4) (q0 := 0) wP wD wK [0, 1, 3, 4, 6, 7] (by decide) rfl rfl rfl) rfl rfl wl.1 rfl (lv_room (Nat.le_of_ble_eq_true rfl)) dX4_read_106 ⟨Nat.le_of_ble_eq_true rfl, Nat.le_of_ble_eq_true rfl⟩) wP wD wS [0, 1, 3, 4, 6, 7] rfl (fun _ => rfl) (fun u_ H locs hc106 wP wD wS => ?_)
              obtain ⟨T1_4, TW1_5⟩ := u_
              try dsimp only at hc106
              have wP : va_P D gC [(h, .inr (4, [.ref b0, .ref b1, .ref b2, .ref b3, .ref b4, .ref b5, .ref b6, .int (zI ((sR P 256 : Nat) : Int))])), (b0, .inl (kI, 17, .inl (aZ FI2))), (b1, .inl (kI, 16, .inl (aZ CH1))), (b2, .inl (kI, 256, .inl (aZ SO1))), (b3, .inl (kI, 256, .inl (aZ EO1))), (b4, .inl (kI, 256, .inl (aZ RO1))), (b5, .inl (kB, 256, .inl (aB DA1))), (b6, .inl (kI, 256, .inl (aZ TW1_5))), (pp, .inr (3, [.ref q1, .ref q2, .int (zI jb)])), (q1, .inl (kI, 16, .inl (aZ F)))] H := wP
              have wD : va_D (gA [(h, .inr (4, [.ref b0, .ref b1, .ref b2, .ref b3, .ref b4, .ref b5, .ref b6, .int (zI (cn : Int))])), (b0, .inl (kI, 17, .inl (aZ FI_))), (b1, .inl (kI, 16, .inl (aZ CH_))), (b2, .inl (kI, 256, .inl (aZ SO))), (b3, .inl (kI, 256, .inl (aZ EO))), (b4, .inl (kI, 256, .inl (aZ RO))), (b5, .inl (kB, 256, .inl (aB DA))), (b6, .inl (kI, 256, .inl (aZ TW))), (pp, .inr (3, [.ref q1, .ref q2, .int (zI jb)])), (q1, .inl (kI, 16, .inl (aZ F)))]) [(h, .inr (4, [.ref b0, .ref b1, .ref b2, .ref b3, .ref b4, .ref b5, .ref b6, .int (zI ((sR P 256 : Nat) : Int))])), (b0, .inl (kI, 17, .inl (aZ FI2))), (b1, .inl (kI, 16, .inl (aZ CH1))), (b2, .inl (kI, 256, .inl (aZ SO1))), (b3, .inl (kI, 256, .inl (aZ EO1))), (b4, .inl (kI, 256, .inl (aZ RO1))), (b5, .inl (kB, 256, .inl (aB DA1))), (b6, .inl (kI, 256, .inl (aZ TW1_5))), (pp, .inr (3, [.ref q1, .ref q2, .int (zI jb)])), (q1, .inl (kI, 16, .inl (aZ F)))] := wD
              refine lv_iinc (v := zI ((k : Int) + 1)) (lv' := [(3, .int (zI ((k : Int) + 1))), (0, .ref h), (1, .ref pp), (2, .int (zI ((bZ (decide (jb = 8)) : Nat) : Int)))]) xX xB dX4_read_109 wl (k := 3) rfl (zI_add _ _) (by decide) rfl (fun ls wl => ?_)
              refine lv_goto (tgt := 87) xX xB dX4_read_112 (by decide) ?_
              exact ihM (k + 1) FI2 T1_4 TW1_5 (by omega) (by omega) hFI hc106.1 hc106.2.1 (hA1.next hc97.2.2.1 hc106.2.2.1 (by have z := hc97.2.2.2; cases hm : decide (jb = 8) <;> rw [hm] at z <;> exact z) hc106.2.2.2) _ _ _ wP wD wS (lv_sub wl [1, 2, 3, 0] rfl)
        exact M _ 1 (uZ FI1 16 ((sR P (16 * 16) : Nat) : Int)) (fun j => j) TW1 (Nat.lt_succ_self _) (by omega) (fun k hk => ext_fill hF1 rfl k (by omega)) (UFI.id hT1) (fun i _ => Cn.rf _) (fun p q _ h1 h2 => by omega) _ _ _ wP wD wS (lv_sub wl [2, 3, 1, 0] rfl)
      · skip
        refine lv_aload_n xX xB dX4_read_13 rfl (lv_at wl 0 rfl) ?_
        refine va_get (D := D) (ci := 4) (v := .ref b0) (C := RX4) (T := TX4) (N := 8) xX xB xT in_X4_read_X4 xO wK.1 wP 0 rfl rfl 0 (by decide) (xT _ (List.mem_of_getElem? (i := 2) rfl)) (fun _ h9 => h9) rfl dX4_read_14 ?_
        refine lv_iload_n xX xB dX4_read_17 rfl (lv_at wl 2 rfl) ?_
        refine lv_aload_n xX xB dX4_read_18 rfl (lv_at wl 0 rfl) ?_
        refine va_get (D := D) (ci := 4) (v := .int (zI ((sR P (16 * r) : Nat) : Int))) (C := RX4) (T := TX4) (N := 8) xX xB xT in_X4_read_X4 xO wK.1 wP 0 rfl rfl 7 (by decide) (xT _ (List.mem_of_getElem? (i := 1) rfl)) (fun _ h9 => h9) rfl dX4_read_19 ?_
        refine z_iast xX xB wK wP wD wS 1 rfl r rfl (by omega) (Nat.le_of_ble_eq_true rfl) dX4_read_22 (fun H locs wP wD wS => ?_)
        have wP : va_P D gC [(h, .inr (4, [.ref b0, .ref b1, .ref b2, .ref b3, .ref b4, .ref b5, .ref b6, .int (zI ((sR P (16 * r) : Nat) : Int))])), (b0, .inl (kI, 17, .inl (aZ (uZ FI1 r ((sR P (16 * r) : Nat) : Int))))), (b1, .inl (kI, 16, .inl (aZ CH1))), (b2, .inl (kI, 256, .inl (aZ SO1))), (b3, .inl (kI, 256, .inl (aZ EO1))), (b4, .inl (kI, 256, .inl (aZ RO1))), (b5, .inl (kB, 256, .inl (aB DA1))), (b6, .inl (kI, 256, .inl (aZ TW1))), (pp, .inr (3, [.ref q1, .ref q2, .int (zI jb)])), (q1, .inl (kI, 16, .inl (aZ F)))] H := wP
        have wD : va_D (gA [(h, .inr (4, [.ref b0, .ref b1, .ref b2, .ref b3, .ref b4, .ref b5, .ref b6, .int (zI (cn : Int))])), (b0, .inl (kI, 17, .inl (aZ FI_))), (b1, .inl (kI, 16, .inl (aZ CH_))), (b2, .inl (kI, 256, .inl (aZ SO))), (b3, .inl (kI, 256, .inl (aZ EO))), (b4, .inl (kI, 256, .inl (aZ RO))), (b5, .inl (kB, 256, .inl (aB DA))), (b6, .inl (kI, 256, .inl (aZ TW))), (pp, .inr (3, [.ref q1, .ref q2, .int (zI jb)])), (q1, .inl (kI, 16, .inl (aZ F)))]) [(h, .inr (4, [.ref b0, .ref b1, .ref b2, .ref b3, .ref b4, .ref b5, .ref b6, .int (zI ((sR P (16 * r) : Nat) : Int))])), (b0, .inl (kI, 17, .inl (aZ (uZ FI1 r ((sR P (16 * r) : Nat) : Int))))), (b1, .inl (kI, 16, .inl (aZ CH1))), (b2, .inl (kI, 256, .inl (aZ SO1))), (b3, .inl (kI, 256, .inl (aZ EO1))), (b4, .inl (kI, 256, .inl (aZ RO1))), (b5, .inl (kB, 256, .inl (aB DA1))), (b6, .inl (kI, 256, .inl (aZ TW1))), (pp, .inr (3, [.ref q1, .ref q2, .int (zI jb)])), (q1, .inl (kI, 16, .inl (aZ F)))] := wD
        refine lv_aload_n xX xB dX4_read_23 rfl (lv_at wl 0 rfl) ?_
        refine va_get (D := D) (ci := 4) (v := .ref b1) (C := RX4) (T := TX4) (N := 8) xX xB xT in_X4_read_X4 xO wK.1 wP 0 rfl rfl 1 (by decide) (xT _ (List.mem_of_getElem? (i := 3) rfl)) (fun _ h9 => h9) rfl dX4_read_24 ?_
        refine lv_iload_n xX xB dX4_read_27 rfl (lv_at wl 2 rfl) ?_
        refine lv_aload_n xX xB dX4_read_28 rfl (lv_at wl 1 rfl) ?_
        refine lv_iload_n xX xB dX4_read_29 rfl (lv_at wl 2 rfl) ?_
        refine g_pure (va_runV (As := [.int (zI (r : Int))]) (rest := [.int (zI (r : Int)), .ref b1]) ⟨xX, xB, xM, xO, xT⟩ (c_X3_line l D kI kB pp q1 q2 F jb (r : Int) (by omega)) (cwV 1 xT gX4_read_X3_line rfl rfl rfl hd_X3_line ⟨Nat.le_of_ble_eq_true rfl, Nat.le_of_ble_eq_true rfl⟩) (g_preV (ci := 3) (q0 := 8) wP wD wK [8, 9] (by decide) rfl rfl rfl) rfl rfl wl.1 rfl (lv_room (Nat.le_of_ble_eq_true rfl)) dX4_read_30 ⟨Nat.le_of_ble_eq_true rfl, Nat.le_of_ble_eq_true rfl⟩) wP wS (fun H locs wP wS => ?_)
        refine lv_ri (y := zI ((P r : Nat) : Int)) (congrArg zI (by rw [hF.ln, lnN_nat P (by omega)])) ?_
        refine lv_aload_n xX xB dX4_read_33 rfl (lv_at wl 1 rfl) ?_
        refine lv_iload_n xX xB dX4_read_34 rfl (lv_at wl 2 rfl) ?_
        refine g_pure (va_runV (As := [.int (zI (r : Int))]) (rest := [.int (zI ((P r : Nat) : Int)), .int (zI (r : Int)), .ref b1]) ⟨xX, xB, xM, xO, xT⟩ (c_X3_line l D kI kB pp q1 q2 F jb (r : Int) (by omega)) (cwV 1 xT gX4_read_X3_line rfl rfl rfl hd_X3_line ⟨Nat.le_of_ble_eq_true rfl, Nat.le_of_ble_eq_true rfl⟩) (g_preV (ci := 3) (q0 := 8) wP wD wK [8, 9] (by decide) rfl rfl rfl) rfl rfl wl.1 rfl (lv_room (Nat.le_of_ble_eq_true rfl)) dX4_read_35 ⟨Nat.le_of_ble_eq_true rfl, Nat.le_of_ble_eq_true rfl⟩) wP wS (fun H locs wP wS => ?_)
        refine lv_ri (y := zI ((P r : Nat) : Int)) (congrArg zI (by rw [hF.ln, lnN_nat P (by omega)])) ?_
        refine z_iconst xX xB dX4_read_38 ?_
        refine lv_ishl xX xB dX4_read_39 ?_
        refine lv_ri (y := zI ((P r <<< 1 : Nat) : Int)) (zb_shl1 (hF r (by omega)).2) ?_
        refine lv_ixor xX xB dX4_read_40 ?_
        refine lv_ri (y := zI ((P r ^^^ P r <<< 1 : Nat) : Int)) (zb_xor _ _) ?_
        refine z_ldc xX xB (65534) (by decide) xO (xT _ (List.mem_of_getElem? (i := 4) rfl)) dX4_read_41 ?_
        refine lv_iand xX xB dX4_read_43 ?_
        refine lv_ri (y := zI ((chN P r : Nat) : Int)) (zb_and _ _) ?_
        refine z_iast xX xB wK wP wD wS 2 rfl r rfl (by omega) (Nat.le_of_ble_eq_true rfl) dX4_read_44 (fun H locs wP wD wS => ?_)
        have wP : va_P D gC [(h, .inr (4, [.ref b0, .ref b1, .ref b2, .ref b3, .ref b4, .ref b5, .ref b6, .int (zI ((sR P (16 * r) : Nat) : Int))])), (b0, .inl (kI, 17, .inl (aZ (uZ FI1 r ((sR P (16 * r) : Nat) : Int))))), (b1, .inl (kI, 16, .inl (aZ (uZ CH1 r ((chN P r : Nat) : Int))))), (b2, .inl (kI, 256, .inl (aZ SO1))), (b3, .inl (kI, 256, .inl (aZ EO1))), (b4, .inl (kI, 256, .inl (aZ RO1))), (b5, .inl (kB, 256, .inl (aB DA1))), (b6, .inl (kI, 256, .inl (aZ TW1))), (pp, .inr (3, [.ref q1, .ref q2, .int (zI jb)])), (q1, .inl (kI, 16, .inl (aZ F)))] H := wP
        have wD : va_D (gA [(h, .inr (4, [.ref b0, .ref b1, .ref b2, .ref b3, .ref b4, .ref b5, .ref b6, .int (zI (cn : Int))])), (b0, .inl (kI, 17, .inl (aZ FI_))), (b1, .inl (kI, 16, .inl (aZ CH_))), (b2, .inl (kI, 256, .inl (aZ SO))), (b3, .inl (kI, 256, .inl (aZ EO))), (b4, .inl (kI, 256, .inl (aZ RO))), (b5, .inl (kB, 256, .inl (aB DA))), (b6, .inl (kI, 256, .inl (aZ TW))), (pp, .inr (3, [.ref q1, .ref q2, .int (zI jb)])), (q1, .inl (kI, 16, .inl (aZ F)))]) [(h, .inr (4, [.ref b0, .ref b1, .ref b2, .ref b3, .ref b4, .ref b5, .ref b6, .int (zI ((sR P (16 * r) : Nat) : Int))])), (b0, .inl (kI, 17, .inl (aZ (uZ FI1 r ((sR P (16 * r) : Nat) : Int))))), (b1, .inl (kI, 16, .inl (aZ (uZ CH1 r ((chN P r : Nat) : Int))))), (b2, .inl (kI, 256, .inl (aZ SO1))), (b3, .inl (kI, 256, .inl (aZ EO1))), (b4, .inl (kI, 256, .inl (aZ RO1))), (b5, .inl (kB, 256, .inl (aB DA1))), (b6, .inl (kI, 256, .inl (aZ TW1))), (pp, .inr (3, [.ref q1, .ref q2, .int (zI jb)])), (q1, .inl (kI, 16, .inl (aZ F)))] := wD
        refine lv_aload_n xX xB dX4_read_45 rfl (lv_at wl 0 rfl) ?_
        refine lv_iload_n xX xB dX4_read_46 rfl (lv_at wl 2 rfl) ?_
        refine lv_aload_n xX xB dX4_read_47 rfl (lv_at wl 1 rfl) ?_
        refine lv_iload_n xX xB dX4_read_48 rfl (lv_at wl 2 rfl) ?_
        refine g_pure (va_runV (As := [.int (zI (r : Int))]) (rest := [.int (zI (r : Int)), .ref h]) ⟨xX, xB, xM, xO, xT⟩ (c_X3_line l D kI kB pp q1 q2 F jb (r : Int) (by omega)) (cwV 1 xT gX4_read_X3_line rfl rfl rfl hd_X3_line ⟨Nat.le_of_ble_eq_true rfl, Nat.le_of_ble_eq_true rfl⟩) (g_preV (ci := 3) (q0 := 8) wP wD wK [8, 9] (by decide) rfl rfl rfl) rfl rfl wl.1 rfl (lv_room (Nat.le_of_ble_eq_true rfl)) dX4_read_49 ⟨Nat.le_of_ble_eq_true rfl, Nat.le_of_ble_eq_true rfl⟩) wP wS (fun H locs wP wS => ?_)
        refine lv_ri (y := zI ((P r : Nat) : Int)) (congrArg zI (by rw [hF.ln, lnN_nat P (by omega)])) ?_
        refine g_modv (va_runV (As := [.int (zI (r : Int)), .int (zI ((P r : Nat) : Int))]) (rest := []) ⟨xX, xB, xM, xO, xT⟩ (c_X4_cut l D kI kB h b0 b1 b2 b3 b4 b5 b6 SO1 EO1 RO1 DA1 TW1 P r (by omega) (hF r (by omega)).2 hR1 hT1) (cwV 2 xT gX4_read_X4_cut rfl rfl rfl hd_X4_cut ⟨Nat.le_of_ble_eq_true rfl, Nat.le_of_ble_eq_true rfl⟩) (g_preV (ci := 4) (q0 := 0) wP wD wK [0, 3, 4, 5, 6, 7] (by decide) rfl rfl rfl) rfl rfl wl.1 rfl (lv_room (Nat.le_of_ble_eq_true rfl)) dX4_read_52 ⟨Nat.le_of_ble_eq_true rfl, Nat.le_of_ble_eq_true rfl⟩) wP wD wS [0, 3, 4, 5, 6, 7] rfl (fun _ => rfl) (fun u_ H locs hc52 wP wD wS => ?_)
        obtain ⟨SO1_6, EO1_7, RO1_8, DA1_9, TW1_10⟩ := u_
        try dsimp only at hc52
        have wP : va_P D gC [(h, .inr (4, [.ref b0, .ref b1, .ref b2, .ref b3, .ref b4, .ref b5, .ref b6, .int (zI ((sR P (16 * (r + 1)) : Nat) : Int))])), (b0, .inl (kI, 17, .inl (aZ (uZ FI1 r ((sR P (16 * r) : Nat) : Int))))), (b1, .inl (kI, 16, .inl (aZ (uZ CH1 r ((chN P r : Nat) : Int))))), (b2, .inl (kI, 256, .inl (aZ SO1_6))), (b3, .inl (kI, 256, .inl (aZ EO1_7))), (b4, .inl (kI, 256, .inl (aZ RO1_8))), (b5, .inl (kB, 256, .inl (aB DA1_9))), (b6, .inl (kI, 256, .inl (aZ TW1_10))), (pp, .inr (3, [.ref q1, .ref q2, .int (zI jb)])), (q1, .inl (kI, 16, .inl (aZ F)))] H := wP
        have wD : va_D (gA [(h, .inr (4, [.ref b0, .ref b1, .ref b2, .ref b3, .ref b4, .ref b5, .ref b6, .int (zI (cn : Int))])), (b0, .inl (kI, 17, .inl (aZ FI_))), (b1, .inl (kI, 16, .inl (aZ CH_))), (b2, .inl (kI, 256, .inl (aZ SO))), (b3, .inl (kI, 256, .inl (aZ EO))), (b4, .inl (kI, 256, .inl (aZ RO))), (b5, .inl (kB, 256, .inl (aB DA))), (b6, .inl (kI, 256, .inl (aZ TW))), (pp, .inr (3, [.ref q1, .ref q2, .int (zI jb)])), (q1, .inl (kI, 16, .inl (aZ F)))]) [(h, .inr (4, [.ref b0, .ref b1, .ref b2, .ref b3, .ref b4, .ref b5, .ref b6, .int (zI ((sR P (16 * (r + 1)) : Nat) : Int))])), (b0, .inl (kI, 17, .inl (aZ (uZ FI1 r ((sR P (16 * r) : Nat) : Int))))), (b1, .inl (kI, 16, .inl (aZ (uZ CH1 r ((chN P r : Nat) : Int))))), (b2, .inl (kI, 256, .inl (aZ SO1_6))), (b3, .inl (kI, 256, .inl (aZ EO1_7))), (b4, .inl (kI, 256, .inl (aZ RO1_8))), (b5, .inl (kB, 256, .inl (aB DA1_9))), (b6, .inl (kI, 256, .inl (aZ TW1_10))), (pp, .inr (3, [.ref q1, .ref q2, .int (zI jb)])), (q1, .inl (kI, 16, .inl (aZ F)))] := wD
        refine lv_iinc (v := zI ((r : Int) + 1)) (lv' := [(2, .int (zI ((r : Int) + 1))), (0, .ref h), (1, .ref pp)]) xX xB dX4_read_55 wl (k := 2) rfl (zI_add _ _) (by decide) rfl (fun ls wl => ?_)
        refine lv_goto (tgt := 7) xX xB dX4_read_58 (by decide) ?_
        exact ihK (r + 1) (uZ FI1 r ((sR P (16 * r) : Nat) : Int)) (uZ CH1 r ((chN P r : Nat) : Int)) SO1_6 EO1_7 RO1_8 DA1_9 TW1_10 (by omega) (by omega) hc52.1 hc52.2 (ext_fill hF1 rfl) (ext_fill hC1 rfl) _ _ _ wP wD wS (lv_sub wl [1, 2, 0] rfl)
  exact K _ 0 FI_ CH_ SO EO RO DA TW (Nat.lt_succ_self _) (by omega) (fun i hi => absurd hi (Nat.not_lt_zero i)) (fun i hi => absurd hi (Nat.not_lt_zero i)) (fun i hi => absurd hi (Nat.not_lt_zero i)) (fun i hi => absurd hi (Nat.not_lt_zero i)) _ _ _ wP wD wS (lv_sub wl [1, 2, 0] rfl)
