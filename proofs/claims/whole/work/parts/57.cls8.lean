set_option maxRecDepth 20000 in
theorem in_X1_sameMoved_X1 : ∀ w ∈ u_ws RX1 TX1 14, w ∈ wsX1_sameMoved := by decide +kernel
set_option maxRecDepth 20000 in
theorem in_X1_sameMoved_X4 : ∀ w ∈ u_ws RX4 TX4 8, w ∈ wsX1_sameMoved := by decide +kernel
theorem hd_X4_length : yX4_length.cls = RX4 ∧ yX4_length.cls ≠ "java/lang/invoke/MethodHandle" ∧ yX4_length.cls ≠ "java/lang/invoke/VarHandle" ∧ (parseMethodDescriptor yX4_length.desc).map (fun d => d.parameters.length) = some 1 := by decide +kernel
theorem hd_X1_nextOfGroup : yX1_nextOfGroup.cls = RX1 ∧ yX1_nextOfGroup.cls ≠ "java/lang/invoke/MethodHandle" ∧ yX1_nextOfGroup.cls ≠ "java/lang/invoke/VarHandle" ∧ (parseMethodDescriptor yX1_nextOfGroup.desc).map (fun d => d.parameters.length) = some 2 := by decide +kernel
set_option maxHeartbeats 4000000 in
set_option maxRecDepth 100000 in
theorem c_X1_sameMoved (l : Launch) (D : va_G) (kI kB : ClassId) (o : Nat) (h : Nat) (a0 : Nat) (a1 : Nat) (a2 : Nat) (a3 : Nat) (a4 : Nat) (a5 : Nat) (a6 : Nat) (a7 : Nat) (a8 : Nat) (a9 : Nat) (pc : Nat) (hc : Nat) (lc : Nat) (b0 : Nat) (b1 : Nat) (b2 : Nat) (b3 : Nat) (b4 : Nat) (b5 : Nat) (b6 : Nat) (FI_ : Nat → Int) (CH_ : Nat → Int) (SO : Nat → Int) (EO : Nat → Int) (RO : Nat → Int) (DA : Nat → Bool) (TW : Nat → Int) (SZ : Nat → Int) (RM : Nat → Int) (BT : Nat → Int) (LT : Nat → Int) (RT : Nat → Int) (RR : Nat → Bool) (P : Nat → Nat) (m8 : Bool) (R : Nat) (S : Nat) (hO : RunsOK P m8 FI_ CH_ SO EO RO DA TW) (hM : MeI P m8 SZ RM BT LT RT RR 256) (hR : R < 256) (hS : S < 256) (hDR : isD P m8 R) (hDS : isD P m8 S) : gI l yX1_sameMoved wsX1_sameMoved ({ frames := 2, cells := 0, slots := 0, locals := 44 } : Room) D kI kB [.ref o, .int (zI ((rix P R : Nat) : Int)), .int (zI ((rix P S : Nat) : Int))] [(o, .inr (1, [.ref h, .ref a0, .ref a1, .ref a2, .ref a3, .ref a4, .ref a5, .ref a6, .ref a7, .ref a8, .ref a9, .int (zI (pc : Int)), .int (zI (hc : Int)), .int (zI (lc : Int))])), (h, .inr (4, [.ref b0, .ref b1, .ref b2, .ref b3, .ref b4, .ref b5, .ref b6, .int (zI ((sR P 256 : Nat) : Int))])), (b2, .inl (kI, 256, .inl (aZ SO))), (b3, .inl (kI, 256, .inl (aZ EO))), (b4, .inl (kI, 256, .inl (aZ RO))), (b6, .inl (kI, 256, .inl (aZ TW))), (a0, .inl (kI, 256, .inl (aZ SZ)))] (bI (alN P m8 R S 256)) := by
  refine g_start (cc := cX1_sameMoved) (maxL := 8) (ret := (some .boolean)) (by decide) rfl (Nat.le_of_ble_eq_true rfl) ?_
  intro xp xe xs xm xbl xmt xc xX xB xR xM xT xO xL xN wP wD wK ls wl
  have wS : va_S (fun _ => False) xs.heap xs.heap [] := va_S.rf
  have wl : lv_has ls 8 [(0, .ref o), (1, .int (zI ((rix P R : Nat) : Int))), (2, .int (zI ((rix P S : Nat) : Int)))] := wl
  generalize hQ : MQ xbl _ _ xs 0 0 _ = xQ
  have q256 := sR_le (P := P) 256
  have gR := rix_256 (P := P) hR
  have gS := rix_256 (P := P) hS
  have hTb : ∀ j, j < sR P 256 → -2147483648 ≤ TW j ∧ TW j ≤ 2147483647 := fun j hj => by have := rix_256 (P := P) (rp_lt (P := P) (m8 := m8) (spl_spec hj).1); rw [hO.2.1 j hj]; omega
  have bR := szR_le (P := P) (m8 := m8) R
  have bS := szR_le (P := P) (m8 := m8) S
  refine lv_aload_n xX xB dX1_sameMoved_0 rfl (lv_at wl 0 rfl) ?_
  refine lv_iload_n xX xB dX1_sameMoved_1 rfl (lv_at wl 1 rfl) ?_
  refine g_pure (va_runV (As := [.int (zI ((rix P R : Nat) : Int))]) (rest := []) ⟨xX, xB, xM, xO, xT⟩ (c_X1_sizeOf l D kI kB o h a0 a1 a2 a3 a4 a5 a6 a7 a8 a9 pc hc lc SZ (rix P R) (by omega)) (cwV 1 xT gX1_sameMoved_X1_sizeOf rfl rfl rfl hd_X1_sizeOf ⟨Nat.le_of_ble_eq_true rfl, Nat.le_of_ble_eq_true rfl⟩) (g_preV (ci := 1) (q0 := 0) wP wD wK [0, 6] (by decide) rfl rfl rfl) rfl rfl wl.1 rfl (lv_room (Nat.le_of_ble_eq_true rfl)) dX1_sameMoved_2 ⟨Nat.le_of_ble_eq_true rfl, Nat.le_of_ble_eq_true rfl⟩) wP wS (fun H locs wP wS => ?_)
  refine lv_ri (y := zI ((szR P m8 R : Nat) : Int)) (congrArg zI (hM.sz hR hDR.1)) ?_
  refine lv_aload_n xX xB dX1_sameMoved_5 rfl (lv_at wl 0 rfl) ?_
  refine lv_iload_n xX xB dX1_sameMoved_6 rfl (lv_at wl 2 rfl) ?_
  refine g_pure (va_runV (As := [.int (zI ((rix P S : Nat) : Int))]) (rest := [.int (zI ((szR P m8 R : Nat) : Int))]) ⟨xX, xB, xM, xO, xT⟩ (c_X1_sizeOf l D kI kB o h a0 a1 a2 a3 a4 a5 a6 a7 a8 a9 pc hc lc SZ (rix P S) (by omega)) (cwV 1 xT gX1_sameMoved_X1_sizeOf rfl rfl rfl hd_X1_sizeOf ⟨Nat.le_of_ble_eq_true rfl, Nat.le_of_ble_eq_true rfl⟩) (g_preV (ci := 1) (q0 := 0) wP wD wK [0, 6] (by decide) rfl rfl rfl) rfl rfl wl.1 rfl (lv_room (Nat.le_of_ble_eq_true rfl)) dX1_sameMoved_7 ⟨Nat.le_of_ble_eq_true rfl, Nat.le_of_ble_eq_true rfl⟩) wP wS (fun H locs wP wS => ?_)
  refine lv_ri (y := zI ((szR P m8 S : Nat) : Int)) (congrArg zI (hM.sz hS hDS.1)) ?_
  refine z_icmp_eq (tgt := 15) xX xB dX1_sameMoved_10 (by decide) (by omega) (by omega) (fun h10 => ?_) (fun h10 => ?_)
  · skip
    have hsz : szR P m8 R = szR P m8 S := by omega
    refine lv_iload_n xX xB dX1_sameMoved_15 rfl (lv_at wl 1 rfl) ?_
    refine lv_istore_n (lv' := [(3, .int (zI ((rix P R : Nat) : Int))), (0, .ref o), (1, .int (zI ((rix P R : Nat) : Int))), (2, .int (zI ((rix P S : Nat) : Int)))]) xX xB dX1_sameMoved_16 rfl wl (by decide) rfl (fun ls wl => ?_)
    refine lv_iload_n xX xB dX1_sameMoved_17 rfl (lv_at wl 3 rfl) ?_
    refine lv_istore (lv' := [(4, .int (zI ((rix P S : Nat) : Int))), (3, .int (zI ((rix P R : Nat) : Int))), (0, .ref o), (1, .int (zI ((rix P R : Nat) : Int))), (2, .int (zI ((rix P S : Nat) : Int)))]) xX xB dX1_sameMoved_18 wl (by decide) rfl (fun ls wl => ?_)
    refine z_iconst xX xB dX1_sameMoved_20 ?_
    refine lv_istore (lv' := [(5, .int (zI 0)), (4, .int (zI ((rix P S : Nat) : Int))), (3, .int (zI ((rix P R : Nat) : Int))), (0, .ref o), (1, .int (zI ((rix P R : Nat) : Int))), (2, .int (zI ((rix P S : Nat) : Int)))]) xX xB dX1_sameMoved_21 wl (by decide) rfl (fun ls wl => ?_)
    have K : ∀ n_ : Nat, ∀ (a : Nat) (b : Nat) (k : Nat), sR P 256 - a < n_ → (SmI P m8 R S a b) → (k ≤ a) → ∀ (H : Heap) (locs : List Loc) (ls : Array Slot), va_P D gC [(o, .inr (1, [.ref h, .ref a0, .ref a1, .ref a2, .ref a3, .ref a4, .ref a5, .ref a6, .ref a7, .ref a8, .ref a9, .int (zI (pc : Int)), .int (zI (hc : Int)), .int (zI (lc : Int))])), (h, .inr (4, [.ref b0, .ref b1, .ref b2, .ref b3, .ref b4, .ref b5, .ref b6, .int (zI ((sR P 256 : Nat) : Int))])), (b2, .inl (kI, 256, .inl (aZ SO))), (b3, .inl (kI, 256, .inl (aZ EO))), (b4, .inl (kI, 256, .inl (aZ RO))), (b6, .inl (kI, 256, .inl (aZ TW))), (a0, .inl (kI, 256, .inl (aZ SZ)))] H → va_S (fun _ => False) xs.heap H locs → lv_has ls 8 [(0, .ref o), (1, .int (zI ((rix P R : Nat) : Int))), (2, .int (zI ((rix P S : Nat) : Int))), (3, .int (zI (a : Int))), (4, .int (zI (b : Int))), (5, .int (zI (k : Int)))] → W xp l xe ({ frames := 2, cells := 0, slots := 0, locals := 44 } : Room) xs xm (List.toArray [.ref o, .int (zI ((rix P R : Nat) : Int)), .int (zI ((rix P S : Nat) : Int))]) xbl xmt xc H locs 0 0 xQ (F0 xm 23 ls []) := by
      intro n_
      induction n_ with
      | zero =>
        intro a b k hme
        exact absurd hme (Nat.not_lt_zero _)
      | succ n_ ihK =>
        intro a b k hme hI hk H locs ls wP wS wl
        have hal := hI.2.2.1
        have hbl := hI.2.2.2.1
        refine lv_iload xX xB dX1_sameMoved_23 (lv_at wl 5 rfl) ?_
        refine z_sipush xX xB dX1_sameMoved_25 (by decide) ?_
        refine z_icmp_ge (tgt := 198) xX xB dX1_sameMoved_28 (by decide) (by omega) (by omega) (fun h28 => ?_) (fun h28 => ?_)
        · skip
          refine z_iconst xX xB dX1_sameMoved_198 ?_
          refine lv_ri (y := bI true) rfl ?_
          subst hQ
          exact g_zret xX xB xR xL wS dX1_sameMoved_199 (hI.fin hsz (by omega)).symm
        · skip
          refine lv_iload_n xX xB dX1_sameMoved_31 rfl (lv_at wl 3 rfl) ?_
          refine lv_aload_n xX xB dX1_sameMoved_32 rfl (lv_at wl 0 rfl) ?_
          refine va_get (D := D) (ci := 1) (v := .ref h) (C := RX1) (T := TX1) (N := 14) xX xB xT in_X1_sameMoved_X1 xO wK.1 wP 0 rfl rfl 0 (by decide) (xT _ (List.mem_of_getElem? (i := 1) rfl)) (fun _ h9 => h9) rfl dX1_sameMoved_33 ?_
          refine va_getN (D := D) (ci := 4) (v := .int (zI ((sR P 256 : Nat) : Int))) (C := RX4) (T := TX4) (N := 8) xX xB xT in_X1_sameMoved_X4 xO wK.1 wP 1 rfl rfl 7 (by decide) (va_Nw.use rfl (wK.2 _ (List.mem_of_getElem? (i := 10) rfl))) (fun _ h9 => h9) rfl dX1_sameMoved_36 ?_
          refine z_icmp_ge (tgt := 198) xX xB dX1_sameMoved_39 (by decide) (by omega) (by omega) (fun h39 => ?_) (fun h39 => ?_)
          · skip
            refine z_iconst xX xB dX1_sameMoved_198 ?_
            refine lv_ri (y := bI true) rfl ?_
            subst hQ
            exact g_zret xX xB xR xL wS dX1_sameMoved_199 (hI.fin hsz (by omega)).symm
          · skip
            refine lv_iload xX xB dX1_sameMoved_42 (lv_at wl 4 rfl) ?_
            refine lv_aload_n xX xB dX1_sameMoved_44 rfl (lv_at wl 0 rfl) ?_
            refine va_get (D := D) (ci := 1) (v := .ref h) (C := RX1) (T := TX1) (N := 14) xX xB xT in_X1_sameMoved_X1 xO wK.1 wP 0 rfl rfl 0 (by decide) (xT _ (List.mem_of_getElem? (i := 1) rfl)) (fun _ h9 => h9) rfl dX1_sameMoved_45 ?_
            refine va_getN (D := D) (ci := 4) (v := .int (zI ((sR P 256 : Nat) : Int))) (C := RX4) (T := TX4) (N := 8) xX xB xT in_X1_sameMoved_X4 xO wK.1 wP 1 rfl rfl 7 (by decide) (va_Nw.use rfl (wK.2 _ (List.mem_of_getElem? (i := 10) rfl))) (fun _ h9 => h9) rfl dX1_sameMoved_48 ?_
            refine z_icmp_ge (tgt := 198) xX xB dX1_sameMoved_51 (by decide) (by omega) (by omega) (fun h51 => ?_) (fun h51 => ?_)
            · skip
              refine z_iconst xX xB dX1_sameMoved_198 ?_
              refine lv_ri (y := bI true) rfl ?_
              subst hQ
              exact g_zret xX xB xR xL wS dX1_sameMoved_199 (hI.fin hsz (by omega)).symm
            · skip
              have ha : a < sR P 256 := by omega
              have hb : b < sR P 256 := by omega
              have ga := epl_ge ha
              have gb := epl_ge hb
              have rra := run_row ha
              have rrb := run_row hb
              have sa := (spl_spec ha).1
              have sb := (spl_spec hb).1
              refine lv_aload_n xX xB dX1_sameMoved_54 rfl (lv_at wl 0 rfl) ?_
              refine va_get (D := D) (ci := 1) (v := .ref h) (C := RX1) (T := TX1) (N := 14) xX xB xT in_X1_sameMoved_X1 xO wK.1 wP 0 rfl rfl 0 (by decide) (xT _ (List.mem_of_getElem? (i := 1) rfl)) (fun _ h9 => h9) rfl dX1_sameMoved_55 ?_
              refine lv_iload_n xX xB dX1_sameMoved_58 rfl (lv_at wl 3 rfl) ?_
              refine g_pure (va_runV (As := [.int (zI (a : Int))]) (rest := []) ⟨xX, xB, xM, xO, xT⟩ (c_X4_lineOf l D kI kB h b0 b1 b2 b3 b4 b5 b6 (sR P 256) RO a (by omega)) (cwV 1 xT gX1_sameMoved_X4_lineOf rfl rfl rfl hd_X4_lineOf ⟨Nat.le_of_ble_eq_true rfl, Nat.le_of_ble_eq_true rfl⟩) (g_preV (ci := 4) (q0 := 1) wP wD wK [1, 4] (by decide) rfl rfl rfl) rfl rfl wl.1 rfl (lv_room (Nat.le_of_ble_eq_true rfl)) dX1_sameMoved_59 ⟨Nat.le_of_ble_eq_true rfl, Nat.le_of_ble_eq_true rfl⟩) wP wS (fun H locs wP wS => ?_)
              refine lv_ri (y := zI ((spl P a / 16 : Nat) : Int)) (congrArg zI (hO.1 a ha).2.2.1) ?_
              refine lv_aload_n xX xB dX1_sameMoved_62 rfl (lv_at wl 0 rfl) ?_
              refine va_get (D := D) (ci := 1) (v := .ref h) (C := RX1) (T := TX1) (N := 14) xX xB xT in_X1_sameMoved_X1 xO wK.1 wP 0 rfl rfl 0 (by decide) (xT _ (List.mem_of_getElem? (i := 1) rfl)) (fun _ h9 => h9) rfl dX1_sameMoved_63 ?_
              refine lv_iload_n xX xB dX1_sameMoved_66 rfl (lv_at wl 1 rfl) ?_
              refine g_pure (va_runV (As := [.int (zI ((rix P R : Nat) : Int))]) (rest := [.int (zI ((spl P a / 16 : Nat) : Int))]) ⟨xX, xB, xM, xO, xT⟩ (c_X4_lineOf l D kI kB h b0 b1 b2 b3 b4 b5 b6 (sR P 256) RO (rix P R) (by omega)) (cwV 1 xT gX1_sameMoved_X4_lineOf rfl rfl rfl hd_X4_lineOf ⟨Nat.le_of_ble_eq_true rfl, Nat.le_of_ble_eq_true rfl⟩) (g_preV (ci := 4) (q0 := 1) wP wD wK [1, 4] (by decide) rfl rfl rfl) rfl rfl wl.1 rfl (lv_room (Nat.le_of_ble_eq_true rfl)) dX1_sameMoved_67 ⟨Nat.le_of_ble_eq_true rfl, Nat.le_of_ble_eq_true rfl⟩) wP wS (fun H locs wP wS => ?_)
              refine lv_ri (y := zI ((R / 16 : Nat) : Int)) (congrArg zI (hO.ro hR hDR.1).1) ?_
              refine z_isub xX xB dX1_sameMoved_70 ?_
              refine lv_aload_n xX xB dX1_sameMoved_71 rfl (lv_at wl 0 rfl) ?_
              refine va_get (D := D) (ci := 1) (v := .ref h) (C := RX1) (T := TX1) (N := 14) xX xB xT in_X1_sameMoved_X1 xO wK.1 wP 0 rfl rfl 0 (by decide) (xT _ (List.mem_of_getElem? (i := 1) rfl)) (fun _ h9 => h9) rfl dX1_sameMoved_72 ?_
              refine lv_iload xX xB dX1_sameMoved_75 (lv_at wl 4 rfl) ?_
              refine g_pure (va_runV (As := [.int (zI (b : Int))]) (rest := [.int (zI (((spl P a / 16 : Nat) : Int) - ((R / 16 : Nat) : Int)))]) ⟨xX, xB, xM, xO, xT⟩ (c_X4_lineOf l D kI kB h b0 b1 b2 b3 b4 b5 b6 (sR P 256) RO b (by omega)) (cwV 1 xT gX1_sameMoved_X4_lineOf rfl rfl rfl hd_X4_lineOf ⟨Nat.le_of_ble_eq_true rfl, Nat.le_of_ble_eq_true rfl⟩) (g_preV (ci := 4) (q0 := 1) wP wD wK [1, 4] (by decide) rfl rfl rfl) rfl rfl wl.1 rfl (lv_room (Nat.le_of_ble_eq_true rfl)) dX1_sameMoved_77 ⟨Nat.le_of_ble_eq_true rfl, Nat.le_of_ble_eq_true rfl⟩) wP wS (fun H locs wP wS => ?_)
              refine lv_ri (y := zI ((spl P b / 16 : Nat) : Int)) (congrArg zI (hO.1 b hb).2.2.1) ?_
              refine lv_aload_n xX xB dX1_sameMoved_80 rfl (lv_at wl 0 rfl) ?_
              refine va_get (D := D) (ci := 1) (v := .ref h) (C := RX1) (T := TX1) (N := 14) xX xB xT in_X1_sameMoved_X1 xO wK.1 wP 0 rfl rfl 0 (by decide) (xT _ (List.mem_of_getElem? (i := 1) rfl)) (fun _ h9 => h9) rfl dX1_sameMoved_81 ?_
              refine lv_iload_n xX xB dX1_sameMoved_84 rfl (lv_at wl 2 rfl) ?_
              refine g_pure (va_runV (As := [.int (zI ((rix P S : Nat) : Int))]) (rest := [.int (zI ((spl P b / 16 : Nat) : Int)), .int (zI (((spl P a / 16 : Nat) : Int) - ((R / 16 : Nat) : Int)))]) ⟨xX, xB, xM, xO, xT⟩ (c_X4_lineOf l D kI kB h b0 b1 b2 b3 b4 b5 b6 (sR P 256) RO (rix P S) (by omega)) (cwV 1 xT gX1_sameMoved_X4_lineOf rfl rfl rfl hd_X4_lineOf ⟨Nat.le_of_ble_eq_true rfl, Nat.le_of_ble_eq_true rfl⟩) (g_preV (ci := 4) (q0 := 1) wP wD wK [1, 4] (by decide) rfl rfl rfl) rfl rfl wl.1 rfl (lv_room (Nat.le_of_ble_eq_true rfl)) dX1_sameMoved_85 ⟨Nat.le_of_ble_eq_true rfl, Nat.le_of_ble_eq_true rfl⟩) wP wS (fun H locs wP wS => ?_)
              refine lv_ri (y := zI ((S / 16 : Nat) : Int)) (congrArg zI (hO.ro hS hDS.1).1) ?_
              refine z_isub xX xB dX1_sameMoved_88 ?_
              refine t_icmp_ne xX xB dX1_sameMoved_89 dX1_sameMoved_92 dX1_sameMoved_93 dX1_sameMoved_96 (by omega) (by omega) ?_
              refine lv_istore (lv' := [(6, .int (bI (decide (((spl P a / 16 : Nat) : Int) - ((R / 16 : Nat) : Int) = ((spl P b / 16 : Nat) : Int) - ((S / 16 : Nat) : Int))))), (0, .ref o), (1, .int (zI ((rix P R : Nat) : Int))), (2, .int (zI ((rix P S : Nat) : Int))), (3, .int (zI (a : Int))), (4, .int (zI (b : Int))), (5, .int (zI (k : Int)))]) xX xB dX1_sameMoved_97 wl (by decide) rfl (fun ls wl => ?_)
              refine lv_aload_n xX xB dX1_sameMoved_99 rfl (lv_at wl 1 rfl) ?_
              refine va_get (D := D) (ci := 1) (v := .ref h) (C := RX1) (T := TX1) (N := 14) xX xB xT in_X1_sameMoved_X1 xO wK.1 wP 0 rfl rfl 0 (by decide) (xT _ (List.mem_of_getElem? (i := 1) rfl)) (fun _ h9 => h9) rfl dX1_sameMoved_100 ?_
              refine lv_iload_n xX xB dX1_sameMoved_103 rfl (lv_at wl 4 rfl) ?_
              refine g_pure (va_runV (As := [.int (zI (a : Int))]) (rest := []) ⟨xX, xB, xM, xO, xT⟩ (c_X4_start l D kI kB h b0 b1 b2 b3 b4 b5 b6 (sR P 256) SO a (by omega)) (cwV 1 xT gX1_sameMoved_X4_start rfl rfl rfl hd_X4_start ⟨Nat.le_of_ble_eq_true rfl, Nat.le_of_ble_eq_true rfl⟩) (g_preV (ci := 4) (q0 := 1) wP wD wK [1, 2] (by decide) rfl rfl rfl) rfl rfl wl.1 rfl (lv_room (Nat.le_of_ble_eq_true rfl)) dX1_sameMoved_104 ⟨Nat.le_of_ble_eq_true rfl, Nat.le_of_ble_eq_true rfl⟩) wP wS (fun H locs wP wS => ?_)
              refine lv_ri (y := zI ((spl P a % 16 : Nat) : Int)) (congrArg zI (hO.1 a ha).1) ?_
              refine lv_aload_n xX xB dX1_sameMoved_107 rfl (lv_at wl 1 rfl) ?_
              refine va_get (D := D) (ci := 1) (v := .ref h) (C := RX1) (T := TX1) (N := 14) xX xB xT in_X1_sameMoved_X1 xO wK.1 wP 0 rfl rfl 0 (by decide) (xT _ (List.mem_of_getElem? (i := 1) rfl)) (fun _ h9 => h9) rfl dX1_sameMoved_108 ?_
              refine lv_iload_n xX xB dX1_sameMoved_111 rfl (lv_at wl 2 rfl) ?_
              refine g_pure (va_runV (As := [.int (zI ((rix P R : Nat) : Int))]) (rest := [.int (zI ((spl P a % 16 : Nat) : Int))]) ⟨xX, xB, xM, xO, xT⟩ (c_X4_start l D kI kB h b0 b1 b2 b3 b4 b5 b6 (sR P 256) SO (rix P R) (by omega)) (cwV 1 xT gX1_sameMoved_X4_start rfl rfl rfl hd_X4_start ⟨Nat.le_of_ble_eq_true rfl, Nat.le_of_ble_eq_true rfl⟩) (g_preV (ci := 4) (q0 := 1) wP wD wK [1, 2] (by decide) rfl rfl rfl) rfl rfl wl.1 rfl (lv_room (Nat.le_of_ble_eq_true rfl)) dX1_sameMoved_112 ⟨Nat.le_of_ble_eq_true rfl, Nat.le_of_ble_eq_true rfl⟩) wP wS (fun H locs wP wS => ?_)
              refine lv_ri (y := zI ((R % 16 : Nat) : Int)) (congrArg zI (hO.ro hR hDR.1).2) ?_
              refine z_isub xX xB dX1_sameMoved_115 ?_
              refine lv_aload_n xX xB dX1_sameMoved_116 rfl (lv_at wl 1 rfl) ?_
              refine va_get (D := D) (ci := 1) (v := .ref h) (C := RX1) (T := TX1) (N := 14) xX xB xT in_X1_sameMoved_X1 xO wK.1 wP 0 rfl rfl 0 (by decide) (xT _ (List.mem_of_getElem? (i := 1) rfl)) (fun _ h9 => h9) rfl dX1_sameMoved_117 ?_
              refine lv_iload xX xB dX1_sameMoved_120 (lv_at wl 5 rfl) ?_
              refine g_pure (va_runV (As := [.int (zI (b : Int))]) (rest := [.int (zI (((spl P a % 16 : Nat) : Int) - ((R % 16 : Nat) : Int)))]) ⟨xX, xB, xM, xO, xT⟩ (c_X4_start l D kI kB h b0 b1 b2 b3 b4 b5 b6 (sR P 256) SO b (by omega)) (cwV 1 xT gX1_sameMoved_X4_start rfl rfl rfl hd_X4_start ⟨Nat.le_of_ble_eq_true rfl, Nat.le_of_ble_eq_true rfl⟩) (g_preV (ci := 4) (q0 := 1) wP wD wK [1, 2] (by decide) rfl rfl rfl) rfl rfl wl.1 rfl (lv_room (Nat.le_of_ble_eq_true rfl)) dX1_sameMoved_122 ⟨Nat.le_of_ble_eq_true rfl, Nat.le_of_ble_eq_true rfl⟩) wP wS (fun H locs wP wS => ?_)
              refine lv_ri (y := zI ((spl P b % 16 : Nat) : Int)) (congrArg zI (hO.1 b hb).1) ?_
              refine lv_aload_n xX xB dX1_sameMoved_125 rfl (lv_at wl 1 rfl) ?_
              refine va_get (D := D) (ci := 1) (v := .ref h) (C := RX1) (T := TX1) (N := 14) xX xB xT in_X1_sameMoved_X1 xO wK.1 wP 0 rfl rfl 0 (by decide) (xT _ (List.mem_of_getElem? (i := 1) rfl)) (fun _ h9 => h9) rfl dX1_sameMoved_126 ?_
              refine lv_iload_n xX xB dX1_sameMoved_129 rfl (lv_at wl 3 rfl) ?_
              refine g_pure (va_runV (As := [.int (zI ((rix P S : Nat) : Int))]) (rest := [.int (zI ((spl P b % 16 : Nat) : Int)), .int (zI (((spl P a % 16 : Nat) : Int) - ((R % 16 : Nat) : Int)))]) ⟨xX, xB, xM, xO, xT⟩ (c_X4_start l D kI kB h b0 b1 b2 b3 b4 b5 b6 (sR P 256) SO (rix P S) (by omega)) (cwV 1 xT gX1_sameMoved_X4_start rfl rfl rfl hd_X4_start ⟨Nat.le_of_ble_eq_true rfl, Nat.le_of_ble_eq_true rfl⟩) (g_preV (ci := 4) (q0 := 1) wP wD wK [1, 2] (by decide) rfl rfl rfl) rfl rfl wl.1 rfl (lv_room (Nat.le_of_ble_eq_true rfl)) dX1_sameMoved_130 ⟨Nat.le_of_ble_eq_true rfl, Nat.le_of_ble_eq_true rfl⟩) wP wS (fun H locs wP wS => ?_)
              refine lv_ri (y := zI ((S % 16 : Nat) : Int)) (congrArg zI (hO.ro hS hDS.1).2) ?_
              refine z_isub xX xB dX1_sameMoved_133 ?_
              refine t_icmp_ne xX xB dX1_sameMoved_134 dX1_sameMoved_137 dX1_sameMoved_138 dX1_sameMoved_141 (by omega) (by omega) ?_
              refine lv_istore (lv' := [(7, .int (bI (decide (((spl P a % 16 : Nat) : Int) - ((R % 16 : Nat) : Int) = ((spl P b % 16 : Nat) : Int) - ((S % 16 : Nat) : Int))))), (6, .int (bI (decide (((spl P a / 16 : Nat) : Int) - ((R / 16 : Nat) : Int) = ((spl P b / 16 : Nat) : Int) - ((S / 16 : Nat) : Int))))), (0, .ref o), (1, .int (zI ((rix P R : Nat) : Int))), (2, .int (zI ((rix P S : Nat) : Int))), (3, .int (zI (a : Int))), (4, .int (zI (b : Int))), (5, .int (zI (k : Int)))]) xX xB dX1_sameMoved_142 wl (by decide) rfl (fun ls wl => ?_)
              refine lv_iload xX xB dX1_sameMoved_144 (lv_at wl 1 rfl) ?_
              refine b_if_eq (tgt := 174) xX xB dX1_sameMoved_146 (by decide) (fun h146 => ?_) (fun h146 => ?_)
              · skip
                refine z_iconst xX xB dX1_sameMoved_174 ?_
                refine lv_ri (y := bI false) rfl ?_
                subst hQ
                exact g_zret xX xB xR xL wS dX1_sameMoved_175 (hI.no hR hS hDR.2 hDS.2 ha hb (fun z => of_decide_eq_false h146 (by have z1 := z.1; omega))).symm
              · skip
                refine lv_iload xX xB dX1_sameMoved_149 (lv_at wl 0 rfl) ?_
                refine b_if_eq (tgt := 174) xX xB dX1_sameMoved_151 (by decide) (fun h151 => ?_) (fun h151 => ?_)
                · skip
                  refine z_iconst xX xB dX1_sameMoved_174 ?_
                  refine lv_ri (y := bI false) rfl ?_
                  subst hQ
                  exact g_zret xX xB xR xL wS dX1_sameMoved_175 (hI.no hR hS hDR.2 hDS.2 ha hb (fun z => of_decide_eq_false h151 (by have z1 := z.2.1; omega))).symm
                · skip
                  refine lv_aload_n xX xB dX1_sameMoved_154 rfl (lv_at wl 2 rfl) ?_
                  refine va_get (D := D) (ci := 1) (v := .ref h) (C := RX1) (T := TX1) (N := 14) xX xB xT in_X1_sameMoved_X1 xO wK.1 wP 0 rfl rfl 0 (by decide) (xT _ (List.mem_of_getElem? (i := 1) rfl)) (fun _ h9 => h9) rfl dX1_sameMoved_155 ?_
                  refine lv_iload_n xX xB dX1_sameMoved_158 rfl (lv_at wl 5 rfl) ?_
                  refine g_pure (va_runV (As := [.int (zI (a : Int))]) (rest := []) ⟨xX, xB, xM, xO, xT⟩ (c_X4_length l D kI kB h b0 b1 b2 b3 b4 b5 b6 (sR P 256) SO EO a (by omega)) (cwV 1 xT gX1_sameMoved_X4_length rfl rfl rfl hd_X4_length ⟨Nat.le_of_ble_eq_true rfl, Nat.le_of_ble_eq_true rfl⟩) (g_preV (ci := 4) (q0 := 1) wP wD wK [1, 2, 3] (by decide) rfl rfl rfl) rfl rfl wl.1 rfl (lv_room (Nat.le_of_ble_eq_true rfl)) dX1_sameMoved_159 ⟨Nat.le_of_ble_eq_true rfl, Nat.le_of_ble_eq_true rfl⟩) wP wS (fun H locs wP wS => ?_)
                  refine lv_ri (y := zI (((epl P a % 16 : Nat) : Int) - ((spl P a % 16 : Nat) : Int) + 1)) (congrArg zI (by rw [(hO.1 a ha).1, (hO.1 a ha).2.1])) ?_
                  refine lv_aload_n xX xB dX1_sameMoved_162 rfl (lv_at wl 2 rfl) ?_
                  refine va_get (D := D) (ci := 1) (v := .ref h) (C := RX1) (T := TX1) (N := 14) xX xB xT in_X1_sameMoved_X1 xO wK.1 wP 0 rfl rfl 0 (by decide) (xT _ (List.mem_of_getElem? (i := 1) rfl)) (fun _ h9 => h9) rfl dX1_sameMoved_163 ?_
                  refine lv_iload xX xB dX1_sameMoved_166 (lv_at wl 6 rfl) ?_
                  refine g_pure (va_runV (As := [.int (zI (b : Int))]) (rest := [.int (zI (((epl P a % 16 : Nat) : Int) - ((spl P a % 16 : Nat) : Int) + 1))]) ⟨xX, xB, xM, xO, xT⟩ (c_X4_length l D kI kB h b0 b1 b2 b3 b4 b5 b6 (sR P 256) SO EO b (by omega)) (cwV 1 xT gX1_sameMoved_X4_length rfl rfl rfl hd_X4_length ⟨Nat.le_of_ble_eq_true rfl, Nat.le_of_ble_eq_true rfl⟩) (g_preV (ci := 4) (q0 := 1) wP wD wK [1, 2, 3] (by decide) rfl rfl rfl) rfl rfl wl.1 rfl (lv_room (Nat.le_of_ble_eq_true rfl)) dX1_sameMoved_168 ⟨Nat.le_of_ble_eq_true rfl, Nat.le_of_ble_eq_true rfl⟩) wP wS (fun H locs wP wS => ?_)
                  refine lv_ri (y := zI (((epl P b % 16 : Nat) : Int) - ((spl P b % 16 : Nat) : Int) + 1)) (congrArg zI (by rw [(hO.1 b hb).1, (hO.1 b hb).2.1])) ?_
                  refine z_icmp_eq (tgt := 176) xX xB dX1_sameMoved_171 (by decide) (by omega) (by omega) (fun h171 => ?_) (fun h171 => ?_)
                  · skip
                    refine lv_aload_n xX xB dX1_sameMoved_176 rfl (lv_at wl 2 rfl) ?_
                    refine lv_iload_n xX xB dX1_sameMoved_177 rfl (lv_at wl 5 rfl) ?_
                    refine lv_iload_n xX xB dX1_sameMoved_178 rfl (lv_at wl 3 rfl) ?_
                    refine g_pure (va_runV (As := [.int (zI (a : Int)), .int (zI ((rix P R : Nat) : Int))]) (rest := []) ⟨xX, xB, xM, xO, xT⟩ (c_X1_nextOfGroup l D kI kB o h a0 a1 a2 a3 a4 a5 a6 a7 a8 a9 pc hc lc b0 b1 b2 b3 b4 b5 b6 (sR P 256) TW a (rix P R) ha q256 gR hTb) (cwV 2 xT gX1_sameMoved_X1_nextOfGroup rfl rfl rfl hd_X1_nextOfGroup ⟨Nat.le_of_ble_eq_true rfl, Nat.le_of_ble_eq_true rfl⟩) (g_preV (ci := 1) (q0 := 0) wP wD wK [0, 1, 5] (by decide) rfl rfl rfl) rfl rfl wl.1 rfl (lv_room (Nat.le_of_ble_eq_true rfl)) dX1_sameMoved_179 ⟨Nat.le_of_ble_eq_true rfl, Nat.le_of_ble_eq_true rfl⟩) wP wS (fun H locs wP wS => ?_)
                    refine lv_istore_n (lv' := [(3, .int (zI ((nxG TW (sR P 256) (rix P R) (a + 1) : Nat) : Int))), (7, .int (bI (decide (((spl P a % 16 : Nat) : Int) - ((R % 16 : Nat) : Int) = ((spl P b % 16 : Nat) : Int) - ((S % 16 : Nat) : Int))))), (6, .int (bI (decide (((spl P a / 16 : Nat) : Int) - ((R / 16 : Nat) : Int) = ((spl P b / 16 : Nat) : Int) - ((S / 16 : Nat) : Int))))), (0, .ref o), (1, .int (zI ((rix P R : Nat) : Int))), (2, .int (zI ((rix P S : Nat) : Int))), (4, .int (zI (b : Int))), (5, .int (zI (k : Int)))]) xX xB dX1_sameMoved_182 rfl wl (by decide) rfl (fun ls wl => ?_)
                    refine lv_aload_n xX xB dX1_sameMoved_183 rfl (lv_at wl 3 rfl) ?_
                    refine lv_iload xX xB dX1_sameMoved_184 (lv_at wl 6 rfl) ?_
                    refine lv_iload_n xX xB dX1_sameMoved_186 rfl (lv_at wl 5 rfl) ?_
                    refine g_pure (va_runV (As := [.int (zI (b : Int)), .int (zI ((rix P S : Nat) : Int))]) (rest := []) ⟨xX, xB, xM, xO, xT⟩ (c_X1_nextOfGroup l D kI kB o h a0 a1 a2 a3 a4 a5 a6 a7 a8 a9 pc hc lc b0 b1 b2 b3 b4 b5 b6 (sR P 256) TW b (rix P S) hb q256 gS hTb) (cwV 2 xT gX1_sameMoved_X1_nextOfGroup rfl rfl rfl hd_X1_nextOfGroup ⟨Nat.le_of_ble_eq_true rfl, Nat.le_of_ble_eq_true rfl⟩) (g_preV (ci := 1) (q0 := 0) wP wD wK [0, 1, 5] (by decide) rfl rfl rfl) rfl rfl wl.1 rfl (lv_room (Nat.le_of_ble_eq_true rfl)) dX1_sameMoved_187 ⟨Nat.le_of_ble_eq_true rfl, Nat.le_of_ble_eq_true rfl⟩) wP wS (fun H locs wP wS => ?_)
                    refine lv_istore (lv' := [(4, .int (zI ((nxG TW (sR P 256) (rix P S) (b + 1) : Nat) : Int))), (3, .int (zI ((nxG TW (sR P 256) (rix P R) (a + 1) : Nat) : Int))), (7, .int (bI (decide (((spl P a % 16 : Nat) : Int) - ((R % 16 : Nat) : Int) = ((spl P b % 16 : Nat) : Int) - ((S % 16 : Nat) : Int))))), (6, .int (bI (decide (((spl P a / 16 : Nat) : Int) - ((R / 16 : Nat) : Int) = ((spl P b / 16 : Nat) : Int) - ((S / 16 : Nat) : Int))))), (0, .ref o), (1, .int (zI ((rix P R : Nat) : Int))), (2, .int (zI ((rix P S : Nat) : Int))), (5, .int (zI (k : Int)))]) xX xB dX1_sameMoved_190 wl (by decide) rfl (fun ls wl => ?_)
                    refine lv_iinc (v := zI ((k : Int) + 1)) (lv' := [(5, .int (zI ((k : Int) + 1))), (4, .int (zI ((nxG TW (sR P 256) (rix P S) (b + 1) : Nat) : Int))), (3, .int (zI ((nxG TW (sR P 256) (rix P R) (a + 1) : Nat) : Int))), (7, .int (bI (decide (((spl P a % 16 : Nat) : Int) - ((R % 16 : Nat) : Int) = ((spl P b % 16 : Nat) : Int) - ((S % 16 : Nat) : Int))))), (6, .int (bI (decide (((spl P a / 16 : Nat) : Int) - ((R / 16 : Nat) : Int) = ((spl P b / 16 : Nat) : Int) - ((S / 16 : Nat) : Int))))), (0, .ref o), (1, .int (zI ((rix P R : Nat) : Int))), (2, .int (zI ((rix P S : Nat) : Int)))]) xX xB dX1_sameMoved_192 wl (k := 7) rfl (zI_add _ _) (by decide) rfl (fun ls wl => ?_)
                    refine lv_goto (tgt := 23) xX xB dX1_sameMoved_195 (by decide) ?_
                    obtain ⟨fa1, fa2, fa3, fa4⟩ := nx_facts hO hR hDR.1 ha
                    obtain ⟨fb1, fb2, fb3, fb4⟩ := nx_facts hO hS hDS.1 hb
                    have t6 := of_decide_eq_true h146
                    have t7 := of_decide_eq_true h151
                    exact ihK (nxG TW (sR P 256) (rix P R) (a + 1)) (nxG TW (sR P 256) (rix P S) (b + 1)) (k + 1) (by omega) (hI.step ha hb fa1 fb1 fa2 fb2 fa4 fb4 fa3 fb3 (by omega) (by omega) (by omega)) (by omega) _ _ _ wP wS (lv_sub wl [5, 6, 7, 2, 1, 0] rfl)
                  · skip
                    refine z_iconst xX xB dX1_sameMoved_174 ?_
                    refine lv_ri (y := bI false) rfl ?_
                    subst hQ
                    exact g_zret xX xB xR xL wS dX1_sameMoved_175 (hI.no hR hS hDR.2 hDS.2 ha hb (fun z => h171 (by have z1 := z.2.2; omega))).symm
    exact K _ (rix P R) (rix P S) 0 (Nat.lt_succ_self _) (SmI.z hR hS hDR.1 hDS.1) (by omega) _ _ _ wP wS (lv_sub wl [3, 4, 5, 2, 1, 0] rfl)
  · skip
    refine z_iconst xX xB dX1_sameMoved_13 ?_
    refine lv_ri (y := bI false) rfl ?_
    subst hQ
    exact g_zret xX xB xR xL wS dX1_sameMoved_14 (by cases e : alN P m8 R S 256; rfl; exact absurd ((alN_iff 256).mp e).1 (fun z => h10 (by rw [z])))
