set_option maxRecDepth 20000 in
theorem in_X6_rowAt_X6 : ∀ w ∈ u_ws RX6 TX6 17, w ∈ wsX6_rowAt := by decide +kernel
set_option maxRecDepth 20000 in
theorem in_X6_told_X6 : ∀ w ∈ u_ws RX6 TX6 17, w ∈ wsX6_told := by decide +kernel
theorem hdn_X6_runsOf : yX6_runsOf.cls ≠ "java/lang/invoke/MethodHandle" ∧ yX6_runsOf.cls ≠ "java/lang/invoke/VarHandle" ∧ (parseMethodDescriptor yX6_runsOf.desc).map (fun d => d.parameters.length) = some 1 := by decide +kernel
theorem hd_X6_darkOf : yX6_darkOf.cls = RX6 ∧ yX6_darkOf.cls ≠ "java/lang/invoke/MethodHandle" ∧ yX6_darkOf.cls ≠ "java/lang/invoke/VarHandle" ∧ (parseMethodDescriptor yX6_darkOf.desc).map (fun d => d.parameters.length) = some 1 := by decide +kernel
theorem hd_X6_deep : yX6_deep.cls = RX6 ∧ yX6_deep.cls ≠ "java/lang/invoke/MethodHandle" ∧ yX6_deep.cls ≠ "java/lang/invoke/VarHandle" ∧ (parseMethodDescriptor yX6_deep.desc).map (fun d => d.parameters.length) = some 1 := by decide +kernel
theorem hd_X6_largest : yX6_largest.cls = RX6 ∧ yX6_largest.cls ≠ "java/lang/invoke/MethodHandle" ∧ yX6_largest.cls ≠ "java/lang/invoke/VarHandle" ∧ (parseMethodDescriptor yX6_largest.desc).map (fun d => d.parameters.length) = some 0 := by decide +kernel
set_option maxHeartbeats 4000000 in
set_option maxRecDepth 100000 in
theorem c_X6_rowAt (l : Launch) (D : va_G) (kI kB : ClassId) (h : Nat) (a0 : Nat) (a1 : Nat) (a3 : Nat) (a4 : Nat) (a8 : Nat) (a9 : Nat) (a10 : Nat) (a13 : Nat) (a14 : Nat) (a15 : Nat) (a16 : Nat) (sd : Int) (dM : Int) (lM : Int) (hM : Int) (um : Nat) (ua : Nat) (F : Nat → Int) (P : Nat → Nat) (r : Int) (w : Int) (hF : Pic F P) (rr : -2147483648 ≤ r ∧ r ≤ 2147483647) (rw : -2147483648 ≤ w ∧ w ≤ 2147483647) : gI l yX6_rowAt wsX6_rowAt ({ frames := 2, cells := 0, slots := 0, locals := 42 } : Room) D kI kB [.ref h, .int (zI r), .int (zI w)] [(h, .inr (6, [.ref a0, .ref a1, .int (zI sd), .ref a3, .ref a4, .int (zI dM), .int (zI lM), .int (zI hM), .ref a8, .ref a9, .ref a10, .int (zI (um : Int)), .int (zI (ua : Int)), .ref a13, .ref a14, .ref a15, .ref a16])), (a0, .inl (kI, 17, .inl (aZ F)))] (zI (rowS P r w)) := by
  refine g_start (cc := cX6_rowAt) (maxL := 3) (ret := (some .int)) (by decide) rfl (Nat.le_of_ble_eq_true rfl) ?_
  intro xp xe xs xm xbl xmt xc xX xB xR xM xT xO xL xN wP wD wK ls wl
  have wS : va_S (fun _ => False) xs.heap xs.heap [] := va_S.rf
  have wl : lv_has ls 3 [(0, .ref h), (1, .int (zI r)), (2, .int (zI w))] := wl
  refine lv_iload_n xX xB dX6_rowAt_0 rfl (lv_at wl 1 rfl) ?_
  refine z_iconst xX xB dX6_rowAt_1 ?_
  refine z_bipush xX xB dX6_rowAt_2 (by decide) ?_
  refine g_pure (va_runS (As := [.int (zI r), .int (zI 0), .int (zI 15)]) (rest := []) ⟨xX, xB, xM, xO, xT⟩ (c_X6_in l D kI kB r 0 15 (by omega) (by omega) (by omega)) (va_cwS 3 xT gX6_rowAt_X6_in rfl rfl rfl hdn_X6_in ⟨Nat.le_of_ble_eq_true rfl, Nat.le_of_ble_eq_true rfl⟩) (g_preS wP wD wK [] (by decide) rfl) rfl rfl wl.1 rfl (lv_room (Nat.le_of_ble_eq_true rfl)) dX6_rowAt_4 ⟨Nat.le_of_ble_eq_true rfl, Nat.le_of_ble_eq_true rfl⟩) wP wS (fun H locs wP wS => ?_)
  refine b_if_ne (tgt := 15) xX xB dX6_rowAt_7 (by decide) (fun h7 => ?_) (fun h7 => ?_)
  · skip
    refine lv_iload_n xX xB dX6_rowAt_15 rfl (lv_at wl 2 rfl) ?_
    refine z_if_ne (tgt := 28) xX xB dX6_rowAt_16 (by decide) (by omega) (fun h16 => ?_) (fun h16 => ?_)
    · skip
      refine lv_iload_n xX xB dX6_rowAt_28 rfl (lv_at wl 2 rfl) ?_
      refine z_iconst xX xB dX6_rowAt_29 ?_
      refine z_icmp_ne (tgt := 45) xX xB dX6_rowAt_30 (by decide) (by omega) (by omega) (fun h30 => ?_) (fun h30 => ?_)
      · skip
        refine z_ldc xX xB (-1000000002) (by decide) xO (xT _ (List.mem_of_getElem? (i := 3) rfl)) dX6_rowAt_45 ?_
        exact g_iret xX xB xR xL wS dX6_rowAt_47 (congrArg zI (by unfold rowS; rw [if_pos (of_decide_eq_true h7), if_neg h16, if_neg h30]))
      · skip
        refine lv_aload_n xX xB dX6_rowAt_33 rfl (lv_at wl 0 rfl) ?_
        refine va_get (D := D) (ci := 6) (v := .ref a0) (C := RX6) (T := TX6) (N := 17) xX xB xT in_X6_rowAt_X6 xO wK.1 wP 0 rfl rfl 0 (by decide) (xT _ (List.mem_of_getElem? (i := 2) rfl)) (fun _ h9 => h9) rfl dX6_rowAt_34 ?_
        refine lv_iload_n xX xB dX6_rowAt_37 rfl (lv_at wl 1 rfl) ?_
        refine z_iald xX xB wK wP 1 rfl r.toNat (by have := of_decide_eq_true h7; omega) (by have := of_decide_eq_true h7; omega) (Nat.le_of_ble_eq_true rfl) dX6_rowAt_38 ?_
        refine lv_ri (y := zI (P r.toNat : Int)) (congrArg zI (hF r.toNat (by have := of_decide_eq_true h7; omega)).1) ?_
        refine g_pure (va_runS (As := [.int (zI ((P r.toNat : Nat) : Int))]) (rest := []) ⟨xX, xB, xM, xO, xT⟩ (c_X6_runsOf l D kI kB (P r.toNat) (hF _ (by have := of_decide_eq_true h7; omega)).2) (va_cwS 1 xT gX6_rowAt_X6_runsOf rfl rfl rfl hdn_X6_runsOf ⟨Nat.le_of_ble_eq_true rfl, Nat.le_of_ble_eq_true rfl⟩) (g_preS wP wD wK [] (by decide) rfl) rfl rfl wl.1 rfl (lv_room (Nat.le_of_ble_eq_true rfl)) dX6_rowAt_39 ⟨Nat.le_of_ble_eq_true rfl, Nat.le_of_ble_eq_true rfl⟩) wP wS (fun H locs wP wS => ?_)
        refine lv_goto (tgt := 47) xX xB dX6_rowAt_42 (by decide) ?_
        exact g_iret xX xB xR xL wS dX6_rowAt_47 (congrArg zI (by unfold rowS; first | rw [if_pos (of_decide_eq_true h7), if_pos h16] | rw [if_pos (of_decide_eq_true h7), if_neg h16, if_pos h30]))
    · skip
      refine lv_aload_n xX xB dX6_rowAt_19 rfl (lv_at wl 0 rfl) ?_
      refine va_get (D := D) (ci := 6) (v := .ref a0) (C := RX6) (T := TX6) (N := 17) xX xB xT in_X6_rowAt_X6 xO wK.1 wP 0 rfl rfl 0 (by decide) (xT _ (List.mem_of_getElem? (i := 2) rfl)) (fun _ h9 => h9) rfl dX6_rowAt_20 ?_
      refine lv_iload_n xX xB dX6_rowAt_23 rfl (lv_at wl 1 rfl) ?_
      refine z_iald xX xB wK wP 1 rfl r.toNat (by have := of_decide_eq_true h7; omega) (by have := of_decide_eq_true h7; omega) (Nat.le_of_ble_eq_true rfl) dX6_rowAt_24 ?_
      refine lv_ri (y := zI (P r.toNat : Int)) (congrArg zI (hF r.toNat (by have := of_decide_eq_true h7; omega)).1) ?_
      refine lv_goto (tgt := 47) xX xB dX6_rowAt_25 (by decide) ?_
      exact g_iret xX xB xR xL wS dX6_rowAt_47 (congrArg zI (by unfold rowS; first | rw [if_pos (of_decide_eq_true h7), if_pos h16] | rw [if_pos (of_decide_eq_true h7), if_neg h16, if_pos h30]))
  · skip
    refine z_ldc xX xB (-1000000001) (by decide) xO (xT _ (List.mem_of_getElem? (i := 1) rfl)) dX6_rowAt_10 ?_
    refine lv_goto (tgt := 47) xX xB dX6_rowAt_12 (by decide) ?_
    exact g_iret xX xB xR xL wS dX6_rowAt_47 (congrArg zI (by unfold rowS; rw [if_neg (of_decide_eq_false h7)]))

set_option maxHeartbeats 4000000 in
set_option maxRecDepth 100000 in
theorem c_X6_told (l : Launch) (D : va_G) (kI kB : ClassId) (h : Nat) (a0 : Nat) (a1 : Nat) (a3 : Nat) (a4 : Nat) (a8 : Nat) (a9 : Nat) (a10 : Nat) (a13 : Nat) (a14 : Nat) (a15 : Nat) (a16 : Nat) (sd : Int) (dM : Int) (lM : Int) (hM : Int) (um : Nat) (ua : Nat) (F : Nat → Int) (P : Nat → Nat) (m8 : Bool) (NU : Nat → Int) (QU : Nat → Int) (DF : Nat → Int) (LF : Nat → Int) (HA : Nat → Int) (w : Int) (hF : Pic F P) (rm16 : -2147483648 ≤ F 16 ∧ F 16 ≤ 2147483647) (hm : m8 = decide (F 16 = 8)) (rw : -2147483648 ≤ w ∧ w ≤ 2147483647) (hum : um ≤ 30) : gM l yX6_told wsX6_told ({ frames := 5, cells := 0, slots := 0, locals := 113 } : Room) D kI kB [.ref h, .int (zI w)] [(h, .inr (6, [.ref a0, .ref a1, .int (zI sd), .ref a3, .ref a4, .int (zI dM), .int (zI lM), .int (zI hM), .ref a8, .ref a9, .ref a10, .int (zI (um : Int)), .int (zI (ua : Int)), .ref a13, .ref a14, .ref a15, .ref a16])), (a0, .inl (kI, 17, .inl (aZ F))), (a3, .inl (kI, 256, .inl (aZ NU))), (a4, .inl (kI, 256, .inl (aZ QU))), (a8, .inl (kI, 128, .inl (aZ DF))), (a9, .inl (kI, 128, .inl (aZ LF))), (a10, .inl (kI, 128, .inl (aZ HA)))] (fun (w_ : Int × Int × Int × (Nat → Int) × (Nat → Int) × (Nat → Int) × (Nat → Int) × (Nat → Int)) => [(h, .inr (6, [.ref a0, .ref a1, .int (zI sd), .ref a3, .ref a4, .int (zI (w_.1)), .int (zI (w_.2.1)), .int (zI (w_.2.2.1)), .ref a8, .ref a9, .ref a10, .int (zI (um : Int)), .int (zI (ua : Int)), .ref a13, .ref a14, .ref a15, .ref a16])), (a0, .inl (kI, 17, .inl (aZ F))), (a3, .inl (kI, 256, .inl (aZ (w_.2.2.2.1)))), (a4, .inl (kI, 256, .inl (aZ (w_.2.2.2.2.1)))), (a8, .inl (kI, 128, .inl (aZ (w_.2.2.2.2.2.1)))), (a9, .inl (kI, 128, .inl (aZ (w_.2.2.2.2.2.2.1)))), (a10, .inl (kI, 128, .inl (aZ (w_.2.2.2.2.2.2.2))))]) (fun (r : Int32) (w_ : Int × Int × Int × (Nat → Int) × (Nat → Int) × (Nat → Int) × (Nat → Int) × (Nat → Int)) => r = zI (toldS P m8 (F 16) um w) ∧ True) := by
  refine g_start (cc := cX6_told) (maxL := 4) (ret := (some .int)) (by decide) rfl (Nat.le_of_ble_eq_true rfl) ?_
  intro xp xe xs xm xbl xmt xc xX xB xR xM xT xO xL xN wP wD wK ls wl
  have wS : va_S (gA [(h, .inr (6, [.ref a0, .ref a1, .int (zI sd), .ref a3, .ref a4, .int (zI dM), .int (zI lM), .int (zI hM), .ref a8, .ref a9, .ref a10, .int (zI (um : Int)), .int (zI (ua : Int)), .ref a13, .ref a14, .ref a15, .ref a16])), (a0, .inl (kI, 17, .inl (aZ F))), (a3, .inl (kI, 256, .inl (aZ NU))), (a4, .inl (kI, 256, .inl (aZ QU))), (a8, .inl (kI, 128, .inl (aZ DF))), (a9, .inl (kI, 128, .inl (aZ LF))), (a10, .inl (kI, 128, .inl (aZ HA)))]) xs.heap xs.heap [] := va_S.rf
  have wl : lv_has ls 4 [(0, .ref h), (1, .int (zI w))] := wl
  generalize hQ : MQ xbl _ _ xs 0 0 _ = xQ
  have hcb := cD_128 (P := P) (m8 := m8)
  refine lv_aload_n xX xB dX6_told_0 rfl (lv_at wl 0 rfl) ?_
  refine lv_aload_n xX xB dX6_told_1 rfl (lv_at wl 0 rfl) ?_
  refine va_get (D := D) (ci := 6) (v := .ref a0) (C := RX6) (T := TX6) (N := 17) xX xB xT in_X6_told_X6 xO wK.1 wP 0 rfl rfl 0 (by decide) (xT _ (List.mem_of_getElem? (i := 1) rfl)) (fun _ h9 => h9) rfl dX6_told_2 ?_
  refine g_modv (va_runV (As := [.ref a0]) (rest := []) ⟨xX, xB, xM, xO, xT⟩ (c_X6_parts l D kI kB h a0 a1 a3 a4 a8 a9 a10 a13 a14 a15 a16 sd dM lM hM (um : Int) (ua : Int) a0 F P m8 NU QU DF LF HA hF rm16 hm) (cwV 1 xT gX6_told_X6_parts rfl rfl rfl hd_X6_parts ⟨Nat.le_of_ble_eq_true rfl, Nat.le_of_ble_eq_true rfl⟩) (g_preV (ci := 6) (q0 := 0) wP wD wK [0, 1, 2, 3, 4, 5, 6] (by decide) rfl rfl rfl) rfl rfl wl.1 rfl (lv_room (Nat.le_of_ble_eq_true rfl)) dX6_told_5 ⟨Nat.le_of_ble_eq_true rfl, Nat.le_of_ble_eq_true rfl⟩) wP wD wS [0, 1, 2, 3, 4, 5, 6] rfl (fun _ => rfl) (fun u_ H locs hc5 wP wD wS => ?_)
  obtain ⟨NU1_1, QU1_2, DF1_3, LF1_4, HA1_5⟩ := u_
  try dsimp only at hc5
  have wP : va_P D gC [(h, .inr (6, [.ref a0, .ref a1, .int (zI sd), .ref a3, .ref a4, .int (zI ((cD P m8 256 : Nat) : Int)), .int (zI ((cL P m8 256 : Nat) : Int)), .int (zI ((cH P m8 256 : Nat) : Int)), .ref a8, .ref a9, .ref a10, .int (zI (um : Int)), .int (zI (ua : Int)), .ref a13, .ref a14, .ref a15, .ref a16])), (a0, .inl (kI, 17, .inl (aZ F))), (a3, .inl (kI, 256, .inl (aZ NU1_1))), (a4, .inl (kI, 256, .inl (aZ QU1_2))), (a8, .inl (kI, 128, .inl (aZ DF1_3))), (a9, .inl (kI, 128, .inl (aZ LF1_4))), (a10, .inl (kI, 128, .inl (aZ HA1_5)))] H := wP
  have wD : va_D (gA [(h, .inr (6, [.ref a0, .ref a1, .int (zI sd), .ref a3, .ref a4, .int (zI dM), .int (zI lM), .int (zI hM), .ref a8, .ref a9, .ref a10, .int (zI (um : Int)), .int (zI (ua : Int)), .ref a13, .ref a14, .ref a15, .ref a16])), (a0, .inl (kI, 17, .inl (aZ F))), (a3, .inl (kI, 256, .inl (aZ NU))), (a4, .inl (kI, 256, .inl (aZ QU))), (a8, .inl (kI, 128, .inl (aZ DF))), (a9, .inl (kI, 128, .inl (aZ LF))), (a10, .inl (kI, 128, .inl (aZ HA)))]) [(h, .inr (6, [.ref a0, .ref a1, .int (zI sd), .ref a3, .ref a4, .int (zI ((cD P m8 256 : Nat) : Int)), .int (zI ((cL P m8 256 : Nat) : Int)), .int (zI ((cH P m8 256 : Nat) : Int)), .ref a8, .ref a9, .ref a10, .int (zI (um : Int)), .int (zI (ua : Int)), .ref a13, .ref a14, .ref a15, .ref a16])), (a0, .inl (kI, 17, .inl (aZ F))), (a3, .inl (kI, 256, .inl (aZ NU1_1))), (a4, .inl (kI, 256, .inl (aZ QU1_2))), (a8, .inl (kI, 128, .inl (aZ DF1_3))), (a9, .inl (kI, 128, .inl (aZ LF1_4))), (a10, .inl (kI, 128, .inl (aZ HA1_5)))] := wD
  refine z_iconst xX xB dX6_told_8 ?_
  refine lv_istore_n (lv' := [(2, .int (zI 0)), (0, .ref h), (1, .int (zI w))]) xX xB dX6_told_9 rfl wl (by decide) rfl (fun ls wl => ?_)
  refine lv_iload_n xX xB dX6_told_10 rfl (lv_at wl 2 rfl) ?_
  by_cases h11 : w < 0 ∨ 10 < w
  · refine z_tableOut (tgt := 231) xX xB dX6_told_11 (by omega) h11 (by decide) ?_
    refine z_ldc xX xB (-1000000002) (by decide) xO (xT _ (List.mem_of_getElem? (i := 6) rfl)) dX6_told_231 ?_
    subst hQ
    exact g_mret (((cD P m8 256 : Nat) : Int), ((cL P m8 256 : Nat) : Int), ((cH P m8 256 : Nat) : Int), NU1_1, QU1_2, DF1_3, LF1_4, HA1_5) xX xB xR xL wP wS dX6_told_233 ⟨congrArg zI (toldS_out h11).symm, trivial⟩
  · rcases (show w = 0 ∨ w = 1 ∨ w = 2 ∨ w = 3 ∨ w = 4 ∨ w = 5 ∨ w = 6 ∨ w = 7 ∨ w = 8 ∨ w = 9 ∨ w = 10 by omega) with rfl | rfl | rfl | rfl | rfl | rfl | rfl | rfl | rfl | rfl | rfl
    · refine z_tableIn (off := 57) (tgt := 68) 0 xX xB dX6_told_11 (by omega) (by omega) (by omega) rfl (by decide) ?_
      refine lv_aload_n xX xB dX6_told_68 rfl (lv_at wl 1 rfl) ?_
      refine va_get (D := D) (ci := 6) (v := .ref a0) (C := RX6) (T := TX6) (N := 17) xX xB xT in_X6_told_X6 xO wK.1 wP 0 rfl rfl 0 (by decide) (xT _ (List.mem_of_getElem? (i := 1) rfl)) (fun _ h9 => h9) rfl dX6_told_69 ?_
      refine z_bipush xX xB dX6_told_72 (by decide) ?_
      refine z_iald xX xB wK wP 1 rfl 16 rfl (by decide) (Nat.le_of_ble_eq_true rfl) dX6_told_74 ?_
      subst hQ
      exact g_mret (((cD P m8 256 : Nat) : Int), ((cL P m8 256 : Nat) : Int), ((cH P m8 256 : Nat) : Int), NU1_1, QU1_2, DF1_3, LF1_4, HA1_5) xX xB xR xL wP wS dX6_told_75 ⟨rfl, trivial⟩
    · refine z_tableIn (off := 65) (tgt := 76) 1 xX xB dX6_told_11 (by omega) (by omega) (by omega) rfl (by decide) ?_
      refine lv_aload_n xX xB dX6_told_76 rfl (lv_at wl 1 rfl) ?_
      refine lv_aload_n xX xB dX6_told_77 rfl (lv_at wl 1 rfl) ?_
      refine va_get (D := D) (ci := 6) (v := .ref a0) (C := RX6) (T := TX6) (N := 17) xX xB xT in_X6_told_X6 xO wK.1 wP 0 rfl rfl 0 (by decide) (xT _ (List.mem_of_getElem? (i := 1) rfl)) (fun _ h9 => h9) rfl dX6_told_78 ?_
      refine g_pure (va_runV (As := [.ref a0]) (rest := []) ⟨xX, xB, xM, xO, xT⟩ (c_X6_darkOf l D kI kB h a0 a1 a3 a4 a8 a9 a10 a13 a14 a15 a16 sd ((cD P m8 256 : Nat) : Int) ((cL P m8 256 : Nat) : Int) ((cH P m8 256 : Nat) : Int) (um : Int) (ua : Int) a0 F P hF) (cwV 1 xT gX6_told_X6_darkOf rfl rfl rfl hd_X6_darkOf ⟨Nat.le_of_ble_eq_true rfl, Nat.le_of_ble_eq_true rfl⟩) (g_preV (ci := 6) (q0 := 0) wP wD wK [0, 1] (by decide) rfl rfl rfl) rfl rfl wl.1 rfl (lv_room (Nat.le_of_ble_eq_true rfl)) dX6_told_81 ⟨Nat.le_of_ble_eq_true rfl, Nat.le_of_ble_eq_true rfl⟩) wP wS (fun H locs wP wS => ?_)
      subst hQ
      exact g_mret (((cD P m8 256 : Nat) : Int), ((cL P m8 256 : Nat) : Int), ((cH P m8 256 : Nat) : Int), NU1_1, QU1_2, DF1_3, LF1_4, HA1_5) xX xB xR xL wP wS dX6_told_84 ⟨rfl, trivial⟩
    · refine z_tableIn (off := 74) (tgt := 85) 2 xX xB dX6_told_11 (by omega) (by omega) (by omega) rfl (by decide) ?_
      refine lv_aload_n xX xB dX6_told_85 rfl (lv_at wl 1 rfl) ?_
      refine va_get (D := D) (ci := 6) (v := .int (zI ((cD P m8 256 : Nat) : Int))) (C := RX6) (T := TX6) (N := 17) xX xB xT in_X6_told_X6 xO wK.1 wP 0 rfl rfl 5 (by decide) (xT _ (List.mem_of_getElem? (i := 2) rfl)) (fun _ h9 => h9) rfl dX6_told_86 ?_
      subst hQ
      exact g_mret (((cD P m8 256 : Nat) : Int), ((cL P m8 256 : Nat) : Int), ((cH P m8 256 : Nat) : Int), NU1_1, QU1_2, DF1_3, LF1_4, HA1_5) xX xB xR xL wP wS dX6_told_89 ⟨rfl, trivial⟩
    · refine z_tableIn (off := 79) (tgt := 90) 3 xX xB dX6_told_11 (by omega) (by omega) (by omega) rfl (by decide) ?_
      refine lv_aload_n xX xB dX6_told_90 rfl (lv_at wl 1 rfl) ?_
      refine va_get (D := D) (ci := 6) (v := .int (zI ((cH P m8 256 : Nat) : Int))) (C := RX6) (T := TX6) (N := 17) xX xB xT in_X6_told_X6 xO wK.1 wP 0 rfl rfl 7 (by decide) (xT _ (List.mem_of_getElem? (i := 3) rfl)) (fun _ h9 => h9) rfl dX6_told_91 ?_
      subst hQ
      exact g_mret (((cD P m8 256 : Nat) : Int), ((cL P m8 256 : Nat) : Int), ((cH P m8 256 : Nat) : Int), NU1_1, QU1_2, DF1_3, LF1_4, HA1_5) xX xB xR xL wP wS dX6_told_94 ⟨rfl, trivial⟩
    · refine z_tableIn (off := 84) (tgt := 95) 4 xX xB dX6_told_11 (by omega) (by omega) (by omega) rfl (by decide) ?_
      refine lv_aload_n xX xB dX6_told_95 rfl (lv_at wl 1 rfl) ?_
      refine va_get (D := D) (ci := 6) (v := .int (zI ((cL P m8 256 : Nat) : Int))) (C := RX6) (T := TX6) (N := 17) xX xB xT in_X6_told_X6 xO wK.1 wP 0 rfl rfl 6 (by decide) (xT _ (List.mem_of_getElem? (i := 4) rfl)) (fun _ h9 => h9) rfl dX6_told_96 ?_
      subst hQ
      exact g_mret (((cD P m8 256 : Nat) : Int), ((cL P m8 256 : Nat) : Int), ((cH P m8 256 : Nat) : Int), NU1_1, QU1_2, DF1_3, LF1_4, HA1_5) xX xB xR xL wP wS dX6_told_99 ⟨rfl, trivial⟩
    · refine z_tableIn (off := 89) (tgt := 100) 5 xX xB dX6_told_11 (by omega) (by omega) (by omega) rfl (by decide) ?_
      refine lv_aload_n xX xB dX6_told_100 rfl (lv_at wl 1 rfl) ?_
      refine va_get (D := D) (ci := 6) (v := .int (zI ((cD P m8 256 : Nat) : Int))) (C := RX6) (T := TX6) (N := 17) xX xB xT in_X6_told_X6 xO wK.1 wP 0 rfl rfl 5 (by decide) (xT _ (List.mem_of_getElem? (i := 2) rfl)) (fun _ h9 => h9) rfl dX6_told_101 ?_
      refine lv_aload_n xX xB dX6_told_104 rfl (lv_at wl 1 rfl) ?_
      refine va_get (D := D) (ci := 6) (v := .int (zI ((cH P m8 256 : Nat) : Int))) (C := RX6) (T := TX6) (N := 17) xX xB xT in_X6_told_X6 xO wK.1 wP 0 rfl rfl 7 (by decide) (xT _ (List.mem_of_getElem? (i := 3) rfl)) (fun _ h9 => h9) rfl dX6_told_105 ?_
      refine z_isub xX xB dX6_told_108 ?_
      refine z_sipush xX xB dX6_told_109 (by decide) ?_
      refine z_iadd xX xB dX6_told_112 ?_
      subst hQ
      exact g_mret (((cD P m8 256 : Nat) : Int), ((cL P m8 256 : Nat) : Int), ((cH P m8 256 : Nat) : Int), NU1_1, QU1_2, DF1_3, LF1_4, HA1_5) xX xB xR xL wP wS dX6_told_113 ⟨rfl, trivial⟩
    · refine z_tableIn (off := 103) (tgt := 114) 6 xX xB dX6_told_11 (by omega) (by omega) (by omega) rfl (by decide) ?_
      refine z_iconst xX xB dX6_told_114 ?_
      refine lv_istore_n (lv' := [(3, .int (zI 0)), (2, .int (zI 0)), (0, .ref h), (1, .int (zI 6))]) xX xB dX6_told_115 rfl wl (by decide) rfl (fun ls wl => ?_)
      have K1 : ∀ n_ : Nat, ∀ (i : Nat) (t : Nat), 16 - i < n_ → (i ≤ 16) → (t = fb_sm (fun r => rnN (P r)) i) → ∀ (H : Heap) (locs : List Loc) (ls : Array Slot), va_P D gC [(h, .inr (6, [.ref a0, .ref a1, .int (zI sd), .ref a3, .ref a4, .int (zI ((cD P m8 256 : Nat) : Int)), .int (zI ((cL P m8 256 : Nat) : Int)), .int (zI ((cH P m8 256 : Nat) : Int)), .ref a8, .ref a9, .ref a10, .int (zI (um : Int)), .int (zI (ua : Int)), .ref a13, .ref a14, .ref a15, .ref a16])), (a0, .inl (kI, 17, .inl (aZ F))), (a3, .inl (kI, 256, .inl (aZ NU1_1))), (a4, .inl (kI, 256, .inl (aZ QU1_2))), (a8, .inl (kI, 128, .inl (aZ DF1_3))), (a9, .inl (kI, 128, .inl (aZ LF1_4))), (a10, .inl (kI, 128, .inl (aZ HA1_5)))] H → va_D (gA [(h, .inr (6, [.ref a0, .ref a1, .int (zI sd), .ref a3, .ref a4, .int (zI dM), .int (zI lM), .int (zI hM), .ref a8, .ref a9, .ref a10, .int (zI (um : Int)), .int (zI (ua : Int)), .ref a13, .ref a14, .ref a15, .ref a16])), (a0, .inl (kI, 17, .inl (aZ F))), (a3, .inl (kI, 256, .inl (aZ NU))), (a4, .inl (kI, 256, .inl (aZ QU))), (a8, .inl (kI, 128, .inl (aZ DF))), (a9, .inl (kI, 128, .inl (aZ LF))), (a10, .inl (kI, 128, .inl (aZ HA)))]) [(h, .inr (6, [.ref a0, .ref a1, .int (zI sd), .ref a3, .ref a4, .int (zI ((cD P m8 256 : Nat) : Int)), .int (zI ((cL P m8 256 : Nat) : Int)), .int (zI ((cH P m8 256 : Nat) : Int)), .ref a8, .ref a9, .ref a10, .int (zI (um : Int)), .int (zI (ua : Int)), .ref a13, .ref a14, .ref a15, .ref a16])), (a0, .inl (kI, 17, .inl (aZ F))), (a3, .inl (kI, 256, .inl (aZ NU1_1))), (a4, .inl (kI, 256, .inl (aZ QU1_2))), (a8, .inl (kI, 128, .inl (aZ DF1_3))), (a9, .inl (kI, 128, .inl (aZ LF1_4))), (a10, .inl (kI, 128, .inl (aZ HA1_5)))] → va_S (gA [(h, .inr (6, [.ref a0, .ref a1, .int (zI sd), .ref a3, .ref a4, .int (zI dM), .int (zI lM), .int (zI hM), .ref a8, .ref a9, .ref a10, .int (zI (um : Int)), .int (zI (ua : Int)), .ref a13, .ref a14, .ref a15, .ref a16])), (a0, .inl (kI, 17, .inl (aZ F))), (a3, .inl (kI, 256, .inl (aZ NU))), (a4, .inl (kI, 256, .inl (aZ QU))), (a8, .inl (kI, 128, .inl (aZ DF))), (a9, .inl (kI, 128, .inl (aZ LF))), (a10, .inl (kI, 128, .inl (aZ HA)))]) xs.heap H locs → lv_has ls 4 [(0, .ref h), (2, .int (zI (t : Int))), (3, .int (zI (i : Int)))] → W xp l xe ({ frames := 5, cells := 0, slots := 0, locals := 113 } : Room) xs xm (List.toArray [.ref h, .int (zI 6)]) xbl xmt xc H locs 0 0 xQ (F0 xm 116 ls []) := by
        intro n_
        induction n_ with
        | zero =>
          intro i t hme
          exact absurd hme (Nat.not_lt_zero _)
        | succ n_ ihK1 =>
          intro i t hme hi ht H locs ls wP wD wS wl
          have hbd := rn_bd P i
          refine lv_iload_n xX xB dX6_told_116 rfl (lv_at wl 2 rfl) ?_
          refine z_bipush xX xB dX6_told_117 (by decide) ?_
          refine z_icmp_ge (tgt := 140) xX xB dX6_told_119 (by decide) (by omega) (by omega) (fun h119 => ?_) (fun h119 => ?_)
          · skip
            refine lv_iload_n xX xB dX6_told_140 rfl (lv_at wl 1 rfl) ?_
            subst hQ
            exact g_mret (((cD P m8 256 : Nat) : Int), ((cL P m8 256 : Nat) : Int), ((cH P m8 256 : Nat) : Int), NU1_1, QU1_2, DF1_3, LF1_4, HA1_5) xX xB xR xL wP wS dX6_told_141 ⟨congrArg (fun z : Nat => zI (z : Int)) (by rw [ht, show i = 16 by omega]; rfl), trivial⟩
          · skip
            refine lv_iload_n xX xB dX6_told_122 rfl (lv_at wl 1 rfl) ?_
            refine lv_aload_n xX xB dX6_told_123 rfl (lv_at wl 0 rfl) ?_
            refine va_get (D := D) (ci := 6) (v := .ref a0) (C := RX6) (T := TX6) (N := 17) xX xB xT in_X6_told_X6 xO wK.1 wP 0 rfl rfl 0 (by decide) (xT _ (List.mem_of_getElem? (i := 1) rfl)) (fun _ h9 => h9) rfl dX6_told_124 ?_
            refine lv_iload_n xX xB dX6_told_127 rfl (lv_at wl 2 rfl) ?_
            refine z_iald xX xB wK wP 1 rfl i rfl (by omega) (Nat.le_of_ble_eq_true rfl) dX6_told_128 ?_
            refine lv_ri (y := zI (P (i) : Int)) (congrArg zI (hF (i) (by omega)).1) ?_
            refine g_pure (va_runS (As := [.int (zI ((P (i) : Nat) : Int))]) (rest := [.int (zI (t : Int))]) ⟨xX, xB, xM, xO, xT⟩ (c_X6_runsOf l D kI kB (P (i)) (hF i (by omega)).2) (va_cwS 1 xT gX6_told_X6_runsOf rfl rfl rfl hdn_X6_runsOf ⟨Nat.le_of_ble_eq_true rfl, Nat.le_of_ble_eq_true rfl⟩) (g_preS wP wD wK [] (by decide) rfl) rfl rfl wl.1 rfl (lv_room (Nat.le_of_ble_eq_true rfl)) dX6_told_129 ⟨Nat.le_of_ble_eq_true rfl, Nat.le_of_ble_eq_true rfl⟩) wP wS (fun H locs wP wS => ?_)
            refine z_iadd xX xB dX6_told_132 ?_
            refine lv_istore_n (lv' := [(2, .int (zI ((t : Int) + ((rnN (P (i)) : Nat) : Int)))), (0, .ref h), (3, .int (zI (i : Int)))]) xX xB dX6_told_133 rfl wl (by decide) rfl (fun ls wl => ?_)
            refine lv_iinc (v := zI ((i : Int) + 1)) (lv' := [(3, .int (zI ((i : Int) + 1))), (2, .int (zI ((t : Int) + ((rnN (P (i)) : Nat) : Int)))), (0, .ref h)]) xX xB dX6_told_134 wl (k := 2) rfl (zI_add _ _) (by decide) rfl (fun ls wl => ?_)
            refine lv_goto (tgt := 116) xX xB dX6_told_137 (by decide) ?_
            exact ihK1 (i + 1) (t + (rnN (P (i)))) (by omega) (by omega) (by rw [ht]; rfl) _ _ _ wP wD wS (lv_sub wl [2, 1, 0] rfl)
      exact K1 _ 0 0 (Nat.lt_succ_self _) (by omega) rfl _ _ _ wP wD wS (lv_sub wl [2, 1, 0] rfl)
    · refine z_tableIn (off := 131) (tgt := 142) 7 xX xB dX6_told_11 (by omega) (by omega) (by omega) rfl (by decide) ?_
      refine z_iconst xX xB dX6_told_142 ?_
      refine lv_istore_n (lv' := [(3, .int (zI 0)), (2, .int (zI 0)), (0, .ref h), (1, .int (zI 7))]) xX xB dX6_told_143 rfl wl (by decide) rfl (fun ls wl => ?_)
      have K2 : ∀ n_ : Nat, ∀ (i : Nat) (t : Nat), 256 - i < n_ → (i ≤ 256) → (t = rimT P i) → ∀ (H : Heap) (locs : List Loc) (ls : Array Slot), va_P D gC [(h, .inr (6, [.ref a0, .ref a1, .int (zI sd), .ref a3, .ref a4, .int (zI ((cD P m8 256 : Nat) : Int)), .int (zI ((cL P m8 256 : Nat) : Int)), .int (zI ((cH P m8 256 : Nat) : Int)), .ref a8, .ref a9, .ref a10, .int (zI (um : Int)), .int (zI (ua : Int)), .ref a13, .ref a14, .ref a15, .ref a16])), (a0, .inl (kI, 17, .inl (aZ F))), (a3, .inl (kI, 256, .inl (aZ NU1_1))), (a4, .inl (kI, 256, .inl (aZ QU1_2))), (a8, .inl (kI, 128, .inl (aZ DF1_3))), (a9, .inl (kI, 128, .inl (aZ LF1_4))), (a10, .inl (kI, 128, .inl (aZ HA1_5)))] H → va_D (gA [(h, .inr (6, [.ref a0, .ref a1, .int (zI sd), .ref a3, .ref a4, .int (zI dM), .int (zI lM), .int (zI hM), .ref a8, .ref a9, .ref a10, .int (zI (um : Int)), .int (zI (ua : Int)), .ref a13, .ref a14, .ref a15, .ref a16])), (a0, .inl (kI, 17, .inl (aZ F))), (a3, .inl (kI, 256, .inl (aZ NU))), (a4, .inl (kI, 256, .inl (aZ QU))), (a8, .inl (kI, 128, .inl (aZ DF))), (a9, .inl (kI, 128, .inl (aZ LF))), (a10, .inl (kI, 128, .inl (aZ HA)))]) [(h, .inr (6, [.ref a0, .ref a1, .int (zI sd), .ref a3, .ref a4, .int (zI ((cD P m8 256 : Nat) : Int)), .int (zI ((cL P m8 256 : Nat) : Int)), .int (zI ((cH P m8 256 : Nat) : Int)), .ref a8, .ref a9, .ref a10, .int (zI (um : Int)), .int (zI (ua : Int)), .ref a13, .ref a14, .ref a15, .ref a16])), (a0, .inl (kI, 17, .inl (aZ F))), (a3, .inl (kI, 256, .inl (aZ NU1_1))), (a4, .inl (kI, 256, .inl (aZ QU1_2))), (a8, .inl (kI, 128, .inl (aZ DF1_3))), (a9, .inl (kI, 128, .inl (aZ LF1_4))), (a10, .inl (kI, 128, .inl (aZ HA1_5)))] → va_S (gA [(h, .inr (6, [.ref a0, .ref a1, .int (zI sd), .ref a3, .ref a4, .int (zI dM), .int (zI lM), .int (zI hM), .ref a8, .ref a9, .ref a10, .int (zI (um : Int)), .int (zI (ua : Int)), .ref a13, .ref a14, .ref a15, .ref a16])), (a0, .inl (kI, 17, .inl (aZ F))), (a3, .inl (kI, 256, .inl (aZ NU))), (a4, .inl (kI, 256, .inl (aZ QU))), (a8, .inl (kI, 128, .inl (aZ DF))), (a9, .inl (kI, 128, .inl (aZ LF))), (a10, .inl (kI, 128, .inl (aZ HA)))]) xs.heap H locs → lv_has ls 4 [(0, .ref h), (2, .int (zI (t : Int))), (3, .int (zI (i : Int)))] → W xp l xe ({ frames := 5, cells := 0, slots := 0, locals := 113 } : Room) xs xm (List.toArray [.ref h, .int (zI 7)]) xbl xmt xc H locs 0 0 xQ (F0 xm 144 ls []) := by
        intro n_
        induction n_ with
        | zero =>
          intro i t hme
          exact absurd hme (Nat.not_lt_zero _)
        | succ n_ ihK2 =>
          intro i t hme hi ht H locs ls wP wD wS wl
          have hbd := rimT_le P i
          refine lv_iload_n xX xB dX6_told_144 rfl (lv_at wl 2 rfl) ?_
          refine z_sipush xX xB dX6_told_145 (by decide) ?_
          refine z_icmp_ge (tgt := 180) xX xB dX6_told_148 (by decide) (by omega) (by omega) (fun h148 => ?_) (fun h148 => ?_)
          · skip
            refine lv_iload_n xX xB dX6_told_180 rfl (lv_at wl 1 rfl) ?_
            subst hQ
            exact g_mret (((cD P m8 256 : Nat) : Int), ((cL P m8 256 : Nat) : Int), ((cH P m8 256 : Nat) : Int), NU1_1, QU1_2, DF1_3, LF1_4, HA1_5) xX xB xR xL wP wS dX6_told_181 ⟨congrArg (fun z : Nat => zI (z : Int)) (by rw [ht, show i = 256 by omega]), trivial⟩
          · skip
            refine lv_iload_n xX xB dX6_told_151 rfl (lv_at wl 1 rfl) ?_
            refine lv_aload_n xX xB dX6_told_152 rfl (lv_at wl 0 rfl) ?_
            refine va_get (D := D) (ci := 6) (v := .ref a0) (C := RX6) (T := TX6) (N := 17) xX xB xT in_X6_told_X6 xO wK.1 wP 0 rfl rfl 0 (by decide) (xT _ (List.mem_of_getElem? (i := 1) rfl)) (fun _ h9 => h9) rfl dX6_told_153 ?_
            refine lv_iload_n xX xB dX6_told_156 rfl (lv_at wl 2 rfl) ?_
            refine g_pure (va_runS (As := [.ref a0, .int (zI (i : Int))]) (rest := [.int (zI (t : Int))]) ⟨xX, xB, xM, xO, xT⟩ (c_X6_isDark l D kI kB a0 F P i hF (by omega)) (va_cwS 2 xT gX6_told_X6_isDark rfl rfl rfl hdn_X6_isDark ⟨Nat.le_of_ble_eq_true rfl, Nat.le_of_ble_eq_true rfl⟩) (g_preS wP wD wK [1] (by decide) rfl) rfl rfl wl.1 rfl (lv_room (Nat.le_of_ble_eq_true rfl)) dX6_told_157 ⟨Nat.le_of_ble_eq_true rfl, Nat.le_of_ble_eq_true rfl⟩) wP wS (fun H locs wP wS => ?_)
            refine b_if_eq (tgt := 171) xX xB dX6_told_160 (by decide) (fun h160 => ?_) (fun h160 => ?_)
            · skip
              refine z_iconst xX xB dX6_told_171 ?_
              refine z_iadd xX xB dX6_told_172 ?_
              refine lv_istore_n (lv' := [(2, .int (zI ((t : Int) + 0))), (0, .ref h), (3, .int (zI (i : Int)))]) xX xB dX6_told_173 rfl wl (by decide) rfl (fun ls wl => ?_)
              refine lv_iinc (v := zI ((i : Int) + 1)) (lv' := [(3, .int (zI ((i : Int) + 1))), (2, .int (zI ((t : Int) + 0))), (0, .ref h)]) xX xB dX6_told_174 wl (k := 2) rfl (zI_add _ _) (by decide) rfl (fun ls wl => ?_)
              refine lv_goto (tgt := 144) xX xB dX6_told_177 (by decide) ?_
              exact ihK2 (i + 1) (t + 0) (by omega) (by omega) (sm_f (g := sdN P) ht h160) _ _ _ wP wD wS (lv_sub wl [2, 1, 0] rfl)
            · skip
              refine lv_aload_n xX xB dX6_told_163 rfl (lv_at wl 0 rfl) ?_
              refine lv_iload_n xX xB dX6_told_164 rfl (lv_at wl 2 rfl) ?_
              have hsd := sdN_le P i
              refine g_pure (va_runV (As := [.int (zI (i : Int))]) (rest := [.int (zI (t : Int))]) ⟨xX, xB, xM, xO, xT⟩ (c_X6_sidesOf l D kI kB h a0 a1 a3 a4 a8 a9 a10 a13 a14 a15 a16 sd ((cD P m8 256 : Nat) : Int) ((cL P m8 256 : Nat) : Int) ((cH P m8 256 : Nat) : Int) (um : Int) (ua : Int) F P i hF (by omega)) (cwV 1 xT gX6_told_X6_sidesOf rfl rfl rfl hd_X6_sidesOf ⟨Nat.le_of_ble_eq_true rfl, Nat.le_of_ble_eq_true rfl⟩) (g_preV (ci := 6) (q0 := 0) wP wD wK [0, 1] (by decide) rfl rfl rfl) rfl rfl wl.1 rfl (lv_room (Nat.le_of_ble_eq_true rfl)) dX6_told_165 ⟨Nat.le_of_ble_eq_true rfl, Nat.le_of_ble_eq_true rfl⟩) wP wS (fun H locs wP wS => ?_)
              refine lv_goto (tgt := 172) xX xB dX6_told_168 (by decide) ?_
              refine z_iadd xX xB dX6_told_172 ?_
              refine lv_istore_n (lv' := [(2, .int (zI ((t : Int) + ((sdN P i : Nat) : Int)))), (0, .ref h), (3, .int (zI (i : Int)))]) xX xB dX6_told_173 rfl wl (by decide) rfl (fun ls wl => ?_)
              refine lv_iinc (v := zI ((i : Int) + 1)) (lv' := [(3, .int (zI ((i : Int) + 1))), (2, .int (zI ((t : Int) + ((sdN P i : Nat) : Int)))), (0, .ref h)]) xX xB dX6_told_174 wl (k := 2) rfl (zI_add _ _) (by decide) rfl (fun ls wl => ?_)
              refine lv_goto (tgt := 144) xX xB dX6_told_177 (by decide) ?_
              exact ihK2 (i + 1) (t + (sdN P i)) (by omega) (by omega) (sm_t ht h160) _ _ _ wP wD wS (lv_sub wl [2, 1, 0] rfl)
      exact K2 _ 0 0 (Nat.lt_succ_self _) (by omega) rfl _ _ _ wP wD wS (lv_sub wl [2, 1, 0] rfl)
    · refine z_tableIn (off := 171) (tgt := 182) 8 xX xB dX6_told_11 (by omega) (by omega) (by omega) rfl (by decide) ?_
      refine z_iconst xX xB dX6_told_182 ?_
      refine lv_istore_n (lv' := [(2, .int (zI (-1))), (0, .ref h), (1, .int (zI 8))]) xX xB dX6_told_183 rfl wl (by decide) rfl (fun ls wl => ?_)
      refine z_iconst xX xB dX6_told_184 ?_
      refine lv_istore_n (lv' := [(3, .int (zI 0)), (2, .int (zI (-1))), (0, .ref h), (1, .int (zI 8))]) xX xB dX6_told_185 rfl wl (by decide) rfl (fun ls wl => ?_)
      have K3 : ∀ n_ : Nat, ∀ (i : Nat) (t : Int), cD P m8 256 - i < n_ → (i ≤ cD P m8 256) → (t = mxD P m8 i) → ∀ (H : Heap) (locs : List Loc) (ls : Array Slot), va_P D gC [(h, .inr (6, [.ref a0, .ref a1, .int (zI sd), .ref a3, .ref a4, .int (zI ((cD P m8 256 : Nat) : Int)), .int (zI ((cL P m8 256 : Nat) : Int)), .int (zI ((cH P m8 256 : Nat) : Int)), .ref a8, .ref a9, .ref a10, .int (zI (um : Int)), .int (zI (ua : Int)), .ref a13, .ref a14, .ref a15, .ref a16])), (a0, .inl (kI, 17, .inl (aZ F))), (a3, .inl (kI, 256, .inl (aZ NU1_1))), (a4, .inl (kI, 256, .inl (aZ QU1_2))), (a8, .inl (kI, 128, .inl (aZ DF1_3))), (a9, .inl (kI, 128, .inl (aZ LF1_4))), (a10, .inl (kI, 128, .inl (aZ HA1_5)))] H → va_D (gA [(h, .inr (6, [.ref a0, .ref a1, .int (zI sd), .ref a3, .ref a4, .int (zI dM), .int (zI lM), .int (zI hM), .ref a8, .ref a9, .ref a10, .int (zI (um : Int)), .int (zI (ua : Int)), .ref a13, .ref a14, .ref a15, .ref a16])), (a0, .inl (kI, 17, .inl (aZ F))), (a3, .inl (kI, 256, .inl (aZ NU))), (a4, .inl (kI, 256, .inl (aZ QU))), (a8, .inl (kI, 128, .inl (aZ DF))), (a9, .inl (kI, 128, .inl (aZ LF))), (a10, .inl (kI, 128, .inl (aZ HA)))]) [(h, .inr (6, [.ref a0, .ref a1, .int (zI sd), .ref a3, .ref a4, .int (zI ((cD P m8 256 : Nat) : Int)), .int (zI ((cL P m8 256 : Nat) : Int)), .int (zI ((cH P m8 256 : Nat) : Int)), .ref a8, .ref a9, .ref a10, .int (zI (um : Int)), .int (zI (ua : Int)), .ref a13, .ref a14, .ref a15, .ref a16])), (a0, .inl (kI, 17, .inl (aZ F))), (a3, .inl (kI, 256, .inl (aZ NU1_1))), (a4, .inl (kI, 256, .inl (aZ QU1_2))), (a8, .inl (kI, 128, .inl (aZ DF1_3))), (a9, .inl (kI, 128, .inl (aZ LF1_4))), (a10, .inl (kI, 128, .inl (aZ HA1_5)))] → va_S (gA [(h, .inr (6, [.ref a0, .ref a1, .int (zI sd), .ref a3, .ref a4, .int (zI dM), .int (zI lM), .int (zI hM), .ref a8, .ref a9, .ref a10, .int (zI (um : Int)), .int (zI (ua : Int)), .ref a13, .ref a14, .ref a15, .ref a16])), (a0, .inl (kI, 17, .inl (aZ F))), (a3, .inl (kI, 256, .inl (aZ NU))), (a4, .inl (kI, 256, .inl (aZ QU))), (a8, .inl (kI, 128, .inl (aZ DF))), (a9, .inl (kI, 128, .inl (aZ LF))), (a10, .inl (kI, 128, .inl (aZ HA)))]) xs.heap H locs → lv_has ls 4 [(0, .ref h), (2, .int (zI t)), (3, .int (zI (i : Int)))] → W xp l xe ({ frames := 5, cells := 0, slots := 0, locals := 113 } : Room) xs xm (List.toArray [.ref h, .int (zI 8)]) xbl xmt xc H locs 0 0 xQ (F0 xm 186 ls []) := by
        intro n_
        induction n_ with
        | zero =>
          intro i t hme
          exact absurd hme (Nat.not_lt_zero _)
        | succ n_ ihK3 =>
          intro i t hme hi ht H locs ls wP wD wS wl
          have hbd := mxD_rng (P := P) (m8 := m8) i
          refine lv_iload_n xX xB dX6_told_186 rfl (lv_at wl 2 rfl) ?_
          refine lv_aload_n xX xB dX6_told_187 rfl (lv_at wl 0 rfl) ?_
          refine va_get (D := D) (ci := 6) (v := .int (zI ((cD P m8 256 : Nat) : Int))) (C := RX6) (T := TX6) (N := 17) xX xB xT in_X6_told_X6 xO wK.1 wP 0 rfl rfl 5 (by decide) (xT _ (List.mem_of_getElem? (i := 2) rfl)) (fun _ h9 => h9) rfl dX6_told_188 ?_
          refine z_icmp_ge (tgt := 219) xX xB dX6_told_191 (by decide) (by omega) (by omega) (fun h191 => ?_) (fun h191 => ?_)
          · skip
            refine lv_iload_n xX xB dX6_told_219 rfl (lv_at wl 1 rfl) ?_
            subst hQ
            exact g_mret (((cD P m8 256 : Nat) : Int), ((cL P m8 256 : Nat) : Int), ((cH P m8 256 : Nat) : Int), NU1_1, QU1_2, DF1_3, LF1_4, HA1_5) xX xB xR xL wP wS dX6_told_220 ⟨congrArg zI (by rw [ht, show i = cD P m8 256 by omega]; rfl), trivial⟩
          · skip
            have J16 : ∀ (t2 : Int), (t2 = max t (deepR P m8 (selD P m8 i) : Int)) → ∀ (H : Heap) (locs : List Loc) (ls : Array Slot), va_P D gC [(h, .inr (6, [.ref a0, .ref a1, .int (zI sd), .ref a3, .ref a4, .int (zI ((cD P m8 256 : Nat) : Int)), .int (zI ((cL P m8 256 : Nat) : Int)), .int (zI ((cH P m8 256 : Nat) : Int)), .ref a8, .ref a9, .ref a10, .int (zI (um : Int)), .int (zI (ua : Int)), .ref a13, .ref a14, .ref a15, .ref a16])), (a0, .inl (kI, 17, .inl (aZ F))), (a3, .inl (kI, 256, .inl (aZ NU1_1))), (a4, .inl (kI, 256, .inl (aZ QU1_2))), (a8, .inl (kI, 128, .inl (aZ DF1_3))), (a9, .inl (kI, 128, .inl (aZ LF1_4))), (a10, .inl (kI, 128, .inl (aZ HA1_5)))] H → va_D (gA [(h, .inr (6, [.ref a0, .ref a1, .int (zI sd), .ref a3, .ref a4, .int (zI dM), .int (zI lM), .int (zI hM), .ref a8, .ref a9, .ref a10, .int (zI (um : Int)), .int (zI (ua : Int)), .ref a13, .ref a14, .ref a15, .ref a16])), (a0, .inl (kI, 17, .inl (aZ F))), (a3, .inl (kI, 256, .inl (aZ NU))), (a4, .inl (kI, 256, .inl (aZ QU))), (a8, .inl (kI, 128, .inl (aZ DF))), (a9, .inl (kI, 128, .inl (aZ LF))), (a10, .inl (kI, 128, .inl (aZ HA)))]) [(h, .inr (6, [.ref a0, .ref a1, .int (zI sd), .ref a3, .ref a4, .int (zI ((cD P m8 256 : Nat) : Int)), .int (zI ((cL P m8 256 : Nat) : Int)), .int (zI ((cH P m8 256 : Nat) : Int)), .ref a8, .ref a9, .ref a10, .int (zI (um : Int)), .int (zI (ua : Int)), .ref a13, .ref a14, .ref a15, .ref a16])), (a0, .inl (kI, 17, .inl (aZ F))), (a3, .inl (kI, 256, .inl (aZ NU1_1))), (a4, .inl (kI, 256, .inl (aZ QU1_2))), (a8, .inl (kI, 128, .inl (aZ DF1_3))), (a9, .inl (kI, 128, .inl (aZ LF1_4))), (a10, .inl (kI, 128, .inl (aZ HA1_5)))] → va_S (gA [(h, .inr (6, [.ref a0, .ref a1, .int (zI sd), .ref a3, .ref a4, .int (zI dM), .int (zI lM), .int (zI hM), .ref a8, .ref a9, .ref a10, .int (zI (um : Int)), .int (zI (ua : Int)), .ref a13, .ref a14, .ref a15, .ref a16])), (a0, .inl (kI, 17, .inl (aZ F))), (a3, .inl (kI, 256, .inl (aZ NU))), (a4, .inl (kI, 256, .inl (aZ QU))), (a8, .inl (kI, 128, .inl (aZ DF))), (a9, .inl (kI, 128, .inl (aZ LF))), (a10, .inl (kI, 128, .inl (aZ HA)))]) xs.heap H locs → lv_has ls 4 [(0, .ref h), (2, .int (zI t)), (3, .int (zI (i : Int)))] → W xp l xe ({ frames := 5, cells := 0, slots := 0, locals := 113 } : Room) xs xm (List.toArray [.ref h, .int (zI 8)]) xbl xmt xc H locs 0 0 xQ (F0 xm 212 ls [.int (zI t2)]) := by
              intro t2 ht2 H locs ls wP wD wS wl
              refine lv_istore_n (lv' := [(2, .int (zI t2)), (0, .ref h), (3, .int (zI (i : Int)))]) xX xB dX6_told_212 rfl wl (by decide) rfl (fun ls wl => ?_)
              refine lv_iinc (v := zI ((i : Int) + 1)) (lv' := [(3, .int (zI ((i : Int) + 1))), (2, .int (zI t2)), (0, .ref h)]) xX xB dX6_told_213 wl (k := 2) rfl (zI_add _ _) (by decide) rfl (fun ls wl => ?_)
              refine lv_goto (tgt := 186) xX xB dX6_told_216 (by decide) ?_
              exact ihK3 (i + 1) t2 (by omega) (by omega) (by rw [ht2, ht]; rfl) _ _ _ wP wD wS (lv_sub wl [2, 1, 0] rfl)
            have hdp : deepR P m8 (selD P m8 i) ≤ 256 := dpN_le 256 _
            refine lv_aload_n xX xB dX6_told_194 rfl (lv_at wl 0 rfl) ?_
            refine lv_iload_n xX xB dX6_told_195 rfl (lv_at wl 2 rfl) ?_
            refine g_pure (va_runV (As := [.int (zI (i : Int))]) (rest := []) ⟨xX, xB, xM, xO, xT⟩ (c_X6_deep l D kI kB h a0 a1 a3 a4 a8 a9 a10 a13 a14 a15 a16 sd (um : Int) (ua : Int) F P m8 NU1_1 DF1_3 LF1_4 HA1_5 i hF hc5 (by omega)) (cwV 1 xT gX6_told_X6_deep rfl rfl rfl hd_X6_deep ⟨Nat.le_of_ble_eq_true rfl, Nat.le_of_ble_eq_true rfl⟩) (g_preV (ci := 6) (q0 := 0) wP wD wK [0, 1, 2, 4, 5, 6] (by decide) rfl rfl rfl) rfl rfl wl.1 rfl (lv_room (Nat.le_of_ble_eq_true rfl)) dX6_told_196 ⟨Nat.le_of_ble_eq_true rfl, Nat.le_of_ble_eq_true rfl⟩) wP wS (fun H locs wP wS => ?_)
            refine lv_iload_n xX xB dX6_told_199 rfl (lv_at wl 1 rfl) ?_
            refine z_icmp_le (tgt := 211) xX xB dX6_told_200 (by decide) (by omega) (by omega) (fun h200 => ?_) (fun h200 => ?_)
            · skip
              refine lv_iload_n xX xB dX6_told_211 rfl (lv_at wl 1 rfl) ?_
              exact J16 t (by omega) _ _ _ wP wD wS (lv_sub wl [0, 1, 2] rfl)
            · skip
              refine lv_aload_n xX xB dX6_told_203 rfl (lv_at wl 0 rfl) ?_
              refine lv_iload_n xX xB dX6_told_204 rfl (lv_at wl 2 rfl) ?_
              refine g_pure (va_runV (As := [.int (zI (i : Int))]) (rest := []) ⟨xX, xB, xM, xO, xT⟩ (c_X6_deep l D kI kB h a0 a1 a3 a4 a8 a9 a10 a13 a14 a15 a16 sd (um : Int) (ua : Int) F P m8 NU1_1 DF1_3 LF1_4 HA1_5 i hF hc5 (by omega)) (cwV 1 xT gX6_told_X6_deep rfl rfl rfl hd_X6_deep ⟨Nat.le_of_ble_eq_true rfl, Nat.le_of_ble_eq_true rfl⟩) (g_preV (ci := 6) (q0 := 0) wP wD wK [0, 1, 2, 4, 5, 6] (by decide) rfl rfl rfl) rfl rfl wl.1 rfl (lv_room (Nat.le_of_ble_eq_true rfl)) dX6_told_205 ⟨Nat.le_of_ble_eq_true rfl, Nat.le_of_ble_eq_true rfl⟩) wP wS (fun H locs wP wS => ?_)
              refine lv_goto (tgt := 212) xX xB dX6_told_208 (by decide) ?_
              exact J16 ((deepR P m8 (selD P m8 i) : Nat) : Int) (by omega) _ _ _ wP wD wS (lv_sub wl [0, 1, 2] rfl)
      exact K3 _ 0 (-1) (Nat.lt_succ_self _) (by omega) rfl _ _ _ wP wD wS (lv_sub wl [2, 1, 0] rfl)
    · refine z_tableIn (off := 210) (tgt := 221) 9 xX xB dX6_told_11 (by omega) (by omega) (by omega) rfl (by decide) ?_
      refine lv_aload_n xX xB dX6_told_221 rfl (lv_at wl 1 rfl) ?_
      refine g_pure (va_runV (As := []) (rest := []) ⟨xX, xB, xM, xO, xT⟩ (c_X6_largest l D kI kB h a0 a1 a3 a4 a8 a9 a10 a13 a14 a15 a16 sd (um : Int) (ua : Int) F P m8 NU1_1 DF1_3 LF1_4 HA1_5 hF hc5) (cwV 0 xT gX6_told_X6_largest rfl rfl rfl hd_X6_largest ⟨Nat.le_of_ble_eq_true rfl, Nat.le_of_ble_eq_true rfl⟩) (g_preV (ci := 6) (q0 := 0) wP wD wK [0, 1, 2, 4, 5, 6] (by decide) rfl rfl rfl) rfl rfl wl.1 rfl (lv_room (Nat.le_of_ble_eq_true rfl)) dX6_told_222 ⟨Nat.le_of_ble_eq_true rfl, Nat.le_of_ble_eq_true rfl⟩) wP wS (fun H locs wP wS => ?_)
      subst hQ
      exact g_mret (((cD P m8 256 : Nat) : Int), ((cL P m8 256 : Nat) : Int), ((cH P m8 256 : Nat) : Int), NU1_1, QU1_2, DF1_3, LF1_4, HA1_5) xX xB xR xL wP wS dX6_told_225 ⟨rfl, trivial⟩
    · refine z_tableIn (off := 215) (tgt := 226) 10 xX xB dX6_told_11 (by omega) (by omega) (by omega) rfl (by decide) ?_
      refine lv_aload_n xX xB dX6_told_226 rfl (lv_at wl 1 rfl) ?_
      refine va_get (D := D) (ci := 6) (v := .int (zI (um : Int))) (C := RX6) (T := TX6) (N := 17) xX xB xT in_X6_told_X6 xO wK.1 wP 0 rfl rfl 11 (by decide) (xT _ (List.mem_of_getElem? (i := 5) rfl)) (fun _ h9 => h9) rfl dX6_told_227 ?_
      subst hQ
      exact g_mret (((cD P m8 256 : Nat) : Int), ((cL P m8 256 : Nat) : Int), ((cH P m8 256 : Nat) : Int), NU1_1, QU1_2, DF1_3, LF1_4, HA1_5) xX xB xR xL wP wS dX6_told_230 ⟨rfl, trivial⟩
