set_option maxRecDepth 20000 in
theorem in_X6_small_X6 : ∀ w ∈ u_ws RX6 TX6 17, w ∈ wsX6_small := by decide +kernel
set_option maxRecDepth 20000 in
theorem in_X6_partsTurned_X6 : ∀ w ∈ u_ws RX6 TX6 17, w ∈ wsX6_partsTurned := by decide +kernel
set_option maxRecDepth 20000 in
theorem in_X6_dot_X6 : ∀ w ∈ u_ws RX6 TX6 17, w ∈ wsX6_dot := by decide +kernel
set_option maxRecDepth 20000 in
theorem in_X6_part_X6 : ∀ w ∈ u_ws RX6 TX6 17, w ∈ wsX6_part := by decide +kernel
set_option maxRecDepth 20000 in
theorem in_X6_hole_X6 : ∀ w ∈ u_ws RX6 TX6 17, w ∈ wsX6_hole := by decide +kernel
set_option maxRecDepth 20000 in
theorem in_X6_alike_X6 : ∀ w ∈ u_ws RX6 TX6 17, w ∈ wsX6_alike := by decide +kernel
theorem hd_X6_partsTurned : yX6_partsTurned.cls = RX6 ∧ yX6_partsTurned.cls ≠ "java/lang/invoke/MethodHandle" ∧ yX6_partsTurned.cls ≠ "java/lang/invoke/VarHandle" ∧ (parseMethodDescriptor yX6_partsTurned.desc).map (fun d => d.parameters.length) = some 1 := by decide +kernel
theorem hd_X6_rimOf : yX6_rimOf.cls = RX6 ∧ yX6_rimOf.cls ≠ "java/lang/invoke/MethodHandle" ∧ yX6_rimOf.cls ≠ "java/lang/invoke/VarHandle" ∧ (parseMethodDescriptor yX6_rimOf.desc).map (fun d => d.parameters.length) = some 1 := by decide +kernel
theorem hd_X6_edge : yX6_edge.cls = RX6 ∧ yX6_edge.cls ≠ "java/lang/invoke/MethodHandle" ∧ yX6_edge.cls ≠ "java/lang/invoke/VarHandle" ∧ (parseMethodDescriptor yX6_edge.desc).map (fun d => d.parameters.length) = some 3 := by decide +kernel
theorem hd_X6_holesOf : yX6_holesOf.cls = RX6 ∧ yX6_holesOf.cls ≠ "java/lang/invoke/MethodHandle" ∧ yX6_holesOf.cls ≠ "java/lang/invoke/VarHandle" ∧ (parseMethodDescriptor yX6_holesOf.desc).map (fun d => d.parameters.length) = some 1 := by decide +kernel
theorem hd_X6_partsIn : yX6_partsIn.cls = RX6 ∧ yX6_partsIn.cls ≠ "java/lang/invoke/MethodHandle" ∧ yX6_partsIn.cls ≠ "java/lang/invoke/VarHandle" ∧ (parseMethodDescriptor yX6_partsIn.desc).map (fun d => d.parameters.length) = some 1 := by decide +kernel
set_option maxHeartbeats 4000000 in
set_option maxRecDepth 100000 in
theorem c_X6_small_o (l : Launch) (D : va_G) (kI kB : ClassId) (h : Nat) (a0 : Nat) (a1 : Nat) (a3 : Nat) (a4 : Nat) (a8 : Nat) (a9 : Nat) (a10 : Nat) (a13 : Nat) (a14 : Nat) (a15 : Nat) (a16 : Nat) (sd : Int) (dM : Int) (lM : Int) (hM : Int) (um : Nat) (ua : Nat) (n : Int) (rr : -2147483648 ≤ n ∧ n ≤ 2147483647) (hb : ¬ (0 ≤ n ∧ n ≤ 256)) : gI l yX6_small wsX6_small ({ frames := 1, cells := 0, slots := 0, locals := 22 } : Room) D kI kB [.ref h, .int (zI n)] [(h, .inr (6, [.ref a0, .ref a1, .int (zI sd), .ref a3, .ref a4, .int (zI dM), .int (zI lM), .int (zI hM), .ref a8, .ref a9, .ref a10, .int (zI (um : Int)), .int (zI (ua : Int)), .ref a13, .ref a14, .ref a15, .ref a16]))] (zI (-1000000002)) := by
  refine g_start (cc := cX6_small) (maxL := 4) (ret := (some .int)) (by decide) rfl (Nat.le_of_ble_eq_true rfl) ?_
  intro xp xe xs xm xbl xmt xc xX xB xR xM xT xO xL xN wP wD wK ls wl
  have wS : va_S (fun _ => False) xs.heap xs.heap [] := va_S.rf
  have wl : lv_has ls 4 [(0, .ref h), (1, .int (zI n))] := wl
  refine lv_iload_n xX xB dX6_small_0 rfl (lv_at wl 1 rfl) ?_
  refine z_iconst xX xB dX6_small_1 ?_
  refine z_sipush xX xB dX6_small_2 (by decide) ?_
  refine g_pure (va_runS (As := [.int (zI n), .int (zI 0), .int (zI 256)]) (rest := []) ⟨xX, xB, xM, xO, xT⟩ (c_X6_in l D kI kB n 0 256 (by omega) (by omega) (by omega)) (va_cwS 3 xT gX6_small_X6_in rfl rfl rfl hdn_X6_in ⟨Nat.le_of_ble_eq_true rfl, Nat.le_of_ble_eq_true rfl⟩) (g_preS wP wD wK [] (by decide) rfl) rfl rfl wl.1 rfl (lv_room (Nat.le_of_ble_eq_true rfl)) dX6_small_5 ⟨Nat.le_of_ble_eq_true rfl, Nat.le_of_ble_eq_true rfl⟩) wP wS (fun H locs wP wS => ?_)
  refine b_if_ne (tgt := 14) xX xB dX6_small_8 (by decide) (fun h8 => ?_) (fun h8 => ?_)
  · exact absurd h8 (by rw [decide_eq_false hb]; decide)
  · skip
    refine z_ldc xX xB (-1000000002) (by decide) xO (xT _ (List.mem_of_getElem? (i := 1) rfl)) dX6_small_11 ?_
    exact g_iret xX xB xR xL wS dX6_small_13 rfl

set_option maxHeartbeats 4000000 in
set_option maxRecDepth 100000 in
theorem c_X6_small (l : Launch) (D : va_G) (kI kB : ClassId) (h : Nat) (a0 : Nat) (a1 : Nat) (a3 : Nat) (a4 : Nat) (a8 : Nat) (a9 : Nat) (a10 : Nat) (a13 : Nat) (a14 : Nat) (a15 : Nat) (a16 : Nat) (sd : Int) (dM : Int) (lM : Int) (hM : Int) (um : Nat) (ua : Nat) (F : Nat → Int) (P : Nat → Nat) (m8 : Bool) (NU : Nat → Int) (QU : Nat → Int) (DF : Nat → Int) (LF : Nat → Int) (HA : Nat → Int) (n : Int) (hF : Pic F P) (rm16 : -2147483648 ≤ F 16 ∧ F 16 ≤ 2147483647) (hm : m8 = decide (F 16 = 8)) (hk : 0 ≤ n ∧ n ≤ 256) : gM l yX6_small wsX6_small ({ frames := 4, cells := 0, slots := 0, locals := 101 } : Room) D kI kB [.ref h, .int (zI n)] [(h, .inr (6, [.ref a0, .ref a1, .int (zI sd), .ref a3, .ref a4, .int (zI dM), .int (zI lM), .int (zI hM), .ref a8, .ref a9, .ref a10, .int (zI (um : Int)), .int (zI (ua : Int)), .ref a13, .ref a14, .ref a15, .ref a16])), (a0, .inl (kI, 17, .inl (aZ F))), (a3, .inl (kI, 256, .inl (aZ NU))), (a4, .inl (kI, 256, .inl (aZ QU))), (a8, .inl (kI, 128, .inl (aZ DF))), (a9, .inl (kI, 128, .inl (aZ LF))), (a10, .inl (kI, 128, .inl (aZ HA)))] (fun (w_ : Int × Int × Int × (Nat → Int) × (Nat → Int) × (Nat → Int) × (Nat → Int) × (Nat → Int)) => [(h, .inr (6, [.ref a0, .ref a1, .int (zI sd), .ref a3, .ref a4, .int (zI (w_.1)), .int (zI (w_.2.1)), .int (zI (w_.2.2.1)), .ref a8, .ref a9, .ref a10, .int (zI (um : Int)), .int (zI (ua : Int)), .ref a13, .ref a14, .ref a15, .ref a16])), (a0, .inl (kI, 17, .inl (aZ F))), (a3, .inl (kI, 256, .inl (aZ (w_.2.2.2.1)))), (a4, .inl (kI, 256, .inl (aZ (w_.2.2.2.2.1)))), (a8, .inl (kI, 128, .inl (aZ (w_.2.2.2.2.2.1)))), (a9, .inl (kI, 128, .inl (aZ (w_.2.2.2.2.2.2.1)))), (a10, .inl (kI, 128, .inl (aZ (w_.2.2.2.2.2.2.2))))]) (fun (r : Int32) (w_ : Int × Int × Int × (Nat → Int) × (Nat → Int) × (Nat → Int) × (Nat → Int) × (Nat → Int)) => r = zI ((smN P m8 n (cD P m8 256) : Nat) : Int) ∧ True) := by
  refine g_start (cc := cX6_small) (maxL := 4) (ret := (some .int)) (by decide) rfl (Nat.le_of_ble_eq_true rfl) ?_
  intro xp xe xs xm xbl xmt xc xX xB xR xM xT xO xL xN wP wD wK ls wl
  have wS : va_S (gA [(h, .inr (6, [.ref a0, .ref a1, .int (zI sd), .ref a3, .ref a4, .int (zI dM), .int (zI lM), .int (zI hM), .ref a8, .ref a9, .ref a10, .int (zI (um : Int)), .int (zI (ua : Int)), .ref a13, .ref a14, .ref a15, .ref a16])), (a0, .inl (kI, 17, .inl (aZ F))), (a3, .inl (kI, 256, .inl (aZ NU))), (a4, .inl (kI, 256, .inl (aZ QU))), (a8, .inl (kI, 128, .inl (aZ DF))), (a9, .inl (kI, 128, .inl (aZ LF))), (a10, .inl (kI, 128, .inl (aZ HA)))]) xs.heap xs.heap [] := va_S.rf
  have wl : lv_has ls 4 [(0, .ref h), (1, .int (zI n))] := wl
  generalize hQ : MQ xbl _ _ xs 0 0 _ = xQ
  have hcb := cD_128 (P := P) (m8 := m8)
  refine lv_iload_n xX xB dX6_small_0 rfl (lv_at wl 1 rfl) ?_
  refine z_iconst xX xB dX6_small_1 ?_
  refine z_sipush xX xB dX6_small_2 (by decide) ?_
  refine g_pure (va_runS (As := [.int (zI n), .int (zI 0), .int (zI 256)]) (rest := []) ⟨xX, xB, xM, xO, xT⟩ (c_X6_in l D kI kB n 0 256 (by omega) (by omega) (by omega)) (va_cwS 3 xT gX6_small_X6_in rfl rfl rfl hdn_X6_in ⟨Nat.le_of_ble_eq_true rfl, Nat.le_of_ble_eq_true rfl⟩) (g_preS wP wD wK [] (by decide) rfl) rfl rfl wl.1 rfl (lv_room (Nat.le_of_ble_eq_true rfl)) dX6_small_5 ⟨Nat.le_of_ble_eq_true rfl, Nat.le_of_ble_eq_true rfl⟩) wP wS (fun H locs wP wS => ?_)
  refine b_if_ne (tgt := 14) xX xB dX6_small_8 (by decide) (fun h8 => ?_) (fun h8 => ?_)
  · skip
    refine lv_aload_n xX xB dX6_small_14 rfl (lv_at wl 0 rfl) ?_
    refine lv_aload_n xX xB dX6_small_15 rfl (lv_at wl 0 rfl) ?_
    refine va_get (D := D) (ci := 6) (v := .ref a0) (C := RX6) (T := TX6) (N := 17) xX xB xT in_X6_small_X6 xO wK.1 wP 0 rfl rfl 0 (by decide) (xT _ (List.mem_of_getElem? (i := 2) rfl)) (fun _ h9 => h9) rfl dX6_small_16 ?_
    refine g_modv (va_runV (As := [.ref a0]) (rest := []) ⟨xX, xB, xM, xO, xT⟩ (c_X6_parts l D kI kB h a0 a1 a3 a4 a8 a9 a10 a13 a14 a15 a16 sd dM lM hM (um : Int) (ua : Int) a0 F P m8 NU QU DF LF HA hF rm16 hm) (cwV 1 xT gX6_small_X6_parts rfl rfl rfl hd_X6_parts ⟨Nat.le_of_ble_eq_true rfl, Nat.le_of_ble_eq_true rfl⟩) (g_preV (ci := 6) (q0 := 0) wP wD wK [0, 1, 2, 3, 4, 5, 6] (by decide) rfl rfl rfl) rfl rfl wl.1 rfl (lv_room (Nat.le_of_ble_eq_true rfl)) dX6_small_19 ⟨Nat.le_of_ble_eq_true rfl, Nat.le_of_ble_eq_true rfl⟩) wP wD wS [0, 1, 2, 3, 4, 5, 6] rfl (fun _ => rfl) (fun u_ H locs hc19 wP wD wS => ?_)
    obtain ⟨NU1_1, QU1_2, DF1_3, LF1_4, HA1_5⟩ := u_
    try dsimp only at hc19
    have wP : va_P D gC [(h, .inr (6, [.ref a0, .ref a1, .int (zI sd), .ref a3, .ref a4, .int (zI ((cD P m8 256 : Nat) : Int)), .int (zI ((cL P m8 256 : Nat) : Int)), .int (zI ((cH P m8 256 : Nat) : Int)), .ref a8, .ref a9, .ref a10, .int (zI (um : Int)), .int (zI (ua : Int)), .ref a13, .ref a14, .ref a15, .ref a16])), (a0, .inl (kI, 17, .inl (aZ F))), (a3, .inl (kI, 256, .inl (aZ NU1_1))), (a4, .inl (kI, 256, .inl (aZ QU1_2))), (a8, .inl (kI, 128, .inl (aZ DF1_3))), (a9, .inl (kI, 128, .inl (aZ LF1_4))), (a10, .inl (kI, 128, .inl (aZ HA1_5)))] H := wP
    have wD : va_D (gA [(h, .inr (6, [.ref a0, .ref a1, .int (zI sd), .ref a3, .ref a4, .int (zI dM), .int (zI lM), .int (zI hM), .ref a8, .ref a9, .ref a10, .int (zI (um : Int)), .int (zI (ua : Int)), .ref a13, .ref a14, .ref a15, .ref a16])), (a0, .inl (kI, 17, .inl (aZ F))), (a3, .inl (kI, 256, .inl (aZ NU))), (a4, .inl (kI, 256, .inl (aZ QU))), (a8, .inl (kI, 128, .inl (aZ DF))), (a9, .inl (kI, 128, .inl (aZ LF))), (a10, .inl (kI, 128, .inl (aZ HA)))]) [(h, .inr (6, [.ref a0, .ref a1, .int (zI sd), .ref a3, .ref a4, .int (zI ((cD P m8 256 : Nat) : Int)), .int (zI ((cL P m8 256 : Nat) : Int)), .int (zI ((cH P m8 256 : Nat) : Int)), .ref a8, .ref a9, .ref a10, .int (zI (um : Int)), .int (zI (ua : Int)), .ref a13, .ref a14, .ref a15, .ref a16])), (a0, .inl (kI, 17, .inl (aZ F))), (a3, .inl (kI, 256, .inl (aZ NU1_1))), (a4, .inl (kI, 256, .inl (aZ QU1_2))), (a8, .inl (kI, 128, .inl (aZ DF1_3))), (a9, .inl (kI, 128, .inl (aZ LF1_4))), (a10, .inl (kI, 128, .inl (aZ HA1_5)))] := wD
    refine z_iconst xX xB dX6_small_22 ?_
    refine lv_istore_n (lv' := [(2, .int (zI 0)), (0, .ref h), (1, .int (zI n))]) xX xB dX6_small_23 rfl wl (by decide) rfl (fun ls wl => ?_)
    refine z_iconst xX xB dX6_small_24 ?_
    refine lv_istore_n (lv' := [(3, .int (zI 0)), (2, .int (zI 0)), (0, .ref h), (1, .int (zI n))]) xX xB dX6_small_25 rfl wl (by decide) rfl (fun ls wl => ?_)
    have K : ∀ n_ : Nat, ∀ (i : Nat) (t : Nat), cD P m8 256 - i < n_ → (i ≤ cD P m8 256) → (t = smN P m8 n i) → ∀ (H : Heap) (locs : List Loc) (ls : Array Slot), va_P D gC [(h, .inr (6, [.ref a0, .ref a1, .int (zI sd), .ref a3, .ref a4, .int (zI ((cD P m8 256 : Nat) : Int)), .int (zI ((cL P m8 256 : Nat) : Int)), .int (zI ((cH P m8 256 : Nat) : Int)), .ref a8, .ref a9, .ref a10, .int (zI (um : Int)), .int (zI (ua : Int)), .ref a13, .ref a14, .ref a15, .ref a16])), (a0, .inl (kI, 17, .inl (aZ F))), (a3, .inl (kI, 256, .inl (aZ NU1_1))), (a4, .inl (kI, 256, .inl (aZ QU1_2))), (a8, .inl (kI, 128, .inl (aZ DF1_3))), (a9, .inl (kI, 128, .inl (aZ LF1_4))), (a10, .inl (kI, 128, .inl (aZ HA1_5)))] H → va_D (gA [(h, .inr (6, [.ref a0, .ref a1, .int (zI sd), .ref a3, .ref a4, .int (zI dM), .int (zI lM), .int (zI hM), .ref a8, .ref a9, .ref a10, .int (zI (um : Int)), .int (zI (ua : Int)), .ref a13, .ref a14, .ref a15, .ref a16])), (a0, .inl (kI, 17, .inl (aZ F))), (a3, .inl (kI, 256, .inl (aZ NU))), (a4, .inl (kI, 256, .inl (aZ QU))), (a8, .inl (kI, 128, .inl (aZ DF))), (a9, .inl (kI, 128, .inl (aZ LF))), (a10, .inl (kI, 128, .inl (aZ HA)))]) [(h, .inr (6, [.ref a0, .ref a1, .int (zI sd), .ref a3, .ref a4, .int (zI ((cD P m8 256 : Nat) : Int)), .int (zI ((cL P m8 256 : Nat) : Int)), .int (zI ((cH P m8 256 : Nat) : Int)), .ref a8, .ref a9, .ref a10, .int (zI (um : Int)), .int (zI (ua : Int)), .ref a13, .ref a14, .ref a15, .ref a16])), (a0, .inl (kI, 17, .inl (aZ F))), (a3, .inl (kI, 256, .inl (aZ NU1_1))), (a4, .inl (kI, 256, .inl (aZ QU1_2))), (a8, .inl (kI, 128, .inl (aZ DF1_3))), (a9, .inl (kI, 128, .inl (aZ LF1_4))), (a10, .inl (kI, 128, .inl (aZ HA1_5)))] → va_S (gA [(h, .inr (6, [.ref a0, .ref a1, .int (zI sd), .ref a3, .ref a4, .int (zI dM), .int (zI lM), .int (zI hM), .ref a8, .ref a9, .ref a10, .int (zI (um : Int)), .int (zI (ua : Int)), .ref a13, .ref a14, .ref a15, .ref a16])), (a0, .inl (kI, 17, .inl (aZ F))), (a3, .inl (kI, 256, .inl (aZ NU))), (a4, .inl (kI, 256, .inl (aZ QU))), (a8, .inl (kI, 128, .inl (aZ DF))), (a9, .inl (kI, 128, .inl (aZ LF))), (a10, .inl (kI, 128, .inl (aZ HA)))]) xs.heap H locs → lv_has ls 4 [(0, .ref h), (1, .int (zI n)), (2, .int (zI (t : Int))), (3, .int (zI (i : Int)))] → W xp l xe ({ frames := 4, cells := 0, slots := 0, locals := 101 } : Room) xs xm (List.toArray [.ref h, .int (zI n)]) xbl xmt xc H locs 0 0 xQ (F0 xm 26 ls []) := by
      intro n_
      induction n_ with
      | zero =>
        intro i t hme
        exact absurd hme (Nat.not_lt_zero _)
      | succ n_ ihK =>
        intro i t hme hi ht H locs ls wP wD wS wl
        have hbd : smN P m8 n i ≤ i := fb_ct_le _ i
        refine lv_iload_n xX xB dX6_small_26 rfl (lv_at wl 3 rfl) ?_
        refine lv_aload_n xX xB dX6_small_27 rfl (lv_at wl 0 rfl) ?_
        refine va_get (D := D) (ci := 6) (v := .int (zI ((cD P m8 256 : Nat) : Int))) (C := RX6) (T := TX6) (N := 17) xX xB xT in_X6_small_X6 xO wK.1 wP 0 rfl rfl 5 (by decide) (xT _ (List.mem_of_getElem? (i := 3) rfl)) (fun _ h9 => h9) rfl dX6_small_28 ?_
        refine z_icmp_ge (tgt := 58) xX xB dX6_small_31 (by decide) (by omega) (by omega) (fun h31 => ?_) (fun h31 => ?_)
        · skip
          refine lv_iload_n xX xB dX6_small_58 rfl (lv_at wl 2 rfl) ?_
          subst hQ
          exact g_mret (((cD P m8 256 : Nat) : Int), ((cL P m8 256 : Nat) : Int), ((cH P m8 256 : Nat) : Int), NU1_1, QU1_2, DF1_3, LF1_4, HA1_5) xX xB xR xL wP wS dX6_small_59 ⟨congrArg (fun z : Nat => zI (z : Int)) (by rw [ht, show i = cD P m8 256 by omega]), trivial⟩
        · skip
          obtain ⟨hR, hD, hcD⟩ := selD_spec (P := P) (m8 := m8) (k := i) (by omega)
          have hsz := szR_le (P := P) (m8 := m8) (selD P m8 i)
          refine lv_iload_n xX xB dX6_small_34 rfl (lv_at wl 2 rfl) ?_
          refine lv_aload_n xX xB dX6_small_35 rfl (lv_at wl 0 rfl) ?_
          refine z_iconst xX xB dX6_small_36 ?_
          refine lv_iload_n xX xB dX6_small_37 rfl (lv_at wl 3 rfl) ?_
          refine g_pure (va_runV (As := [.int (zI 1), .int (zI (i : Int))]) (rest := [.int (zI (t : Int))]) ⟨xX, xB, xM, xO, xT⟩ (c_X6_sizeOf l D kI kB h a0 a1 a3 a4 a8 a9 a10 a13 a14 a15 a16 sd (um : Int) (ua : Int) F P m8 NU1_1 DF1_3 LF1_4 HA1_5 (selD P m8 i) true i hF hc19 hR hD.1 hD.2 (by rw [hcD]; rfl)) (cwV 2 xT gX6_small_X6_sizeOf rfl rfl rfl hd_X6_sizeOf ⟨Nat.le_of_ble_eq_true rfl, Nat.le_of_ble_eq_true rfl⟩) (g_preV (ci := 6) (q0 := 0) wP wD wK [0, 1, 2, 4, 5, 6] (by decide) rfl rfl rfl) rfl rfl wl.1 rfl (lv_room (Nat.le_of_ble_eq_true rfl)) dX6_small_38 ⟨Nat.le_of_ble_eq_true rfl, Nat.le_of_ble_eq_true rfl⟩) wP wS (fun H locs wP wS => ?_)
          refine lv_iload_n xX xB dX6_small_41 rfl (lv_at wl 1 rfl) ?_
          refine t_icmp_gt xX xB dX6_small_42 dX6_small_45 dX6_small_46 dX6_small_49 (by omega) (by omega) ?_
          refine lv_ri (bI_Z _) ?_
          refine z_iadd xX xB dX6_small_50 ?_
          refine lv_istore_n (lv' := [(2, .int (zI ((t : Int) + ((bZ (decide (¬ n < ((szR P m8 (selD P m8 i) : Nat) : Int))) : Nat) : Int)))), (0, .ref h), (1, .int (zI n)), (3, .int (zI (i : Int)))]) xX xB dX6_small_51 rfl wl (by decide) rfl (fun ls wl => ?_)
          refine lv_iinc (v := zI ((i : Int) + 1)) (lv' := [(3, .int (zI ((i : Int) + 1))), (2, .int (zI ((t : Int) + ((bZ (decide (¬ n < ((szR P m8 (selD P m8 i) : Nat) : Int))) : Nat) : Int)))), (0, .ref h), (1, .int (zI n))]) xX xB dX6_small_52 wl (k := 3) rfl (zI_add _ _) (by decide) rfl (fun ls wl => ?_)
          refine lv_goto (tgt := 26) xX xB dX6_small_55 (by decide) ?_
          exact ihK (i + 1) (t + (bZ (decide (¬ n < ((szR P m8 (selD P m8 i) : Nat) : Int))))) (by omega) (by omega) (by rw [ht]; unfold smN; rw [fb_ct_succ]; congr 1; unfold bZ; congr 1; rw [decide_eq_true_eq, decide_eq_true_eq]; exact propext (by omega)) _ _ _ wP wD wS (lv_sub wl [2, 3, 1, 0] rfl)
    exact K _ 0 0 (Nat.lt_succ_self _) (by omega) rfl _ _ _ wP wD wS (lv_sub wl [2, 3, 1, 0] rfl)
  · exact absurd h8 (by rw [decide_eq_true hk]; decide)

set_option maxHeartbeats 4000000 in
set_option maxRecDepth 100000 in
theorem c_X6_dot_u (l : Launch) (D : va_G) (kI kB : ClassId) (h : Nat) (a0 : Nat) (a1 : Nat) (a3 : Nat) (a4 : Nat) (a8 : Nat) (a9 : Nat) (a10 : Nat) (a13 : Nat) (a14 : Nat) (a15 : Nat) (a16 : Nat) (sd : Int) (dM : Int) (lM : Int) (hM : Int) (um : Nat) (ua : Nat) (ro : Int) (co : Int) (wt : Int) (rr : -2147483648 ≤ ro ∧ ro ≤ 2147483647) (rv : -2147483648 ≤ co ∧ co ≤ 2147483647) (hb : ¬ ((0 ≤ ro ∧ ro ≤ 15) ∧ (0 ≤ co ∧ co ≤ 15))) : gI l yX6_dot wsX6_dot ({ frames := 2, cells := 0, slots := 0, locals := 43 } : Room) D kI kB [.ref h, .int (zI ro), .int (zI co), .int (zI wt)] [(h, .inr (6, [.ref a0, .ref a1, .int (zI sd), .ref a3, .ref a4, .int (zI dM), .int (zI lM), .int (zI hM), .ref a8, .ref a9, .ref a10, .int (zI (um : Int)), .int (zI (ua : Int)), .ref a13, .ref a14, .ref a15, .ref a16]))] (zI (-1000000001)) := by
  refine g_start (cc := cX6_dot) (maxL := 7) (ret := (some .int)) (by decide) rfl (Nat.le_of_ble_eq_true rfl) ?_
  intro xp xe xs xm xbl xmt xc xX xB xR xM xT xO xL xN wP wD wK ls wl
  have wS : va_S (fun _ => False) xs.heap xs.heap [] := va_S.rf
  have wl : lv_has ls 7 [(0, .ref h), (1, .int (zI ro)), (2, .int (zI co)), (3, .int (zI wt))] := wl
  refine lv_iload_n xX xB dX6_dot_0 rfl (lv_at wl 1 rfl) ?_
  refine lv_iload_n xX xB dX6_dot_1 rfl (lv_at wl 2 rfl) ?_
  refine g_pure (va_runS (As := [.int (zI ro), .int (zI co)]) (rest := []) ⟨xX, xB, xM, xO, xT⟩ (c_X6_isOn l D kI kB ro co (by omega) (by omega)) (va_cwS 2 xT gX6_dot_X6_isOn rfl rfl rfl hdn_X6_isOn ⟨Nat.le_of_ble_eq_true rfl, Nat.le_of_ble_eq_true rfl⟩) (g_preS wP wD wK [] (by decide) rfl) rfl rfl wl.1 rfl (lv_room (Nat.le_of_ble_eq_true rfl)) dX6_dot_2 ⟨Nat.le_of_ble_eq_true rfl, Nat.le_of_ble_eq_true rfl⟩) wP wS (fun H locs wP wS => ?_)
  refine b_if_ne (tgt := 11) xX xB dX6_dot_5 (by decide) (fun h5 => ?_) (fun h5 => ?_)
  · exact absurd h5 (by rw [decide_eq_false hb]; decide)
  · skip
    refine z_ldc xX xB (-1000000001) (by decide) xO (xT _ (List.mem_of_getElem? (i := 1) rfl)) dX6_dot_8 ?_
    exact g_iret xX xB xR xL wS dX6_dot_10 rfl

set_option maxHeartbeats 4000000 in
set_option maxRecDepth 100000 in
theorem c_X6_partsTurned (l : Launch) (D : va_G) (kI kB : ClassId) (h : Nat) (a0 : Nat) (a1 : Nat) (a3 : Nat) (a4 : Nat) (a8 : Nat) (a9 : Nat) (a10 : Nat) (a13 : Nat) (a14 : Nat) (a15 : Nat) (a16 : Nat) (sd : Int) (dM : Int) (lM : Int) (hM : Int) (um : Nat) (ua : Nat) (F : Nat → Int) (G : Nat → Int) (P : Nat → Nat) (m8 : Bool) (NU : Nat → Int) (QU : Nat → Int) (DF : Nat → Int) (LF : Nat → Int) (HA : Nat → Int) (x : Nat) (hF : Pic F P) (rm16 : -2147483648 ≤ F 16 ∧ F 16 ≤ 2147483647) (hm : m8 = decide (F 16 = 8)) (hx : x < 256) : gM l yX6_partsTurned wsX6_partsTurned ({ frames := 5, cells := 0, slots := 0, locals := 122 } : Room) D kI kB [.ref h, .int (zI (x : Int))] [(h, .inr (6, [.ref a0, .ref a1, .int (zI sd), .ref a3, .ref a4, .int (zI dM), .int (zI lM), .int (zI hM), .ref a8, .ref a9, .ref a10, .int (zI (um : Int)), .int (zI (ua : Int)), .ref a13, .ref a14, .ref a15, .ref a16])), (a0, .inl (kI, 17, .inl (aZ F))), (a1, .inl (kI, 17, .inl (aZ G))), (a3, .inl (kI, 256, .inl (aZ NU))), (a4, .inl (kI, 256, .inl (aZ QU))), (a8, .inl (kI, 128, .inl (aZ DF))), (a9, .inl (kI, 128, .inl (aZ LF))), (a10, .inl (kI, 128, .inl (aZ HA)))] (fun (w_ : Int × Int × Int × (Nat → Int) × (Nat → Int) × (Nat → Int) × (Nat → Int) × (Nat → Int) × (Nat → Int)) => [(h, .inr (6, [.ref a0, .ref a1, .int (zI sd), .ref a3, .ref a4, .int (zI (w_.1)), .int (zI (w_.2.1)), .int (zI (w_.2.2.1)), .ref a8, .ref a9, .ref a10, .int (zI (um : Int)), .int (zI (ua : Int)), .ref a13, .ref a14, .ref a15, .ref a16])), (a0, .inl (kI, 17, .inl (aZ F))), (a1, .inl (kI, 17, .inl (aZ (w_.2.2.2.2.2.2.2.2)))), (a3, .inl (kI, 256, .inl (aZ (w_.2.2.2.1)))), (a4, .inl (kI, 256, .inl (aZ (w_.2.2.2.2.1)))), (a8, .inl (kI, 128, .inl (aZ (w_.2.2.2.2.2.1)))), (a9, .inl (kI, 128, .inl (aZ (w_.2.2.2.2.2.2.1)))), (a10, .inl (kI, 128, .inl (aZ (w_.2.2.2.2.2.2.2.1))))]) (fun (r : Int32) (w_ : Int × Int × Int × (Nat → Int) × (Nat → Int) × (Nat → Int) × (Nat → Int) × (Nat → Int) × (Nat → Int)) => r = zI ((cD (fl1 P x) m8 256 : Nat) : Int) ∧ True) := by
  refine g_start (cc := cX6_partsTurned) (maxL := 2) (ret := (some .int)) (by decide) rfl (Nat.le_of_ble_eq_true rfl) ?_
  intro xp xe xs xm xbl xmt xc xX xB xR xM xT xO xL xN wP wD wK ls wl
  have wS : va_S (gA [(h, .inr (6, [.ref a0, .ref a1, .int (zI sd), .ref a3, .ref a4, .int (zI dM), .int (zI lM), .int (zI hM), .ref a8, .ref a9, .ref a10, .int (zI (um : Int)), .int (zI (ua : Int)), .ref a13, .ref a14, .ref a15, .ref a16])), (a0, .inl (kI, 17, .inl (aZ F))), (a1, .inl (kI, 17, .inl (aZ G))), (a3, .inl (kI, 256, .inl (aZ NU))), (a4, .inl (kI, 256, .inl (aZ QU))), (a8, .inl (kI, 128, .inl (aZ DF))), (a9, .inl (kI, 128, .inl (aZ LF))), (a10, .inl (kI, 128, .inl (aZ HA)))]) xs.heap xs.heap [] := va_S.rf
  have wl : lv_has ls 2 [(0, .ref h), (1, .int (zI (x : Int)))] := wl
  refine lv_aload_n xX xB dX6_partsTurned_0 rfl (lv_at wl 0 rfl) ?_
  refine va_get (D := D) (ci := 6) (v := .ref a0) (C := RX6) (T := TX6) (N := 17) xX xB xT in_X6_partsTurned_X6 xO wK.1 wP 0 rfl rfl 0 (by decide) (xT _ (List.mem_of_getElem? (i := 1) rfl)) (fun _ h9 => h9) rfl dX6_partsTurned_1 ?_
  refine lv_aload_n xX xB dX6_partsTurned_4 rfl (lv_at wl 0 rfl) ?_
  refine va_get (D := D) (ci := 6) (v := .ref a1) (C := RX6) (T := TX6) (N := 17) xX xB xT in_X6_partsTurned_X6 xO wK.1 wP 0 rfl rfl 1 (by decide) (xT _ (List.mem_of_getElem? (i := 2) rfl)) (fun _ h9 => h9) rfl dX6_partsTurned_5 ?_
  refine g_modv (va_runS (As := [.ref a0, .ref a1]) (rest := []) ⟨xX, xB, xM, xO, xT⟩ (c_X6_copies l D kI kB a0 a1 F G) (va_cwS 2 xT gX6_partsTurned_X6_copies rfl rfl rfl hdn_X6_copies ⟨Nat.le_of_ble_eq_true rfl, Nat.le_of_ble_eq_true rfl⟩) (g_preS wP wD wK [1, 2] (by decide) rfl) rfl rfl wl.1 rfl (lv_room (Nat.le_of_ble_eq_true rfl)) dX6_partsTurned_8 ⟨Nat.le_of_ble_eq_true rfl, Nat.le_of_ble_eq_true rfl⟩) wP wD wS [1, 2] rfl (fun _ => rfl) (fun G1_1 H locs hc8 wP wD wS => ?_)
  try dsimp only at hc8
  have wP : va_P D gC [(h, .inr (6, [.ref a0, .ref a1, .int (zI sd), .ref a3, .ref a4, .int (zI dM), .int (zI lM), .int (zI hM), .ref a8, .ref a9, .ref a10, .int (zI (um : Int)), .int (zI (ua : Int)), .ref a13, .ref a14, .ref a15, .ref a16])), (a0, .inl (kI, 17, .inl (aZ F))), (a1, .inl (kI, 17, .inl (aZ G1_1))), (a3, .inl (kI, 256, .inl (aZ NU))), (a4, .inl (kI, 256, .inl (aZ QU))), (a8, .inl (kI, 128, .inl (aZ DF))), (a9, .inl (kI, 128, .inl (aZ LF))), (a10, .inl (kI, 128, .inl (aZ HA)))] H := wP
  have wD : va_D (gA [(h, .inr (6, [.ref a0, .ref a1, .int (zI sd), .ref a3, .ref a4, .int (zI dM), .int (zI lM), .int (zI hM), .ref a8, .ref a9, .ref a10, .int (zI (um : Int)), .int (zI (ua : Int)), .ref a13, .ref a14, .ref a15, .ref a16])), (a0, .inl (kI, 17, .inl (aZ F))), (a1, .inl (kI, 17, .inl (aZ G))), (a3, .inl (kI, 256, .inl (aZ NU))), (a4, .inl (kI, 256, .inl (aZ QU))), (a8, .inl (kI, 128, .inl (aZ DF))), (a9, .inl (kI, 128, .inl (aZ LF))), (a10, .inl (kI, 128, .inl (aZ HA)))]) [(h, .inr (6, [.ref a0, .ref a1, .int (zI sd), .ref a3, .ref a4, .int (zI dM), .int (zI lM), .int (zI hM), .ref a8, .ref a9, .ref a10, .int (zI (um : Int)), .int (zI (ua : Int)), .ref a13, .ref a14, .ref a15, .ref a16])), (a0, .inl (kI, 17, .inl (aZ F))), (a1, .inl (kI, 17, .inl (aZ G1_1))), (a3, .inl (kI, 256, .inl (aZ NU))), (a4, .inl (kI, 256, .inl (aZ QU))), (a8, .inl (kI, 128, .inl (aZ DF))), (a9, .inl (kI, 128, .inl (aZ LF))), (a10, .inl (kI, 128, .inl (aZ HA)))] := wD
  refine lv_aload_n xX xB dX6_partsTurned_11 rfl (lv_at wl 0 rfl) ?_
  refine va_get (D := D) (ci := 6) (v := .ref a1) (C := RX6) (T := TX6) (N := 17) xX xB xT in_X6_partsTurned_X6 xO wK.1 wP 0 rfl rfl 1 (by decide) (xT _ (List.mem_of_getElem? (i := 2) rfl)) (fun _ h9 => h9) rfl dX6_partsTurned_12 ?_
  refine lv_iload_n xX xB dX6_partsTurned_15 rfl (lv_at wl 1 rfl) ?_
  refine z_bipush xX xB dX6_partsTurned_16 (by decide) ?_
  refine z_idiv xX xB dX6_partsTurned_18 (by omega) (by decide) ?_
  refine lv_dup2_11 xX xB dX6_partsTurned_19 rfl rfl ?_
  refine z_iald xX xB wK wP 2 rfl (x / 16) (by omega) (by omega) (Nat.le_of_ble_eq_true rfl) dX6_partsTurned_20 ?_
  have hG : Pic G1_1 P := fun k hk => ⟨(hc8 k (by omega)).trans (hF k hk).1, (hF k hk).2⟩
  refine lv_ri (y := zI (P (x / 16) : Int)) (congrArg zI (hG (x / 16) (by omega)).1) ?_
  refine z_iconst xX xB dX6_partsTurned_21 ?_
  refine lv_iload_n xX xB dX6_partsTurned_22 rfl (lv_at wl 1 rfl) ?_
  refine z_bipush xX xB dX6_partsTurned_23 (by decide) ?_
  refine z_irem xX xB dX6_partsTurned_25 (by omega) (by decide) ?_
  refine lv_ishl xX xB dX6_partsTurned_26 ?_
  refine lv_ri (y := zI ((bit (x) : Nat) : Int)) (zb_bitk (k := x % 16) (by omega)) ?_
  refine lv_ixor xX xB dX6_partsTurned_27 ?_
  refine lv_ri (y := zI (((P (x / 16)) ^^^ (bit (x)) : Nat) : Int)) (zb_xor _ _) ?_
  refine z_iast xX xB wK wP wD wS 2 rfl (x / 16) (by omega) (by omega) (Nat.le_of_ble_eq_true rfl) dX6_partsTurned_28 (fun H locs wP wD wS => ?_)
  have wP : va_P D gC [(h, .inr (6, [.ref a0, .ref a1, .int (zI sd), .ref a3, .ref a4, .int (zI dM), .int (zI lM), .int (zI hM), .ref a8, .ref a9, .ref a10, .int (zI (um : Int)), .int (zI (ua : Int)), .ref a13, .ref a14, .ref a15, .ref a16])), (a0, .inl (kI, 17, .inl (aZ F))), (a1, .inl (kI, 17, .inl (aZ (uZ G1_1 (x / 16) (((P (x / 16)) ^^^ (bit (x)) : Nat) : Int))))), (a3, .inl (kI, 256, .inl (aZ NU))), (a4, .inl (kI, 256, .inl (aZ QU))), (a8, .inl (kI, 128, .inl (aZ DF))), (a9, .inl (kI, 128, .inl (aZ LF))), (a10, .inl (kI, 128, .inl (aZ HA)))] H := wP
  have wD : va_D (gA [(h, .inr (6, [.ref a0, .ref a1, .int (zI sd), .ref a3, .ref a4, .int (zI dM), .int (zI lM), .int (zI hM), .ref a8, .ref a9, .ref a10, .int (zI (um : Int)), .int (zI (ua : Int)), .ref a13, .ref a14, .ref a15, .ref a16])), (a0, .inl (kI, 17, .inl (aZ F))), (a1, .inl (kI, 17, .inl (aZ G))), (a3, .inl (kI, 256, .inl (aZ NU))), (a4, .inl (kI, 256, .inl (aZ QU))), (a8, .inl (kI, 128, .inl (aZ DF))), (a9, .inl (kI, 128, .inl (aZ LF))), (a10, .inl (kI, 128, .inl (aZ HA)))]) [(h, .inr (6, [.ref a0, .ref a1, .int (zI sd), .ref a3, .ref a4, .int (zI dM), .int (zI lM), .int (zI hM), .ref a8, .ref a9, .ref a10, .int (zI (um : Int)), .int (zI (ua : Int)), .ref a13, .ref a14, .ref a15, .ref a16])), (a0, .inl (kI, 17, .inl (aZ F))), (a1, .inl (kI, 17, .inl (aZ (uZ G1_1 (x / 16) (((P (x / 16)) ^^^ (bit (x)) : Nat) : Int))))), (a3, .inl (kI, 256, .inl (aZ NU))), (a4, .inl (kI, 256, .inl (aZ QU))), (a8, .inl (kI, 128, .inl (aZ DF))), (a9, .inl (kI, 128, .inl (aZ LF))), (a10, .inl (kI, 128, .inl (aZ HA)))] := wD
  refine lv_aload_n xX xB dX6_partsTurned_29 rfl (lv_at wl 0 rfl) ?_
  refine lv_aload_n xX xB dX6_partsTurned_30 rfl (lv_at wl 0 rfl) ?_
  refine va_get (D := D) (ci := 6) (v := .ref a1) (C := RX6) (T := TX6) (N := 17) xX xB xT in_X6_partsTurned_X6 xO wK.1 wP 0 rfl rfl 1 (by decide) (xT _ (List.mem_of_getElem? (i := 2) rfl)) (fun _ h9 => h9) rfl dX6_partsTurned_31 ?_
  refine g_modi (va_runV (As := [.ref a1]) (rest := []) ⟨xX, xB, xM, xO, xT⟩ (c_X6_partsOf l D kI kB h a0 a1 a3 a4 a8 a9 a10 a13 a14 a15 a16 sd dM lM hM (um : Int) (ua : Int) a1 (uZ G1_1 (x / 16) (((P (x / 16)) ^^^ (bit (x)) : Nat) : Int)) (fl1 P x) m8 NU QU DF LF HA (hG.fl hx) (by rw [uZ_n _ _ (by omega), hc8 16 (by omega)]; exact rm16) (by rw [uZ_n _ _ (by omega), hc8 16 (by omega)]; exact hm)) (cwV 1 xT gX6_partsTurned_X6_partsOf rfl rfl rfl hd_X6_partsOf ⟨Nat.le_of_ble_eq_true rfl, Nat.le_of_ble_eq_true rfl⟩) (g_preV (ci := 6) (q0 := 0) wP wD wK [0, 2, 3, 4, 5, 6, 7] (by decide) rfl rfl rfl) rfl rfl wl.1 rfl (lv_room (Nat.le_of_ble_eq_true rfl)) dX6_partsTurned_34 ⟨Nat.le_of_ble_eq_true rfl, Nat.le_of_ble_eq_true rfl⟩) wP wD wS [0, 2, 3, 4, 5, 6, 7] rfl (fun _ => rfl) (fun r_7 u_ H locs hc34 wP wD wS => ?_)
  obtain ⟨NU1_2, QU1_3, DF1_4, LF1_5, HA1_6⟩ := u_
  try dsimp only at hc34
  have wP : va_P D gC [(h, .inr (6, [.ref a0, .ref a1, .int (zI sd), .ref a3, .ref a4, .int (zI ((cD (fl1 P x) m8 256 : Nat) : Int)), .int (zI ((cL (fl1 P x) m8 256 : Nat) : Int)), .int (zI ((cH (fl1 P x) m8 256 : Nat) : Int)), .ref a8, .ref a9, .ref a10, .int (zI (um : Int)), .int (zI (ua : Int)), .ref a13, .ref a14, .ref a15, .ref a16])), (a0, .inl (kI, 17, .inl (aZ F))), (a1, .inl (kI, 17, .inl (aZ (uZ G1_1 (x / 16) (((P (x / 16)) ^^^ (bit (x)) : Nat) : Int))))), (a3, .inl (kI, 256, .inl (aZ NU1_2))), (a4, .inl (kI, 256, .inl (aZ QU1_3))), (a8, .inl (kI, 128, .inl (aZ DF1_4))), (a9, .inl (kI, 128, .inl (aZ LF1_5))), (a10, .inl (kI, 128, .inl (aZ HA1_6)))] H := wP
  have wD : va_D (gA [(h, .inr (6, [.ref a0, .ref a1, .int (zI sd), .ref a3, .ref a4, .int (zI dM), .int (zI lM), .int (zI hM), .ref a8, .ref a9, .ref a10, .int (zI (um : Int)), .int (zI (ua : Int)), .ref a13, .ref a14, .ref a15, .ref a16])), (a0, .inl (kI, 17, .inl (aZ F))), (a1, .inl (kI, 17, .inl (aZ G))), (a3, .inl (kI, 256, .inl (aZ NU))), (a4, .inl (kI, 256, .inl (aZ QU))), (a8, .inl (kI, 128, .inl (aZ DF))), (a9, .inl (kI, 128, .inl (aZ LF))), (a10, .inl (kI, 128, .inl (aZ HA)))]) [(h, .inr (6, [.ref a0, .ref a1, .int (zI sd), .ref a3, .ref a4, .int (zI ((cD (fl1 P x) m8 256 : Nat) : Int)), .int (zI ((cL (fl1 P x) m8 256 : Nat) : Int)), .int (zI ((cH (fl1 P x) m8 256 : Nat) : Int)), .ref a8, .ref a9, .ref a10, .int (zI (um : Int)), .int (zI (ua : Int)), .ref a13, .ref a14, .ref a15, .ref a16])), (a0, .inl (kI, 17, .inl (aZ F))), (a1, .inl (kI, 17, .inl (aZ (uZ G1_1 (x / 16) (((P (x / 16)) ^^^ (bit (x)) : Nat) : Int))))), (a3, .inl (kI, 256, .inl (aZ NU1_2))), (a4, .inl (kI, 256, .inl (aZ QU1_3))), (a8, .inl (kI, 128, .inl (aZ DF1_4))), (a9, .inl (kI, 128, .inl (aZ LF1_5))), (a10, .inl (kI, 128, .inl (aZ HA1_6)))] := wD
  obtain ⟨xR34, hc34⟩ := hc34
  refine lv_ri (y := zI ((cD (fl1 P x) m8 256 : Nat) : Int)) xR34 ?_
  exact g_mret (((cD (fl1 P x) m8 256 : Nat) : Int), ((cL (fl1 P x) m8 256 : Nat) : Int), ((cH (fl1 P x) m8 256 : Nat) : Int), NU1_2, QU1_3, DF1_4, LF1_5, HA1_6, uZ G1_1 (x / 16) ((P (x / 16) ^^^ bit x : Nat) : Int)) xX xB xR xL wP wS dX6_partsTurned_37 ⟨rfl, trivial⟩

set_option maxHeartbeats 4000000 in
set_option maxRecDepth 100000 in
theorem c_X6_dot (l : Launch) (D : va_G) (kI kB : ClassId) (h : Nat) (a0 : Nat) (a1 : Nat) (a3 : Nat) (a4 : Nat) (a8 : Nat) (a9 : Nat) (a10 : Nat) (a13 : Nat) (a14 : Nat) (a15 : Nat) (a16 : Nat) (sd : Int) (dM : Int) (lM : Int) (hM : Int) (um : Nat) (ua : Nat) (F : Nat → Int) (G : Nat → Int) (P : Nat → Nat) (m8 : Bool) (NU : Nat → Int) (QU : Nat → Int) (DF : Nat → Int) (LF : Nat → Int) (HA : Nat → Int) (ro : Nat) (co : Nat) (wt : Int) (hF : Pic F P) (rm16 : -2147483648 ≤ F 16 ∧ F 16 ≤ 2147483647) (hm : m8 = decide (F 16 = 8)) (hro : ro < 16) (hco : co < 16) (rw_ : -2147483648 ≤ wt ∧ wt ≤ 2147483647) : gM l yX6_dot wsX6_dot ({ frames := 6, cells := 0, slots := 0, locals := 143 } : Room) D kI kB [.ref h, .int (zI (ro : Int)), .int (zI (co : Int)), .int (zI wt)] [(h, .inr (6, [.ref a0, .ref a1, .int (zI sd), .ref a3, .ref a4, .int (zI dM), .int (zI lM), .int (zI hM), .ref a8, .ref a9, .ref a10, .int (zI (um : Int)), .int (zI (ua : Int)), .ref a13, .ref a14, .ref a15, .ref a16])), (a0, .inl (kI, 17, .inl (aZ F))), (a1, .inl (kI, 17, .inl (aZ G))), (a3, .inl (kI, 256, .inl (aZ NU))), (a4, .inl (kI, 256, .inl (aZ QU))), (a8, .inl (kI, 128, .inl (aZ DF))), (a9, .inl (kI, 128, .inl (aZ LF))), (a10, .inl (kI, 128, .inl (aZ HA)))] (fun (w_ : Int × Int × Int × (Nat → Int) × (Nat → Int) × (Nat → Int) × (Nat → Int) × (Nat → Int) × (Nat → Int)) => [(h, .inr (6, [.ref a0, .ref a1, .int (zI sd), .ref a3, .ref a4, .int (zI (w_.1)), .int (zI (w_.2.1)), .int (zI (w_.2.2.1)), .ref a8, .ref a9, .ref a10, .int (zI (um : Int)), .int (zI (ua : Int)), .ref a13, .ref a14, .ref a15, .ref a16])), (a0, .inl (kI, 17, .inl (aZ F))), (a1, .inl (kI, 17, .inl (aZ (w_.2.2.2.2.2.2.2.2)))), (a3, .inl (kI, 256, .inl (aZ (w_.2.2.2.1)))), (a4, .inl (kI, 256, .inl (aZ (w_.2.2.2.2.1)))), (a8, .inl (kI, 128, .inl (aZ (w_.2.2.2.2.2.1)))), (a9, .inl (kI, 128, .inl (aZ (w_.2.2.2.2.2.2.1)))), (a10, .inl (kI, 128, .inl (aZ (w_.2.2.2.2.2.2.2.1))))]) (fun (r : Int32) (w_ : Int × Int × Int × (Nat → Int) × (Nat → Int) × (Nat → Int) × (Nat → Int) × (Nat → Int) × (Nat → Int)) => r = zI (dotS P m8 (16 * ro + co) wt) ∧ True) := by
  refine g_start (cc := cX6_dot) (maxL := 7) (ret := (some .int)) (by decide) rfl (Nat.le_of_ble_eq_true rfl) ?_
  intro xp xe xs xm xbl xmt xc xX xB xR xM xT xO xL xN wP wD wK ls wl
  have wS : va_S (gA [(h, .inr (6, [.ref a0, .ref a1, .int (zI sd), .ref a3, .ref a4, .int (zI dM), .int (zI lM), .int (zI hM), .ref a8, .ref a9, .ref a10, .int (zI (um : Int)), .int (zI (ua : Int)), .ref a13, .ref a14, .ref a15, .ref a16])), (a0, .inl (kI, 17, .inl (aZ F))), (a1, .inl (kI, 17, .inl (aZ G))), (a3, .inl (kI, 256, .inl (aZ NU))), (a4, .inl (kI, 256, .inl (aZ QU))), (a8, .inl (kI, 128, .inl (aZ DF))), (a9, .inl (kI, 128, .inl (aZ LF))), (a10, .inl (kI, 128, .inl (aZ HA)))]) xs.heap xs.heap [] := va_S.rf
  have wl : lv_has ls 7 [(0, .ref h), (1, .int (zI (ro : Int))), (2, .int (zI (co : Int))), (3, .int (zI wt))] := wl
  generalize hQ : MQ xbl _ _ xs 0 0 _ = xQ
  have hcb := cD_128 (P := P) (m8 := m8)
  have hcb2 := cD_128 (P := fl1 P (16 * ro + co)) (m8 := m8)
  refine lv_iload_n xX xB dX6_dot_0 rfl (lv_at wl 1 rfl) ?_
  refine lv_iload_n xX xB dX6_dot_1 rfl (lv_at wl 2 rfl) ?_
  refine g_pure (va_runS (As := [.int (zI (ro : Int)), .int (zI (co : Int))]) (rest := []) ⟨xX, xB, xM, xO, xT⟩ (c_X6_isOn l D kI kB (ro : Int) (co : Int) (by omega) (by omega)) (va_cwS 2 xT gX6_dot_X6_isOn rfl rfl rfl hdn_X6_isOn ⟨Nat.le_of_ble_eq_true rfl, Nat.le_of_ble_eq_true rfl⟩) (g_preS wP wD wK [] (by decide) rfl) rfl rfl wl.1 rfl (lv_room (Nat.le_of_ble_eq_true rfl)) dX6_dot_2 ⟨Nat.le_of_ble_eq_true rfl, Nat.le_of_ble_eq_true rfl⟩) wP wS (fun H locs wP wS => ?_)
  refine b_if_ne (tgt := 11) xX xB dX6_dot_5 (by decide) (fun h5 => ?_) (fun h5 => ?_)
  · skip
    refine z_bipush xX xB dX6_dot_11 (by decide) ?_
    refine lv_iload_n xX xB dX6_dot_13 rfl (lv_at wl 1 rfl) ?_
    refine z_imul xX xB dX6_dot_14 ?_
    refine lv_iload_n xX xB dX6_dot_15 rfl (lv_at wl 2 rfl) ?_
    refine z_iadd xX xB dX6_dot_16 ?_
    refine lv_ri (y := zI ((16 * ro + co : Nat) : Int)) (congrArg zI (by omega)) ?_
    refine lv_istore (lv' := [(4, .int (zI ((16 * ro + co : Nat) : Int))), (0, .ref h), (1, .int (zI (ro : Int))), (2, .int (zI (co : Int))), (3, .int (zI wt))]) xX xB dX6_dot_17 wl (by decide) rfl (fun ls wl => ?_)
    refine lv_aload_n xX xB dX6_dot_19 rfl (lv_at wl 1 rfl) ?_
    refine va_get (D := D) (ci := 6) (v := .ref a0) (C := RX6) (T := TX6) (N := 17) xX xB xT in_X6_dot_X6 xO wK.1 wP 0 rfl rfl 0 (by decide) (xT _ (List.mem_of_getElem? (i := 2) rfl)) (fun _ h9 => h9) rfl dX6_dot_20 ?_
    refine lv_iload xX xB dX6_dot_23 (lv_at wl 0 rfl) ?_
    refine g_pure (va_runS (As := [.ref a0, .int (zI ((16 * ro + co : Nat) : Int))]) (rest := []) ⟨xX, xB, xM, xO, xT⟩ (c_X6_isDark l D kI kB a0 F P (16 * ro + co) hF (by omega)) (va_cwS 2 xT gX6_dot_X6_isDark rfl rfl rfl hdn_X6_isDark ⟨Nat.le_of_ble_eq_true rfl, Nat.le_of_ble_eq_true rfl⟩) (g_preS wP wD wK [1] (by decide) rfl) rfl rfl wl.1 rfl (lv_room (Nat.le_of_ble_eq_true rfl)) dX6_dot_25 ⟨Nat.le_of_ble_eq_true rfl, Nat.le_of_ble_eq_true rfl⟩) wP wS (fun H locs wP wS => ?_)
    refine lv_istore (lv' := [(5, .int (bI (dk P (16 * ro + co)))), (4, .int (zI ((16 * ro + co : Nat) : Int))), (0, .ref h), (1, .int (zI (ro : Int))), (2, .int (zI (co : Int))), (3, .int (zI wt))]) xX xB dX6_dot_28 wl (by decide) rfl (fun ls wl => ?_)
    have J11 : ∀ (tu : Int) (d1 : Int) (l1 : Int) (h1_ : Int) (NU1 : Nat → Int) (QU1 : Nat → Int) (DF1 : Nat → Int) (LF1 : Nat → Int) (HA1 : Nat → Int) (G1 : Nat → Int), ((3 ≤ wt ∧ wt ≤ 4) → tu = ((cD (fl1 P (16 * ro + co)) m8 256 : Nat) : Int)) → ∀ (H : Heap) (locs : List Loc) (ls : Array Slot), va_P D gC [(h, .inr (6, [.ref a0, .ref a1, .int (zI sd), .ref a3, .ref a4, .int (zI d1), .int (zI l1), .int (zI h1_), .ref a8, .ref a9, .ref a10, .int (zI (um : Int)), .int (zI (ua : Int)), .ref a13, .ref a14, .ref a15, .ref a16])), (a0, .inl (kI, 17, .inl (aZ F))), (a1, .inl (kI, 17, .inl (aZ G1))), (a3, .inl (kI, 256, .inl (aZ NU1))), (a4, .inl (kI, 256, .inl (aZ QU1))), (a8, .inl (kI, 128, .inl (aZ DF1))), (a9, .inl (kI, 128, .inl (aZ LF1))), (a10, .inl (kI, 128, .inl (aZ HA1)))] H → va_D (gA [(h, .inr (6, [.ref a0, .ref a1, .int (zI sd), .ref a3, .ref a4, .int (zI dM), .int (zI lM), .int (zI hM), .ref a8, .ref a9, .ref a10, .int (zI (um : Int)), .int (zI (ua : Int)), .ref a13, .ref a14, .ref a15, .ref a16])), (a0, .inl (kI, 17, .inl (aZ F))), (a1, .inl (kI, 17, .inl (aZ G))), (a3, .inl (kI, 256, .inl (aZ NU))), (a4, .inl (kI, 256, .inl (aZ QU))), (a8, .inl (kI, 128, .inl (aZ DF))), (a9, .inl (kI, 128, .inl (aZ LF))), (a10, .inl (kI, 128, .inl (aZ HA)))]) [(h, .inr (6, [.ref a0, .ref a1, .int (zI sd), .ref a3, .ref a4, .int (zI d1), .int (zI l1), .int (zI h1_), .ref a8, .ref a9, .ref a10, .int (zI (um : Int)), .int (zI (ua : Int)), .ref a13, .ref a14, .ref a15, .ref a16])), (a0, .inl (kI, 17, .inl (aZ F))), (a1, .inl (kI, 17, .inl (aZ G1))), (a3, .inl (kI, 256, .inl (aZ NU1))), (a4, .inl (kI, 256, .inl (aZ QU1))), (a8, .inl (kI, 128, .inl (aZ DF1))), (a9, .inl (kI, 128, .inl (aZ LF1))), (a10, .inl (kI, 128, .inl (aZ HA1)))] → va_S (gA [(h, .inr (6, [.ref a0, .ref a1, .int (zI sd), .ref a3, .ref a4, .int (zI dM), .int (zI lM), .int (zI hM), .ref a8, .ref a9, .ref a10, .int (zI (um : Int)), .int (zI (ua : Int)), .ref a13, .ref a14, .ref a15, .ref a16])), (a0, .inl (kI, 17, .inl (aZ F))), (a1, .inl (kI, 17, .inl (aZ G))), (a3, .inl (kI, 256, .inl (aZ NU))), (a4, .inl (kI, 256, .inl (aZ QU))), (a8, .inl (kI, 128, .inl (aZ DF))), (a9, .inl (kI, 128, .inl (aZ LF))), (a10, .inl (kI, 128, .inl (aZ HA)))]) xs.heap H locs → lv_has ls 7 [(5, .int (bI (dk P (16 * ro + co)))), (4, .int (zI ((16 * ro + co : Nat) : Int))), (0, .ref h), (1, .int (zI (ro : Int))), (2, .int (zI (co : Int))), (3, .int (zI wt))] → W xp l xe ({ frames := 6, cells := 0, slots := 0, locals := 143 } : Room) xs xm (List.toArray [.ref h, .int (zI (ro : Int)), .int (zI (co : Int)), .int (zI wt)]) xbl xmt xc H locs 0 0 xQ (F0 xm 49 ls [.int (zI tu)]) := by
      intro tu d1 l1 h1_ NU1 QU1 DF1 LF1 HA1 G1 htu H locs ls wP wD wS wl
      refine lv_istore (lv' := [(6, .int (zI tu)), (5, .int (bI (dk P (16 * ro + co)))), (4, .int (zI ((16 * ro + co : Nat) : Int))), (0, .ref h), (1, .int (zI (ro : Int))), (2, .int (zI (co : Int))), (3, .int (zI wt))]) xX xB dX6_dot_49 wl (by decide) rfl (fun ls wl => ?_)
      refine lv_aload_n xX xB dX6_dot_51 rfl (lv_at wl 3 rfl) ?_
      refine lv_aload_n xX xB dX6_dot_52 rfl (lv_at wl 3 rfl) ?_
      refine va_get (D := D) (ci := 6) (v := .ref a0) (C := RX6) (T := TX6) (N := 17) xX xB xT in_X6_dot_X6 xO wK.1 wP 0 rfl rfl 0 (by decide) (xT _ (List.mem_of_getElem? (i := 2) rfl)) (fun _ h9 => h9) rfl dX6_dot_53 ?_
      refine g_modv (va_runV (As := [.ref a0]) (rest := []) ⟨xX, xB, xM, xO, xT⟩ (c_X6_parts l D kI kB h a0 a1 a3 a4 a8 a9 a10 a13 a14 a15 a16 sd d1 l1 h1_ (um : Int) (ua : Int) a0 F P m8 NU1 QU1 DF1 LF1 HA1 hF rm16 hm) (cwV 1 xT gX6_dot_X6_parts rfl rfl rfl hd_X6_parts ⟨Nat.le_of_ble_eq_true rfl, Nat.le_of_ble_eq_true rfl⟩) (g_preV (ci := 6) (q0 := 0) wP wD wK [0, 1, 3, 4, 5, 6, 7] (by decide) rfl rfl rfl) rfl rfl wl.1 rfl (lv_room (Nat.le_of_ble_eq_true rfl)) dX6_dot_56 ⟨Nat.le_of_ble_eq_true rfl, Nat.le_of_ble_eq_true rfl⟩) wP wD wS [0, 1, 3, 4, 5, 6, 7] rfl (fun _ => rfl) (fun u_ H locs hc56 wP wD wS => ?_)
      obtain ⟨NU1_2, QU1_3, DF1_4, LF1_5, HA1_6⟩ := u_
      try dsimp only at hc56
      have wP : va_P D gC [(h, .inr (6, [.ref a0, .ref a1, .int (zI sd), .ref a3, .ref a4, .int (zI ((cD P m8 256 : Nat) : Int)), .int (zI ((cL P m8 256 : Nat) : Int)), .int (zI ((cH P m8 256 : Nat) : Int)), .ref a8, .ref a9, .ref a10, .int (zI (um : Int)), .int (zI (ua : Int)), .ref a13, .ref a14, .ref a15, .ref a16])), (a0, .inl (kI, 17, .inl (aZ F))), (a1, .inl (kI, 17, .inl (aZ G1))), (a3, .inl (kI, 256, .inl (aZ NU1_2))), (a4, .inl (kI, 256, .inl (aZ QU1_3))), (a8, .inl (kI, 128, .inl (aZ DF1_4))), (a9, .inl (kI, 128, .inl (aZ LF1_5))), (a10, .inl (kI, 128, .inl (aZ HA1_6)))] H := wP
      have wD : va_D (gA [(h, .inr (6, [.ref a0, .ref a1, .int (zI sd), .ref a3, .ref a4, .int (zI dM), .int (zI lM), .int (zI hM), .ref a8, .ref a9, .ref a10, .int (zI (um : Int)), .int (zI (ua : Int)), .ref a13, .ref a14, .ref a15, .ref a16])), (a0, .inl (kI, 17, .inl (aZ F))), (a1, .inl (kI, 17, .inl (aZ G))), (a3, .inl (kI, 256, .inl (aZ NU))), (a4, .inl (kI, 256, .inl (aZ QU))), (a8, .inl (kI, 128, .inl (aZ DF))), (a9, .inl (kI, 128, .inl (aZ LF))), (a10, .inl (kI, 128, .inl (aZ HA)))]) [(h, .inr (6, [.ref a0, .ref a1, .int (zI sd), .ref a3, .ref a4, .int (zI ((cD P m8 256 : Nat) : Int)), .int (zI ((cL P m8 256 : Nat) : Int)), .int (zI ((cH P m8 256 : Nat) : Int)), .ref a8, .ref a9, .ref a10, .int (zI (um : Int)), .int (zI (ua : Int)), .ref a13, .ref a14, .ref a15, .ref a16])), (a0, .inl (kI, 17, .inl (aZ F))), (a1, .inl (kI, 17, .inl (aZ G1))), (a3, .inl (kI, 256, .inl (aZ NU1_2))), (a4, .inl (kI, 256, .inl (aZ QU1_3))), (a8, .inl (kI, 128, .inl (aZ DF1_4))), (a9, .inl (kI, 128, .inl (aZ LF1_5))), (a10, .inl (kI, 128, .inl (aZ HA1_6)))] := wD
      refine lv_iload_n xX xB dX6_dot_59 rfl (lv_at wl 6 rfl) ?_
      by_cases h60 : wt < 0 ∨ 4 < wt
      · refine z_tableOut (tgt := 184) xX xB dX6_dot_60 (by omega) h60 (by decide) ?_
        refine z_ldc xX xB (-1000000002) (by decide) xO (xT _ (List.mem_of_getElem? (i := 6) rfl)) dX6_dot_184 ?_
        subst hQ
        exact g_mret (((cD P m8 256 : Nat) : Int), ((cL P m8 256 : Nat) : Int), ((cH P m8 256 : Nat) : Int), NU1_2, QU1_3, DF1_4, LF1_5, HA1_6, G1) xX xB xR xL wP wS dX6_dot_186 ⟨congrArg zI (dotS_out h60).symm, trivial⟩
      · rcases (show wt = 0 ∨ wt = 1 ∨ wt = 2 ∨ wt = 3 ∨ wt = 4 by omega) with rfl | rfl | rfl | rfl | rfl
        · refine z_tableIn (off := 36) (tgt := 96) 0 xX xB dX6_dot_60 (by omega) (by omega) (by omega) rfl (by decide) ?_
          refine lv_iload xX xB dX6_dot_96 (lv_at wl 1 rfl) ?_
          refine t_b_eq xX xB dX6_dot_98 dX6_dot_101 dX6_dot_102 dX6_dot_105 ?_
          subst hQ
          exact g_mret (((cD P m8 256 : Nat) : Int), ((cL P m8 256 : Nat) : Int), ((cH P m8 256 : Nat) : Int), NU1_2, QU1_3, DF1_4, LF1_5, HA1_6, G1) xX xB xR xL wP wS dX6_dot_106 ⟨bI_Z _, trivial⟩
        · refine z_tableIn (off := 47) (tgt := 107) 1 xX xB dX6_dot_60 (by omega) (by omega) (by omega) rfl (by decide) ?_
          refine lv_iload xX xB dX6_dot_107 (lv_at wl 1 rfl) ?_
          refine b_if_eq (tgt := 122) xX xB dX6_dot_109 (by decide) (fun h109 => ?_) (fun h109 => ?_)
          · skip
            refine z_iconst xX xB dX6_dot_122 ?_
            subst hQ
            exact g_mret (((cD P m8 256 : Nat) : Int), ((cL P m8 256 : Nat) : Int), ((cH P m8 256 : Nat) : Int), NU1_2, QU1_3, DF1_4, LF1_5, HA1_6, G1) xX xB xR xL wP wS dX6_dot_123 ⟨congrArg zI (by rw [dotS_1f h109]), trivial⟩
          · skip
            refine lv_aload_n xX xB dX6_dot_112 rfl (lv_at wl 3 rfl) ?_
            refine va_get (D := D) (ci := 6) (v := .ref a3) (C := RX6) (T := TX6) (N := 17) xX xB xT in_X6_dot_X6 xO wK.1 wP 0 rfl rfl 3 (by decide) (xT _ (List.mem_of_getElem? (i := 3) rfl)) (fun _ h9 => h9) rfl dX6_dot_113 ?_
            refine lv_iload xX xB dX6_dot_116 (lv_at wl 2 rfl) ?_
            refine z_iald xX xB wK wP 3 rfl (16 * ro + co) (by omega) (by omega) (Nat.le_of_ble_eq_true rfl) dX6_dot_118 ?_
            refine lv_goto (tgt := 123) xX xB dX6_dot_119 (by decide) ?_
            subst hQ
            exact g_mret (((cD P m8 256 : Nat) : Int), ((cL P m8 256 : Nat) : Int), ((cH P m8 256 : Nat) : Int), NU1_2, QU1_3, DF1_4, LF1_5, HA1_6, G1) xX xB xR xL wP wS dX6_dot_123 ⟨congrArg zI (by rw [dotS_1t h109]; exact hc56.numD (by omega) h109), trivial⟩
        · refine z_tableIn (off := 64) (tgt := 124) 2 xX xB dX6_dot_60 (by omega) (by omega) (by omega) rfl (by decide) ?_
          refine lv_iload xX xB dX6_dot_124 (lv_at wl 1 rfl) ?_
          refine b_if_eq (tgt := 133) xX xB dX6_dot_126 (by decide) (fun h126 => ?_) (fun h126 => ?_)
          · skip
            refine lv_aload_n xX xB dX6_dot_133 rfl (lv_at wl 3 rfl) ?_
            refine va_get (D := D) (ci := 6) (v := .ref a10) (C := RX6) (T := TX6) (N := 17) xX xB xT in_X6_dot_X6 xO wK.1 wP 0 rfl rfl 10 (by decide) (xT _ (List.mem_of_getElem? (i := 4) rfl)) (fun _ h9 => h9) rfl dX6_dot_134 ?_
            refine lv_aload_n xX xB dX6_dot_137 rfl (lv_at wl 3 rfl) ?_
            refine va_get (D := D) (ci := 6) (v := .ref a3) (C := RX6) (T := TX6) (N := 17) xX xB xT in_X6_dot_X6 xO wK.1 wP 0 rfl rfl 3 (by decide) (xT _ (List.mem_of_getElem? (i := 3) rfl)) (fun _ h9 => h9) rfl dX6_dot_138 ?_
            refine lv_iload xX xB dX6_dot_141 (lv_at wl 2 rfl) ?_
            refine z_iald xX xB wK wP 3 rfl (16 * ro + co) (by omega) (by omega) (Nat.le_of_ble_eq_true rfl) dX6_dot_143 ?_
            refine lv_ri (y := zI ((cL P m8 (rp P m8 (16 * ro + co)) : Nat) : Int)) (congrArg zI (hc56.numL (by omega) h126)) ?_
            refine z_iald xX xB wK wP 7 rfl (cL P m8 (rp P m8 (16 * ro + co))) rfl (Nat.lt_of_lt_of_le (cL_lt (rp_lt (by omega)) (isL_rp h126)) cL_128) (Nat.le_of_ble_eq_true rfl) dX6_dot_144 ?_
            subst hQ
            exact g_mret (((cD P m8 256 : Nat) : Int), ((cL P m8 256 : Nat) : Int), ((cH P m8 256 : Nat) : Int), NU1_2, QU1_3, DF1_4, LF1_5, HA1_6, G1) xX xB xR xL wP wS dX6_dot_145 ⟨congrArg zI (by rw [dotS_2f h126]; exact hc56.dotH (by omega) h126), trivial⟩
          · skip
            refine z_iconst xX xB dX6_dot_129 ?_
            refine lv_goto (tgt := 145) xX xB dX6_dot_130 (by decide) ?_
            subst hQ
            exact g_mret (((cD P m8 256 : Nat) : Int), ((cL P m8 256 : Nat) : Int), ((cH P m8 256 : Nat) : Int), NU1_2, QU1_3, DF1_4, LF1_5, HA1_6, G1) xX xB xR xL wP wS dX6_dot_145 ⟨congrArg zI (by rw [dotS_2t h126]), trivial⟩
        · refine z_tableIn (off := 86) (tgt := 146) 3 xX xB dX6_dot_60 (by omega) (by omega) (by omega) rfl (by decide) ?_
          refine lv_iload xX xB dX6_dot_146 (lv_at wl 1 rfl) ?_
          refine b_if_eq (tgt := 155) xX xB dX6_dot_148 (by decide) (fun h148 => ?_) (fun h148 => ?_)
          · skip
            refine lv_aload_n xX xB dX6_dot_155 rfl (lv_at wl 3 rfl) ?_
            refine va_get (D := D) (ci := 6) (v := .int (zI ((cD P m8 256 : Nat) : Int))) (C := RX6) (T := TX6) (N := 17) xX xB xT in_X6_dot_X6 xO wK.1 wP 0 rfl rfl 5 (by decide) (xT _ (List.mem_of_getElem? (i := 5) rfl)) (fun _ h9 => h9) rfl dX6_dot_156 ?_
            refine lv_iload xX xB dX6_dot_159 (lv_at wl 0 rfl) ?_
            refine z_isub xX xB dX6_dot_161 ?_
            refine z_iconst xX xB dX6_dot_162 ?_
            refine z_iadd xX xB dX6_dot_163 ?_
            subst hQ
            exact g_mret (((cD P m8 256 : Nat) : Int), ((cL P m8 256 : Nat) : Int), ((cH P m8 256 : Nat) : Int), NU1_2, QU1_3, DF1_4, LF1_5, HA1_6, G1) xX xB xR xL wP wS dX6_dot_164 ⟨congrArg zI (by rw [dotS_3f h148]; rw [htu (by decide)]), trivial⟩
          · skip
            refine z_iconst xX xB dX6_dot_151 ?_
            refine lv_goto (tgt := 164) xX xB dX6_dot_152 (by decide) ?_
            subst hQ
            exact g_mret (((cD P m8 256 : Nat) : Int), ((cL P m8 256 : Nat) : Int), ((cH P m8 256 : Nat) : Int), NU1_2, QU1_3, DF1_4, LF1_5, HA1_6, G1) xX xB xR xL wP wS dX6_dot_164 ⟨congrArg zI (by rw [dotS_3t h148]), trivial⟩
        · refine z_tableIn (off := 105) (tgt := 165) 4 xX xB dX6_dot_60 (by omega) (by omega) (by omega) rfl (by decide) ?_
          refine lv_iload xX xB dX6_dot_165 (lv_at wl 1 rfl) ?_
          refine b_if_eq (tgt := 182) xX xB dX6_dot_167 (by decide) (fun h167 => ?_) (fun h167 => ?_)
          · skip
            refine z_iconst xX xB dX6_dot_182 ?_
            subst hQ
            exact g_mret (((cD P m8 256 : Nat) : Int), ((cL P m8 256 : Nat) : Int), ((cH P m8 256 : Nat) : Int), NU1_2, QU1_3, DF1_4, LF1_5, HA1_6, G1) xX xB xR xL wP wS dX6_dot_183 ⟨congrArg zI (by rw [dotS_4f h167]), trivial⟩
          · skip
            refine lv_iload xX xB dX6_dot_170 (lv_at wl 0 rfl) ?_
            refine lv_aload_n xX xB dX6_dot_172 rfl (lv_at wl 3 rfl) ?_
            refine va_get (D := D) (ci := 6) (v := .int (zI ((cD P m8 256 : Nat) : Int))) (C := RX6) (T := TX6) (N := 17) xX xB xT in_X6_dot_X6 xO wK.1 wP 0 rfl rfl 5 (by decide) (xT _ (List.mem_of_getElem? (i := 5) rfl)) (fun _ h9 => h9) rfl dX6_dot_173 ?_
            refine z_isub xX xB dX6_dot_176 ?_
            refine z_iconst xX xB dX6_dot_177 ?_
            refine z_iadd xX xB dX6_dot_178 ?_
            refine lv_goto (tgt := 183) xX xB dX6_dot_179 (by decide) ?_
            subst hQ
            exact g_mret (((cD P m8 256 : Nat) : Int), ((cL P m8 256 : Nat) : Int), ((cH P m8 256 : Nat) : Int), NU1_2, QU1_3, DF1_4, LF1_5, HA1_6, G1) xX xB xR xL wP wS dX6_dot_183 ⟨congrArg zI (by rw [dotS_4t h167]; rw [htu (by decide)]), trivial⟩
    refine lv_iload_n xX xB dX6_dot_30 rfl (lv_at wl 5 rfl) ?_
    refine z_iconst xX xB dX6_dot_31 ?_
    refine z_iconst xX xB dX6_dot_32 ?_
    refine g_pure (va_runS (As := [.int (zI wt), .int (zI 3), .int (zI 4)]) (rest := []) ⟨xX, xB, xM, xO, xT⟩ (c_X6_in l D kI kB wt 3 4 (by omega) (by omega) (by omega)) (va_cwS 3 xT gX6_dot_X6_in rfl rfl rfl hdn_X6_in ⟨Nat.le_of_ble_eq_true rfl, Nat.le_of_ble_eq_true rfl⟩) (g_preS wP wD wK [] (by decide) rfl) rfl rfl wl.1 rfl (lv_room (Nat.le_of_ble_eq_true rfl)) dX6_dot_33 ⟨Nat.le_of_ble_eq_true rfl, Nat.le_of_ble_eq_true rfl⟩) wP wS (fun H locs wP wS => ?_)
    refine b_if_eq (tgt := 48) xX xB dX6_dot_36 (by decide) (fun h36 => ?_) (fun h36 => ?_)
    · skip
      refine z_iconst xX xB dX6_dot_48 ?_
      exact J11 0 dM lM hM NU QU DF LF HA G (fun z => absurd z (of_decide_eq_false h36)) _ _ _ wP wD wS (lv_sub wl [0, 1, 2, 3, 4, 5] rfl)
    · skip
      refine lv_aload_n xX xB dX6_dot_39 rfl (lv_at wl 2 rfl) ?_
      refine lv_iload xX xB dX6_dot_40 (lv_at wl 1 rfl) ?_
      refine g_modi (va_runV (As := [.int (zI ((16 * ro + co : Nat) : Int))]) (rest := []) ⟨xX, xB, xM, xO, xT⟩ (c_X6_partsTurned l D kI kB h a0 a1 a3 a4 a8 a9 a10 a13 a14 a15 a16 sd dM lM hM um ua F G P m8 NU QU DF LF HA (16 * ro + co) hF rm16 hm (by omega)) (cwV 1 xT gX6_dot_X6_partsTurned rfl rfl rfl hd_X6_partsTurned ⟨Nat.le_of_ble_eq_true rfl, Nat.le_of_ble_eq_true rfl⟩) (g_preV (ci := 6) (q0 := 0) wP wD wK [0, 1, 2, 3, 4, 5, 6, 7] (by decide) rfl rfl rfl) rfl rfl wl.1 rfl (lv_room (Nat.le_of_ble_eq_true rfl)) dX6_dot_42 ⟨Nat.le_of_ble_eq_true rfl, Nat.le_of_ble_eq_true rfl⟩) wP wD wS [0, 1, 2, 3, 4, 5, 6, 7] rfl (fun _ => rfl) (fun r_16 u_ H locs hc42 wP wD wS => ?_)
      obtain ⟨d1_7, l1_8, h1__9, NU1_10, QU1_11, DF1_12, LF1_13, HA1_14, G1_15⟩ := u_
      try dsimp only at hc42
      have wP : va_P D gC [(h, .inr (6, [.ref a0, .ref a1, .int (zI sd), .ref a3, .ref a4, .int (zI d1_7), .int (zI l1_8), .int (zI h1__9), .ref a8, .ref a9, .ref a10, .int (zI (um : Int)), .int (zI (ua : Int)), .ref a13, .ref a14, .ref a15, .ref a16])), (a0, .inl (kI, 17, .inl (aZ F))), (a1, .inl (kI, 17, .inl (aZ G1_15))), (a3, .inl (kI, 256, .inl (aZ NU1_10))), (a4, .inl (kI, 256, .inl (aZ QU1_11))), (a8, .inl (kI, 128, .inl (aZ DF1_12))), (a9, .inl (kI, 128, .inl (aZ LF1_13))), (a10, .inl (kI, 128, .inl (aZ HA1_14)))] H := wP
      have wD : va_D (gA [(h, .inr (6, [.ref a0, .ref a1, .int (zI sd), .ref a3, .ref a4, .int (zI dM), .int (zI lM), .int (zI hM), .ref a8, .ref a9, .ref a10, .int (zI (um : Int)), .int (zI (ua : Int)), .ref a13, .ref a14, .ref a15, .ref a16])), (a0, .inl (kI, 17, .inl (aZ F))), (a1, .inl (kI, 17, .inl (aZ G))), (a3, .inl (kI, 256, .inl (aZ NU))), (a4, .inl (kI, 256, .inl (aZ QU))), (a8, .inl (kI, 128, .inl (aZ DF))), (a9, .inl (kI, 128, .inl (aZ LF))), (a10, .inl (kI, 128, .inl (aZ HA)))]) [(h, .inr (6, [.ref a0, .ref a1, .int (zI sd), .ref a3, .ref a4, .int (zI d1_7), .int (zI l1_8), .int (zI h1__9), .ref a8, .ref a9, .ref a10, .int (zI (um : Int)), .int (zI (ua : Int)), .ref a13, .ref a14, .ref a15, .ref a16])), (a0, .inl (kI, 17, .inl (aZ F))), (a1, .inl (kI, 17, .inl (aZ G1_15))), (a3, .inl (kI, 256, .inl (aZ NU1_10))), (a4, .inl (kI, 256, .inl (aZ QU1_11))), (a8, .inl (kI, 128, .inl (aZ DF1_12))), (a9, .inl (kI, 128, .inl (aZ LF1_13))), (a10, .inl (kI, 128, .inl (aZ HA1_14)))] := wD
      obtain ⟨xR42, hc42⟩ := hc42
      refine lv_ri (y := zI ((cD (fl1 P (16 * ro + co)) m8 256 : Nat) : Int)) xR42 ?_
      refine lv_goto (tgt := 49) xX xB dX6_dot_45 (by decide) ?_
      exact J11 ((cD (fl1 P (16 * ro + co)) m8 256 : Nat) : Int) d1_7 l1_8 h1__9 NU1_10 QU1_11 DF1_12 LF1_13 HA1_14 G1_15 (fun _ => rfl) _ _ _ wP wD wS (lv_sub wl [0, 1, 2, 3, 4, 5] rfl)
  · exact absurd h5 (by rw [decide_eq_true (by omega)]; decide)

set_option maxHeartbeats 4000000 in
set_option maxRecDepth 100000 in
theorem c_X6_part_u (l : Launch) (D : va_G) (kI kB : ClassId) (h : Nat) (a0 : Nat) (a1 : Nat) (a3 : Nat) (a4 : Nat) (a8 : Nat) (a9 : Nat) (a10 : Nat) (a13 : Nat) (a14 : Nat) (a15 : Nat) (a16 : Nat) (sd : Int) (dM : Int) (lM : Int) (hM : Int) (um : Nat) (ua : Nat) (F : Nat → Int) (P : Nat → Nat) (m8 : Bool) (NU : Nat → Int) (QU : Nat → Int) (DF : Nat → Int) (LF : Nat → Int) (HA : Nat → Int) (p : Int) (wt : Int) (hF : Pic F P) (rm16 : -2147483648 ≤ F 16 ∧ F 16 ≤ 2147483647) (hm : m8 = decide (F 16 = 8)) (rp_ : -2147483648 ≤ p ∧ p ≤ 2147483647) (hb : ¬ (0 ≤ p ∧ p < ((cD P m8 256 : Nat) : Int))) : gM l yX6_part wsX6_part ({ frames := 5, cells := 0, slots := 0, locals := 122 } : Room) D kI kB [.ref h, .int (zI p), .int (zI wt)] [(h, .inr (6, [.ref a0, .ref a1, .int (zI sd), .ref a3, .ref a4, .int (zI dM), .int (zI lM), .int (zI hM), .ref a8, .ref a9, .ref a10, .int (zI (um : Int)), .int (zI (ua : Int)), .ref a13, .ref a14, .ref a15, .ref a16])), (a0, .inl (kI, 17, .inl (aZ F))), (a3, .inl (kI, 256, .inl (aZ NU))), (a4, .inl (kI, 256, .inl (aZ QU))), (a8, .inl (kI, 128, .inl (aZ DF))), (a9, .inl (kI, 128, .inl (aZ LF))), (a10, .inl (kI, 128, .inl (aZ HA)))] (fun (w_ : Int × Int × Int × (Nat → Int) × (Nat → Int) × (Nat → Int) × (Nat → Int) × (Nat → Int)) => [(h, .inr (6, [.ref a0, .ref a1, .int (zI sd), .ref a3, .ref a4, .int (zI (w_.1)), .int (zI (w_.2.1)), .int (zI (w_.2.2.1)), .ref a8, .ref a9, .ref a10, .int (zI (um : Int)), .int (zI (ua : Int)), .ref a13, .ref a14, .ref a15, .ref a16])), (a0, .inl (kI, 17, .inl (aZ F))), (a3, .inl (kI, 256, .inl (aZ (w_.2.2.2.1)))), (a4, .inl (kI, 256, .inl (aZ (w_.2.2.2.2.1)))), (a8, .inl (kI, 128, .inl (aZ (w_.2.2.2.2.2.1)))), (a9, .inl (kI, 128, .inl (aZ (w_.2.2.2.2.2.2.1)))), (a10, .inl (kI, 128, .inl (aZ (w_.2.2.2.2.2.2.2))))]) (fun (r : Int32) (w_ : Int × Int × Int × (Nat → Int) × (Nat → Int) × (Nat → Int) × (Nat → Int) × (Nat → Int)) => r = zI (-1000000001) ∧ True) := by
  refine g_start (cc := cX6_part) (maxL := 3) (ret := (some .int)) (by decide) rfl (Nat.le_of_ble_eq_true rfl) ?_
  intro xp xe xs xm xbl xmt xc xX xB xR xM xT xO xL xN wP wD wK ls wl
  have wS : va_S (gA [(h, .inr (6, [.ref a0, .ref a1, .int (zI sd), .ref a3, .ref a4, .int (zI dM), .int (zI lM), .int (zI hM), .ref a8, .ref a9, .ref a10, .int (zI (um : Int)), .int (zI (ua : Int)), .ref a13, .ref a14, .ref a15, .ref a16])), (a0, .inl (kI, 17, .inl (aZ F))), (a3, .inl (kI, 256, .inl (aZ NU))), (a4, .inl (kI, 256, .inl (aZ QU))), (a8, .inl (kI, 128, .inl (aZ DF))), (a9, .inl (kI, 128, .inl (aZ LF))), (a10, .inl (kI, 128, .inl (aZ HA)))]) xs.heap xs.heap [] := va_S.rf
  have wl : lv_has ls 3 [(0, .ref h), (1, .int (zI p)), (2, .int (zI wt))] := wl
  have hcb := cD_128 (P := P) (m8 := m8)
  refine lv_iload_n xX xB dX6_part_0 rfl (lv_at wl 1 rfl) ?_
  refine z_iconst xX xB dX6_part_1 ?_
  refine lv_aload_n xX xB dX6_part_2 rfl (lv_at wl 0 rfl) ?_
  refine lv_aload_n xX xB dX6_part_3 rfl (lv_at wl 0 rfl) ?_
  refine va_get (D := D) (ci := 6) (v := .ref a0) (C := RX6) (T := TX6) (N := 17) xX xB xT in_X6_part_X6 xO wK.1 wP 0 rfl rfl 0 (by decide) (xT _ (List.mem_of_getElem? (i := 1) rfl)) (fun _ h9 => h9) rfl dX6_part_4 ?_
  refine g_modi (va_runV (As := [.ref a0]) (rest := [.int (zI 0), .int (zI p)]) ⟨xX, xB, xM, xO, xT⟩ (c_X6_partsOf l D kI kB h a0 a1 a3 a4 a8 a9 a10 a13 a14 a15 a16 sd dM lM hM (um : Int) (ua : Int) a0 F P m8 NU QU DF LF HA hF rm16 hm) (cwV 1 xT gX6_part_X6_partsOf rfl rfl rfl hd_X6_partsOf ⟨Nat.le_of_ble_eq_true rfl, Nat.le_of_ble_eq_true rfl⟩) (g_preV (ci := 6) (q0 := 0) wP wD wK [0, 1, 2, 3, 4, 5, 6] (by decide) rfl rfl rfl) rfl rfl wl.1 rfl (lv_room (Nat.le_of_ble_eq_true rfl)) dX6_part_7 ⟨Nat.le_of_ble_eq_true rfl, Nat.le_of_ble_eq_true rfl⟩) wP wD wS [0, 1, 2, 3, 4, 5, 6] rfl (fun _ => rfl) (fun r_6 u_ H locs hc7 wP wD wS => ?_)
  obtain ⟨NU1_1, QU1_2, DF1_3, LF1_4, HA1_5⟩ := u_
  try dsimp only at hc7
  have wP : va_P D gC [(h, .inr (6, [.ref a0, .ref a1, .int (zI sd), .ref a3, .ref a4, .int (zI ((cD P m8 256 : Nat) : Int)), .int (zI ((cL P m8 256 : Nat) : Int)), .int (zI ((cH P m8 256 : Nat) : Int)), .ref a8, .ref a9, .ref a10, .int (zI (um : Int)), .int (zI (ua : Int)), .ref a13, .ref a14, .ref a15, .ref a16])), (a0, .inl (kI, 17, .inl (aZ F))), (a3, .inl (kI, 256, .inl (aZ NU1_1))), (a4, .inl (kI, 256, .inl (aZ QU1_2))), (a8, .inl (kI, 128, .inl (aZ DF1_3))), (a9, .inl (kI, 128, .inl (aZ LF1_4))), (a10, .inl (kI, 128, .inl (aZ HA1_5)))] H := wP
  have wD : va_D (gA [(h, .inr (6, [.ref a0, .ref a1, .int (zI sd), .ref a3, .ref a4, .int (zI dM), .int (zI lM), .int (zI hM), .ref a8, .ref a9, .ref a10, .int (zI (um : Int)), .int (zI (ua : Int)), .ref a13, .ref a14, .ref a15, .ref a16])), (a0, .inl (kI, 17, .inl (aZ F))), (a3, .inl (kI, 256, .inl (aZ NU))), (a4, .inl (kI, 256, .inl (aZ QU))), (a8, .inl (kI, 128, .inl (aZ DF))), (a9, .inl (kI, 128, .inl (aZ LF))), (a10, .inl (kI, 128, .inl (aZ HA)))]) [(h, .inr (6, [.ref a0, .ref a1, .int (zI sd), .ref a3, .ref a4, .int (zI ((cD P m8 256 : Nat) : Int)), .int (zI ((cL P m8 256 : Nat) : Int)), .int (zI ((cH P m8 256 : Nat) : Int)), .ref a8, .ref a9, .ref a10, .int (zI (um : Int)), .int (zI (ua : Int)), .ref a13, .ref a14, .ref a15, .ref a16])), (a0, .inl (kI, 17, .inl (aZ F))), (a3, .inl (kI, 256, .inl (aZ NU1_1))), (a4, .inl (kI, 256, .inl (aZ QU1_2))), (a8, .inl (kI, 128, .inl (aZ DF1_3))), (a9, .inl (kI, 128, .inl (aZ LF1_4))), (a10, .inl (kI, 128, .inl (aZ HA1_5)))] := wD
  obtain ⟨xR7, hc7⟩ := hc7
  refine lv_ri (y := zI ((cD P m8 256 : Nat) : Int)) xR7 ?_
  refine z_iconst xX xB dX6_part_10 ?_
  refine z_isub xX xB dX6_part_11 ?_
  refine g_pure (va_runS (As := [.int (zI p), .int (zI 0), .int (zI (((cD P m8 256 : Nat) : Int) - 1))]) (rest := []) ⟨xX, xB, xM, xO, xT⟩ (c_X6_in l D kI kB p 0 (((cD P m8 256 : Nat) : Int) - 1) (by omega) (by omega) (by omega)) (va_cwS 3 xT gX6_part_X6_in rfl rfl rfl hdn_X6_in ⟨Nat.le_of_ble_eq_true rfl, Nat.le_of_ble_eq_true rfl⟩) (g_preS wP wD wK [] (by decide) rfl) rfl rfl wl.1 rfl (lv_room (Nat.le_of_ble_eq_true rfl)) dX6_part_12 ⟨Nat.le_of_ble_eq_true rfl, Nat.le_of_ble_eq_true rfl⟩) wP wS (fun H locs wP wS => ?_)
  refine b_if_ne (tgt := 21) xX xB dX6_part_15 (by decide) (fun h15 => ?_) (fun h15 => ?_)
  · exact absurd h15 (by rw [decide_eq_false (fun z => hb (by omega))]; decide)
  · skip
    refine z_ldc xX xB (-1000000001) (by decide) xO (xT _ (List.mem_of_getElem? (i := 2) rfl)) dX6_part_18 ?_
    exact g_mret (((cD P m8 256 : Nat) : Int), ((cL P m8 256 : Nat) : Int), ((cH P m8 256 : Nat) : Int), NU1_1, QU1_2, DF1_3, LF1_4, HA1_5) xX xB xR xL wP wS dX6_part_20 ⟨rfl, trivial⟩

set_option maxHeartbeats 4000000 in
set_option maxRecDepth 100000 in
theorem c_X6_part (l : Launch) (D : va_G) (kI kB : ClassId) (h : Nat) (a0 : Nat) (a1 : Nat) (a3 : Nat) (a4 : Nat) (a8 : Nat) (a9 : Nat) (a10 : Nat) (a13 : Nat) (a14 : Nat) (a15 : Nat) (a16 : Nat) (sd : Int) (dM : Int) (lM : Int) (hM : Int) (um : Nat) (ua : Nat) (F : Nat → Int) (P : Nat → Nat) (m8 : Bool) (NU : Nat → Int) (QU : Nat → Int) (DF : Nat → Int) (LF : Nat → Int) (HA : Nat → Int) (p : Nat) (wt : Int) (hF : Pic F P) (rm16 : -2147483648 ≤ F 16 ∧ F 16 ≤ 2147483647) (hm : m8 = decide (F 16 = 8)) (rw_ : -2147483648 ≤ wt ∧ wt ≤ 2147483647) (hp : p < cD P m8 256) : gM l yX6_part wsX6_part ({ frames := 5, cells := 0, slots := 0, locals := 122 } : Room) D kI kB [.ref h, .int (zI (p : Int)), .int (zI wt)] [(h, .inr (6, [.ref a0, .ref a1, .int (zI sd), .ref a3, .ref a4, .int (zI dM), .int (zI lM), .int (zI hM), .ref a8, .ref a9, .ref a10, .int (zI (um : Int)), .int (zI (ua : Int)), .ref a13, .ref a14, .ref a15, .ref a16])), (a0, .inl (kI, 17, .inl (aZ F))), (a3, .inl (kI, 256, .inl (aZ NU))), (a4, .inl (kI, 256, .inl (aZ QU))), (a8, .inl (kI, 128, .inl (aZ DF))), (a9, .inl (kI, 128, .inl (aZ LF))), (a10, .inl (kI, 128, .inl (aZ HA)))] (fun (w_ : Int × Int × Int × (Nat → Int) × (Nat → Int) × (Nat → Int) × (Nat → Int) × (Nat → Int)) => [(h, .inr (6, [.ref a0, .ref a1, .int (zI sd), .ref a3, .ref a4, .int (zI (w_.1)), .int (zI (w_.2.1)), .int (zI (w_.2.2.1)), .ref a8, .ref a9, .ref a10, .int (zI (um : Int)), .int (zI (ua : Int)), .ref a13, .ref a14, .ref a15, .ref a16])), (a0, .inl (kI, 17, .inl (aZ F))), (a3, .inl (kI, 256, .inl (aZ (w_.2.2.2.1)))), (a4, .inl (kI, 256, .inl (aZ (w_.2.2.2.2.1)))), (a8, .inl (kI, 128, .inl (aZ (w_.2.2.2.2.2.1)))), (a9, .inl (kI, 128, .inl (aZ (w_.2.2.2.2.2.2.1)))), (a10, .inl (kI, 128, .inl (aZ (w_.2.2.2.2.2.2.2))))]) (fun (r : Int32) (w_ : Int × Int × Int × (Nat → Int) × (Nat → Int) × (Nat → Int) × (Nat → Int) × (Nat → Int)) => r = zI (partS P m8 p wt) ∧ True) := by
  refine g_start (cc := cX6_part) (maxL := 3) (ret := (some .int)) (by decide) rfl (Nat.le_of_ble_eq_true rfl) ?_
  intro xp xe xs xm xbl xmt xc xX xB xR xM xT xO xL xN wP wD wK ls wl
  have wS : va_S (gA [(h, .inr (6, [.ref a0, .ref a1, .int (zI sd), .ref a3, .ref a4, .int (zI dM), .int (zI lM), .int (zI hM), .ref a8, .ref a9, .ref a10, .int (zI (um : Int)), .int (zI (ua : Int)), .ref a13, .ref a14, .ref a15, .ref a16])), (a0, .inl (kI, 17, .inl (aZ F))), (a3, .inl (kI, 256, .inl (aZ NU))), (a4, .inl (kI, 256, .inl (aZ QU))), (a8, .inl (kI, 128, .inl (aZ DF))), (a9, .inl (kI, 128, .inl (aZ LF))), (a10, .inl (kI, 128, .inl (aZ HA)))]) xs.heap xs.heap [] := va_S.rf
  have wl : lv_has ls 3 [(0, .ref h), (1, .int (zI (p : Int))), (2, .int (zI wt))] := wl
  have hcb := cD_128 (P := P) (m8 := m8)
  obtain ⟨hR, hD, hcD⟩ := selD_spec hp
  refine lv_iload_n xX xB dX6_part_0 rfl (lv_at wl 1 rfl) ?_
  refine z_iconst xX xB dX6_part_1 ?_
  refine lv_aload_n xX xB dX6_part_2 rfl (lv_at wl 0 rfl) ?_
  refine lv_aload_n xX xB dX6_part_3 rfl (lv_at wl 0 rfl) ?_
  refine va_get (D := D) (ci := 6) (v := .ref a0) (C := RX6) (T := TX6) (N := 17) xX xB xT in_X6_part_X6 xO wK.1 wP 0 rfl rfl 0 (by decide) (xT _ (List.mem_of_getElem? (i := 1) rfl)) (fun _ h9 => h9) rfl dX6_part_4 ?_
  refine g_modi (va_runV (As := [.ref a0]) (rest := [.int (zI 0), .int (zI (p : Int))]) ⟨xX, xB, xM, xO, xT⟩ (c_X6_partsOf l D kI kB h a0 a1 a3 a4 a8 a9 a10 a13 a14 a15 a16 sd dM lM hM (um : Int) (ua : Int) a0 F P m8 NU QU DF LF HA hF rm16 hm) (cwV 1 xT gX6_part_X6_partsOf rfl rfl rfl hd_X6_partsOf ⟨Nat.le_of_ble_eq_true rfl, Nat.le_of_ble_eq_true rfl⟩) (g_preV (ci := 6) (q0 := 0) wP wD wK [0, 1, 2, 3, 4, 5, 6] (by decide) rfl rfl rfl) rfl rfl wl.1 rfl (lv_room (Nat.le_of_ble_eq_true rfl)) dX6_part_7 ⟨Nat.le_of_ble_eq_true rfl, Nat.le_of_ble_eq_true rfl⟩) wP wD wS [0, 1, 2, 3, 4, 5, 6] rfl (fun _ => rfl) (fun r_6 u_ H locs hc7 wP wD wS => ?_)
  obtain ⟨NU1_1, QU1_2, DF1_3, LF1_4, HA1_5⟩ := u_
  try dsimp only at hc7
  have wP : va_P D gC [(h, .inr (6, [.ref a0, .ref a1, .int (zI sd), .ref a3, .ref a4, .int (zI ((cD P m8 256 : Nat) : Int)), .int (zI ((cL P m8 256 : Nat) : Int)), .int (zI ((cH P m8 256 : Nat) : Int)), .ref a8, .ref a9, .ref a10, .int (zI (um : Int)), .int (zI (ua : Int)), .ref a13, .ref a14, .ref a15, .ref a16])), (a0, .inl (kI, 17, .inl (aZ F))), (a3, .inl (kI, 256, .inl (aZ NU1_1))), (a4, .inl (kI, 256, .inl (aZ QU1_2))), (a8, .inl (kI, 128, .inl (aZ DF1_3))), (a9, .inl (kI, 128, .inl (aZ LF1_4))), (a10, .inl (kI, 128, .inl (aZ HA1_5)))] H := wP
  have wD : va_D (gA [(h, .inr (6, [.ref a0, .ref a1, .int (zI sd), .ref a3, .ref a4, .int (zI dM), .int (zI lM), .int (zI hM), .ref a8, .ref a9, .ref a10, .int (zI (um : Int)), .int (zI (ua : Int)), .ref a13, .ref a14, .ref a15, .ref a16])), (a0, .inl (kI, 17, .inl (aZ F))), (a3, .inl (kI, 256, .inl (aZ NU))), (a4, .inl (kI, 256, .inl (aZ QU))), (a8, .inl (kI, 128, .inl (aZ DF))), (a9, .inl (kI, 128, .inl (aZ LF))), (a10, .inl (kI, 128, .inl (aZ HA)))]) [(h, .inr (6, [.ref a0, .ref a1, .int (zI sd), .ref a3, .ref a4, .int (zI ((cD P m8 256 : Nat) : Int)), .int (zI ((cL P m8 256 : Nat) : Int)), .int (zI ((cH P m8 256 : Nat) : Int)), .ref a8, .ref a9, .ref a10, .int (zI (um : Int)), .int (zI (ua : Int)), .ref a13, .ref a14, .ref a15, .ref a16])), (a0, .inl (kI, 17, .inl (aZ F))), (a3, .inl (kI, 256, .inl (aZ NU1_1))), (a4, .inl (kI, 256, .inl (aZ QU1_2))), (a8, .inl (kI, 128, .inl (aZ DF1_3))), (a9, .inl (kI, 128, .inl (aZ LF1_4))), (a10, .inl (kI, 128, .inl (aZ HA1_5)))] := wD
  obtain ⟨xR7, hc7⟩ := hc7
  refine lv_ri (y := zI ((cD P m8 256 : Nat) : Int)) xR7 ?_
  refine z_iconst xX xB dX6_part_10 ?_
  refine z_isub xX xB dX6_part_11 ?_
  refine g_pure (va_runS (As := [.int (zI (p : Int)), .int (zI 0), .int (zI (((cD P m8 256 : Nat) : Int) - 1))]) (rest := []) ⟨xX, xB, xM, xO, xT⟩ (c_X6_in l D kI kB (p : Int) 0 (((cD P m8 256 : Nat) : Int) - 1) (by omega) (by omega) (by omega)) (va_cwS 3 xT gX6_part_X6_in rfl rfl rfl hdn_X6_in ⟨Nat.le_of_ble_eq_true rfl, Nat.le_of_ble_eq_true rfl⟩) (g_preS wP wD wK [] (by decide) rfl) rfl rfl wl.1 rfl (lv_room (Nat.le_of_ble_eq_true rfl)) dX6_part_12 ⟨Nat.le_of_ble_eq_true rfl, Nat.le_of_ble_eq_true rfl⟩) wP wS (fun H locs wP wS => ?_)
  refine b_if_ne (tgt := 21) xX xB dX6_part_15 (by decide) (fun h15 => ?_) (fun h15 => ?_)
  · skip
    refine lv_iload_n xX xB dX6_part_21 rfl (lv_at wl 2 rfl) ?_
    by_cases h22 : wt < 0 ∨ 9 < wt
    · refine z_tableOut (tgt := 146) xX xB dX6_part_22 (by omega) h22 (by decide) ?_
      refine z_ldc xX xB (-1000000002) (by decide) xO (xT _ (List.mem_of_getElem? (i := 4) rfl)) dX6_part_146 ?_
      exact g_mret (((cD P m8 256 : Nat) : Int), ((cL P m8 256 : Nat) : Int), ((cH P m8 256 : Nat) : Int), NU1_1, QU1_2, DF1_3, LF1_4, HA1_5) xX xB xR xL wP wS dX6_part_148 ⟨congrArg zI (partS_out h22).symm, trivial⟩
    · rcases (show wt = 0 ∨ wt = 1 ∨ wt = 2 ∨ wt = 3 ∨ wt = 4 ∨ wt = 5 ∨ wt = 6 ∨ wt = 7 ∨ wt = 8 ∨ wt = 9 by omega) with rfl | rfl | rfl | rfl | rfl | rfl | rfl | rfl | rfl | rfl
      · refine z_tableIn (off := 54) (tgt := 76) 0 xX xB dX6_part_22 (by omega) (by omega) (by omega) rfl (by decide) ?_
        refine lv_aload_n xX xB dX6_part_76 rfl (lv_at wl 0 rfl) ?_
        refine z_iconst xX xB dX6_part_77 ?_
        refine lv_iload_n xX xB dX6_part_78 rfl (lv_at wl 1 rfl) ?_
        refine g_pure (va_runV (As := [.int (zI 1), .int (zI (p : Int))]) (rest := []) ⟨xX, xB, xM, xO, xT⟩ (c_X6_sizeOf l D kI kB h a0 a1 a3 a4 a8 a9 a10 a13 a14 a15 a16 sd (um : Int) (ua : Int) F P m8 NU1_1 DF1_3 LF1_4 HA1_5 (selD P m8 p) true p hF hc7 hR hD.1 hD.2 (by rw [hcD]; rfl)) (cwV 2 xT gX6_part_X6_sizeOf rfl rfl rfl hd_X6_sizeOf ⟨Nat.le_of_ble_eq_true rfl, Nat.le_of_ble_eq_true rfl⟩) (g_preV (ci := 6) (q0 := 0) wP wD wK [0, 1, 2, 4, 5, 6] (by decide) rfl rfl rfl) rfl rfl wl.1 rfl (lv_room (Nat.le_of_ble_eq_true rfl)) dX6_part_79 ⟨Nat.le_of_ble_eq_true rfl, Nat.le_of_ble_eq_true rfl⟩) wP wS (fun H locs wP wS => ?_)
        exact g_mret (((cD P m8 256 : Nat) : Int), ((cL P m8 256 : Nat) : Int), ((cH P m8 256 : Nat) : Int), NU1_1, QU1_2, DF1_3, LF1_4, HA1_5) xX xB xR xL wP wS dX6_part_82 ⟨rfl, trivial⟩
      · refine z_tableIn (off := 61) (tgt := 83) 1 xX xB dX6_part_22 (by omega) (by omega) (by omega) rfl (by decide) ?_
        refine lv_aload_n xX xB dX6_part_83 rfl (lv_at wl 0 rfl) ?_
        refine lv_iload_n xX xB dX6_part_84 rfl (lv_at wl 1 rfl) ?_
        refine g_pure (va_runV (As := [.int (zI (p : Int))]) (rest := []) ⟨xX, xB, xM, xO, xT⟩ (c_X6_rimOf l D kI kB h a0 a1 a3 a4 a8 a9 a10 a13 a14 a15 a16 sd (um : Int) (ua : Int) F P m8 NU1_1 DF1_3 LF1_4 HA1_5 p hF hc7 hp) (cwV 1 xT gX6_part_X6_rimOf rfl rfl rfl hd_X6_rimOf ⟨Nat.le_of_ble_eq_true rfl, Nat.le_of_ble_eq_true rfl⟩) (g_preV (ci := 6) (q0 := 0) wP wD wK [0, 1, 2, 4, 5, 6] (by decide) rfl rfl rfl) rfl rfl wl.1 rfl (lv_room (Nat.le_of_ble_eq_true rfl)) dX6_part_85 ⟨Nat.le_of_ble_eq_true rfl, Nat.le_of_ble_eq_true rfl⟩) wP wS (fun H locs wP wS => ?_)
        exact g_mret (((cD P m8 256 : Nat) : Int), ((cL P m8 256 : Nat) : Int), ((cH P m8 256 : Nat) : Int), NU1_1, QU1_2, DF1_3, LF1_4, HA1_5) xX xB xR xL wP wS dX6_part_88 ⟨rfl, trivial⟩
      · refine z_tableIn (off := 67) (tgt := 89) 2 xX xB dX6_part_22 (by omega) (by omega) (by omega) rfl (by decide) ?_
        refine lv_aload_n xX xB dX6_part_89 rfl (lv_at wl 0 rfl) ?_
        refine lv_iload_n xX xB dX6_part_90 rfl (lv_at wl 1 rfl) ?_
        refine z_iconst xX xB dX6_part_91 ?_
        refine z_iconst xX xB dX6_part_92 ?_
        refine g_pure (va_runV (As := [.int (zI (p : Int)), .int (zI 0), .int (zI 0)]) (rest := []) ⟨xX, xB, xM, xO, xT⟩ (c_X6_edge l D kI kB h a0 a1 a3 a4 a8 a9 a10 a13 a14 a15 a16 sd (um : Int) (ua : Int) F P m8 NU1_1 DF1_3 LF1_4 HA1_5 p false false hF hc7 hp) (cwV 3 xT gX6_part_X6_edge rfl rfl rfl hd_X6_edge ⟨Nat.le_of_ble_eq_true rfl, Nat.le_of_ble_eq_true rfl⟩) (g_preV (ci := 6) (q0 := 0) wP wD wK [0, 1, 2, 4, 5, 6] (by decide) rfl rfl rfl) rfl rfl wl.1 rfl (lv_room (Nat.le_of_ble_eq_true rfl)) dX6_part_93 ⟨Nat.le_of_ble_eq_true rfl, Nat.le_of_ble_eq_true rfl⟩) wP wS (fun H locs wP wS => ?_)
        exact g_mret (((cD P m8 256 : Nat) : Int), ((cL P m8 256 : Nat) : Int), ((cH P m8 256 : Nat) : Int), NU1_1, QU1_2, DF1_3, LF1_4, HA1_5) xX xB xR xL wP wS dX6_part_96 ⟨rfl, trivial⟩
      · refine z_tableIn (off := 75) (tgt := 97) 3 xX xB dX6_part_22 (by omega) (by omega) (by omega) rfl (by decide) ?_
        refine lv_aload_n xX xB dX6_part_97 rfl (lv_at wl 0 rfl) ?_
        refine lv_iload_n xX xB dX6_part_98 rfl (lv_at wl 1 rfl) ?_
        refine z_iconst xX xB dX6_part_99 ?_
        refine z_iconst xX xB dX6_part_100 ?_
        refine g_pure (va_runV (As := [.int (zI (p : Int)), .int (zI 0), .int (zI 1)]) (rest := []) ⟨xX, xB, xM, xO, xT⟩ (c_X6_edge l D kI kB h a0 a1 a3 a4 a8 a9 a10 a13 a14 a15 a16 sd (um : Int) (ua : Int) F P m8 NU1_1 DF1_3 LF1_4 HA1_5 p false true hF hc7 hp) (cwV 3 xT gX6_part_X6_edge rfl rfl rfl hd_X6_edge ⟨Nat.le_of_ble_eq_true rfl, Nat.le_of_ble_eq_true rfl⟩) (g_preV (ci := 6) (q0 := 0) wP wD wK [0, 1, 2, 4, 5, 6] (by decide) rfl rfl rfl) rfl rfl wl.1 rfl (lv_room (Nat.le_of_ble_eq_true rfl)) dX6_part_101 ⟨Nat.le_of_ble_eq_true rfl, Nat.le_of_ble_eq_true rfl⟩) wP wS (fun H locs wP wS => ?_)
        exact g_mret (((cD P m8 256 : Nat) : Int), ((cL P m8 256 : Nat) : Int), ((cH P m8 256 : Nat) : Int), NU1_1, QU1_2, DF1_3, LF1_4, HA1_5) xX xB xR xL wP wS dX6_part_104 ⟨rfl, trivial⟩
      · refine z_tableIn (off := 83) (tgt := 105) 4 xX xB dX6_part_22 (by omega) (by omega) (by omega) rfl (by decide) ?_
        refine lv_aload_n xX xB dX6_part_105 rfl (lv_at wl 0 rfl) ?_
        refine lv_iload_n xX xB dX6_part_106 rfl (lv_at wl 1 rfl) ?_
        refine z_iconst xX xB dX6_part_107 ?_
        refine z_iconst xX xB dX6_part_108 ?_
        refine g_pure (va_runV (As := [.int (zI (p : Int)), .int (zI 1), .int (zI 0)]) (rest := []) ⟨xX, xB, xM, xO, xT⟩ (c_X6_edge l D kI kB h a0 a1 a3 a4 a8 a9 a10 a13 a14 a15 a16 sd (um : Int) (ua : Int) F P m8 NU1_1 DF1_3 LF1_4 HA1_5 p true false hF hc7 hp) (cwV 3 xT gX6_part_X6_edge rfl rfl rfl hd_X6_edge ⟨Nat.le_of_ble_eq_true rfl, Nat.le_of_ble_eq_true rfl⟩) (g_preV (ci := 6) (q0 := 0) wP wD wK [0, 1, 2, 4, 5, 6] (by decide) rfl rfl rfl) rfl rfl wl.1 rfl (lv_room (Nat.le_of_ble_eq_true rfl)) dX6_part_109 ⟨Nat.le_of_ble_eq_true rfl, Nat.le_of_ble_eq_true rfl⟩) wP wS (fun H locs wP wS => ?_)
        exact g_mret (((cD P m8 256 : Nat) : Int), ((cL P m8 256 : Nat) : Int), ((cH P m8 256 : Nat) : Int), NU1_1, QU1_2, DF1_3, LF1_4, HA1_5) xX xB xR xL wP wS dX6_part_112 ⟨rfl, trivial⟩
      · refine z_tableIn (off := 91) (tgt := 113) 5 xX xB dX6_part_22 (by omega) (by omega) (by omega) rfl (by decide) ?_
        refine lv_aload_n xX xB dX6_part_113 rfl (lv_at wl 0 rfl) ?_
        refine lv_iload_n xX xB dX6_part_114 rfl (lv_at wl 1 rfl) ?_
        refine z_iconst xX xB dX6_part_115 ?_
        refine z_iconst xX xB dX6_part_116 ?_
        refine g_pure (va_runV (As := [.int (zI (p : Int)), .int (zI 1), .int (zI 1)]) (rest := []) ⟨xX, xB, xM, xO, xT⟩ (c_X6_edge l D kI kB h a0 a1 a3 a4 a8 a9 a10 a13 a14 a15 a16 sd (um : Int) (ua : Int) F P m8 NU1_1 DF1_3 LF1_4 HA1_5 p true true hF hc7 hp) (cwV 3 xT gX6_part_X6_edge rfl rfl rfl hd_X6_edge ⟨Nat.le_of_ble_eq_true rfl, Nat.le_of_ble_eq_true rfl⟩) (g_preV (ci := 6) (q0 := 0) wP wD wK [0, 1, 2, 4, 5, 6] (by decide) rfl rfl rfl) rfl rfl wl.1 rfl (lv_room (Nat.le_of_ble_eq_true rfl)) dX6_part_117 ⟨Nat.le_of_ble_eq_true rfl, Nat.le_of_ble_eq_true rfl⟩) wP wS (fun H locs wP wS => ?_)
        exact g_mret (((cD P m8 256 : Nat) : Int), ((cL P m8 256 : Nat) : Int), ((cH P m8 256 : Nat) : Int), NU1_1, QU1_2, DF1_3, LF1_4, HA1_5) xX xB xR xL wP wS dX6_part_120 ⟨rfl, trivial⟩
      · refine z_tableIn (off := 99) (tgt := 121) 6 xX xB dX6_part_22 (by omega) (by omega) (by omega) rfl (by decide) ?_
        refine lv_aload_n xX xB dX6_part_121 rfl (lv_at wl 0 rfl) ?_
        refine lv_iload_n xX xB dX6_part_122 rfl (lv_at wl 1 rfl) ?_
        refine g_pure (va_runV (As := [.int (zI (p : Int))]) (rest := []) ⟨xX, xB, xM, xO, xT⟩ (c_X6_holesOf l D kI kB h a0 a1 a3 a4 a8 a9 a10 a13 a14 a15 a16 sd (um : Int) (ua : Int) F P m8 NU1_1 DF1_3 LF1_4 HA1_5 p hF hc7 hp) (cwV 1 xT gX6_part_X6_holesOf rfl rfl rfl hd_X6_holesOf ⟨Nat.le_of_ble_eq_true rfl, Nat.le_of_ble_eq_true rfl⟩) (g_preV (ci := 6) (q0 := 0) wP wD wK [0, 1, 2, 4, 5, 6] (by decide) rfl rfl rfl) rfl rfl wl.1 rfl (lv_room (Nat.le_of_ble_eq_true rfl)) dX6_part_123 ⟨Nat.le_of_ble_eq_true rfl, Nat.le_of_ble_eq_true rfl⟩) wP wS (fun H locs wP wS => ?_)
        exact g_mret (((cD P m8 256 : Nat) : Int), ((cL P m8 256 : Nat) : Int), ((cH P m8 256 : Nat) : Int), NU1_1, QU1_2, DF1_3, LF1_4, HA1_5) xX xB xR xL wP wS dX6_part_126 ⟨rfl, trivial⟩
      · refine z_tableIn (off := 105) (tgt := 127) 7 xX xB dX6_part_22 (by omega) (by omega) (by omega) rfl (by decide) ?_
        refine lv_aload_n xX xB dX6_part_127 rfl (lv_at wl 0 rfl) ?_
        refine lv_iload_n xX xB dX6_part_128 rfl (lv_at wl 1 rfl) ?_
        refine g_pure (va_runV (As := [.int (zI (p : Int))]) (rest := []) ⟨xX, xB, xM, xO, xT⟩ (c_X6_liesIn l D kI kB h a0 a1 a3 a4 a8 a9 a10 a13 a14 a15 a16 sd (um : Int) (ua : Int) F P m8 NU1_1 DF1_3 LF1_4 HA1_5 p hF hc7 hp) (cwV 1 xT gX6_part_X6_liesIn rfl rfl rfl hd_X6_liesIn ⟨Nat.le_of_ble_eq_true rfl, Nat.le_of_ble_eq_true rfl⟩) (g_preV (ci := 6) (q0 := 0) wP wD wK [0, 1, 2, 4, 5, 6] (by decide) rfl rfl rfl) rfl rfl wl.1 rfl (lv_room (Nat.le_of_ble_eq_true rfl)) dX6_part_129 ⟨Nat.le_of_ble_eq_true rfl, Nat.le_of_ble_eq_true rfl⟩) wP wS (fun H locs wP wS => ?_)
        exact g_mret (((cD P m8 256 : Nat) : Int), ((cL P m8 256 : Nat) : Int), ((cH P m8 256 : Nat) : Int), NU1_1, QU1_2, DF1_3, LF1_4, HA1_5) xX xB xR xL wP wS dX6_part_132 ⟨rfl, trivial⟩
      · refine z_tableIn (off := 111) (tgt := 133) 8 xX xB dX6_part_22 (by omega) (by omega) (by omega) rfl (by decide) ?_
        refine lv_aload_n xX xB dX6_part_133 rfl (lv_at wl 0 rfl) ?_
        refine lv_iload_n xX xB dX6_part_134 rfl (lv_at wl 1 rfl) ?_
        refine g_pure (va_runV (As := [.int (zI (p : Int))]) (rest := []) ⟨xX, xB, xM, xO, xT⟩ (c_X6_deep l D kI kB h a0 a1 a3 a4 a8 a9 a10 a13 a14 a15 a16 sd (um : Int) (ua : Int) F P m8 NU1_1 DF1_3 LF1_4 HA1_5 p hF hc7 hp) (cwV 1 xT gX6_part_X6_deep rfl rfl rfl hd_X6_deep ⟨Nat.le_of_ble_eq_true rfl, Nat.le_of_ble_eq_true rfl⟩) (g_preV (ci := 6) (q0 := 0) wP wD wK [0, 1, 2, 4, 5, 6] (by decide) rfl rfl rfl) rfl rfl wl.1 rfl (lv_room (Nat.le_of_ble_eq_true rfl)) dX6_part_135 ⟨Nat.le_of_ble_eq_true rfl, Nat.le_of_ble_eq_true rfl⟩) wP wS (fun H locs wP wS => ?_)
        exact g_mret (((cD P m8 256 : Nat) : Int), ((cL P m8 256 : Nat) : Int), ((cH P m8 256 : Nat) : Int), NU1_1, QU1_2, DF1_3, LF1_4, HA1_5) xX xB xR xL wP wS dX6_part_138 ⟨rfl, trivial⟩
      · refine z_tableIn (off := 117) (tgt := 139) 9 xX xB dX6_part_22 (by omega) (by omega) (by omega) rfl (by decide) ?_
        refine lv_aload_n xX xB dX6_part_139 rfl (lv_at wl 0 rfl) ?_
        refine va_get (D := D) (ci := 6) (v := .ref a8) (C := RX6) (T := TX6) (N := 17) xX xB xT in_X6_part_X6 xO wK.1 wP 0 rfl rfl 8 (by decide) (xT _ (List.mem_of_getElem? (i := 3) rfl)) (fun _ h9 => h9) rfl dX6_part_140 ?_
        refine lv_iload_n xX xB dX6_part_143 rfl (lv_at wl 1 rfl) ?_
        refine z_iald xX xB wK wP 4 rfl p rfl (by omega) (Nat.le_of_ble_eq_true rfl) dX6_part_144 ?_
        refine lv_ri (y := zI (selD P m8 p : Int)) (congrArg zI (by have e := hc7.df hR hD; rw [hcD] at e; exact e)) ?_
        exact g_mret (((cD P m8 256 : Nat) : Int), ((cL P m8 256 : Nat) : Int), ((cH P m8 256 : Nat) : Int), NU1_1, QU1_2, DF1_3, LF1_4, HA1_5) xX xB xR xL wP wS dX6_part_145 ⟨rfl, trivial⟩
  · exact absurd h15 (by rw [decide_eq_true (by omega)]; decide)

set_option maxHeartbeats 4000000 in
set_option maxRecDepth 100000 in
theorem c_X6_hole_u (l : Launch) (D : va_G) (kI kB : ClassId) (h : Nat) (a0 : Nat) (a1 : Nat) (a3 : Nat) (a4 : Nat) (a8 : Nat) (a9 : Nat) (a10 : Nat) (a13 : Nat) (a14 : Nat) (a15 : Nat) (a16 : Nat) (sd : Int) (dM : Int) (lM : Int) (hM : Int) (um : Nat) (ua : Nat) (F : Nat → Int) (P : Nat → Nat) (m8 : Bool) (NU : Nat → Int) (QU : Nat → Int) (DF : Nat → Int) (LF : Nat → Int) (HA : Nat → Int) (p : Int) (wt : Int) (hF : Pic F P) (rm16 : -2147483648 ≤ F 16 ∧ F 16 ≤ 2147483647) (hm : m8 = decide (F 16 = 8)) (rp_ : -2147483648 ≤ p ∧ p ≤ 2147483647) (hb : ¬ (0 ≤ p ∧ p < ((cH P m8 256 : Nat) : Int))) : gM l yX6_hole wsX6_hole ({ frames := 4, cells := 0, slots := 0, locals := 101 } : Room) D kI kB [.ref h, .int (zI p), .int (zI wt)] [(h, .inr (6, [.ref a0, .ref a1, .int (zI sd), .ref a3, .ref a4, .int (zI dM), .int (zI lM), .int (zI hM), .ref a8, .ref a9, .ref a10, .int (zI (um : Int)), .int (zI (ua : Int)), .ref a13, .ref a14, .ref a15, .ref a16])), (a0, .inl (kI, 17, .inl (aZ F))), (a3, .inl (kI, 256, .inl (aZ NU))), (a4, .inl (kI, 256, .inl (aZ QU))), (a8, .inl (kI, 128, .inl (aZ DF))), (a9, .inl (kI, 128, .inl (aZ LF))), (a10, .inl (kI, 128, .inl (aZ HA)))] (fun (w_ : Int × Int × Int × (Nat → Int) × (Nat → Int) × (Nat → Int) × (Nat → Int) × (Nat → Int)) => [(h, .inr (6, [.ref a0, .ref a1, .int (zI sd), .ref a3, .ref a4, .int (zI (w_.1)), .int (zI (w_.2.1)), .int (zI (w_.2.2.1)), .ref a8, .ref a9, .ref a10, .int (zI (um : Int)), .int (zI (ua : Int)), .ref a13, .ref a14, .ref a15, .ref a16])), (a0, .inl (kI, 17, .inl (aZ F))), (a3, .inl (kI, 256, .inl (aZ (w_.2.2.2.1)))), (a4, .inl (kI, 256, .inl (aZ (w_.2.2.2.2.1)))), (a8, .inl (kI, 128, .inl (aZ (w_.2.2.2.2.2.1)))), (a9, .inl (kI, 128, .inl (aZ (w_.2.2.2.2.2.2.1)))), (a10, .inl (kI, 128, .inl (aZ (w_.2.2.2.2.2.2.2))))]) (fun (r : Int32) (w_ : Int × Int × Int × (Nat → Int) × (Nat → Int) × (Nat → Int) × (Nat → Int) × (Nat → Int)) => r = zI (-1000000001) ∧ True) := by
  refine g_start (cc := cX6_hole) (maxL := 3) (ret := (some .int)) (by decide) rfl (Nat.le_of_ble_eq_true rfl) ?_
  intro xp xe xs xm xbl xmt xc xX xB xR xM xT xO xL xN wP wD wK ls wl
  have wS : va_S (gA [(h, .inr (6, [.ref a0, .ref a1, .int (zI sd), .ref a3, .ref a4, .int (zI dM), .int (zI lM), .int (zI hM), .ref a8, .ref a9, .ref a10, .int (zI (um : Int)), .int (zI (ua : Int)), .ref a13, .ref a14, .ref a15, .ref a16])), (a0, .inl (kI, 17, .inl (aZ F))), (a3, .inl (kI, 256, .inl (aZ NU))), (a4, .inl (kI, 256, .inl (aZ QU))), (a8, .inl (kI, 128, .inl (aZ DF))), (a9, .inl (kI, 128, .inl (aZ LF))), (a10, .inl (kI, 128, .inl (aZ HA)))]) xs.heap xs.heap [] := va_S.rf
  have wl : lv_has ls 3 [(0, .ref h), (1, .int (zI p)), (2, .int (zI wt))] := wl
  have hch := cH_le (P := P) (m8 := m8) (n := 256) (by omega)
  refine lv_aload_n xX xB dX6_hole_0 rfl (lv_at wl 0 rfl) ?_
  refine lv_aload_n xX xB dX6_hole_1 rfl (lv_at wl 0 rfl) ?_
  refine va_get (D := D) (ci := 6) (v := .ref a0) (C := RX6) (T := TX6) (N := 17) xX xB xT in_X6_hole_X6 xO wK.1 wP 0 rfl rfl 0 (by decide) (xT _ (List.mem_of_getElem? (i := 1) rfl)) (fun _ h9 => h9) rfl dX6_hole_2 ?_
  refine g_modv (va_runV (As := [.ref a0]) (rest := []) ⟨xX, xB, xM, xO, xT⟩ (c_X6_parts l D kI kB h a0 a1 a3 a4 a8 a9 a10 a13 a14 a15 a16 sd dM lM hM (um : Int) (ua : Int) a0 F P m8 NU QU DF LF HA hF rm16 hm) (cwV 1 xT gX6_hole_X6_parts rfl rfl rfl hd_X6_parts ⟨Nat.le_of_ble_eq_true rfl, Nat.le_of_ble_eq_true rfl⟩) (g_preV (ci := 6) (q0 := 0) wP wD wK [0, 1, 2, 3, 4, 5, 6] (by decide) rfl rfl rfl) rfl rfl wl.1 rfl (lv_room (Nat.le_of_ble_eq_true rfl)) dX6_hole_5 ⟨Nat.le_of_ble_eq_true rfl, Nat.le_of_ble_eq_true rfl⟩) wP wD wS [0, 1, 2, 3, 4, 5, 6] rfl (fun _ => rfl) (fun u_ H locs hc5 wP wD wS => ?_)
  obtain ⟨NU1_1, QU1_2, DF1_3, LF1_4, HA1_5⟩ := u_
  try dsimp only at hc5
  have wP : va_P D gC [(h, .inr (6, [.ref a0, .ref a1, .int (zI sd), .ref a3, .ref a4, .int (zI ((cD P m8 256 : Nat) : Int)), .int (zI ((cL P m8 256 : Nat) : Int)), .int (zI ((cH P m8 256 : Nat) : Int)), .ref a8, .ref a9, .ref a10, .int (zI (um : Int)), .int (zI (ua : Int)), .ref a13, .ref a14, .ref a15, .ref a16])), (a0, .inl (kI, 17, .inl (aZ F))), (a3, .inl (kI, 256, .inl (aZ NU1_1))), (a4, .inl (kI, 256, .inl (aZ QU1_2))), (a8, .inl (kI, 128, .inl (aZ DF1_3))), (a9, .inl (kI, 128, .inl (aZ LF1_4))), (a10, .inl (kI, 128, .inl (aZ HA1_5)))] H := wP
  have wD : va_D (gA [(h, .inr (6, [.ref a0, .ref a1, .int (zI sd), .ref a3, .ref a4, .int (zI dM), .int (zI lM), .int (zI hM), .ref a8, .ref a9, .ref a10, .int (zI (um : Int)), .int (zI (ua : Int)), .ref a13, .ref a14, .ref a15, .ref a16])), (a0, .inl (kI, 17, .inl (aZ F))), (a3, .inl (kI, 256, .inl (aZ NU))), (a4, .inl (kI, 256, .inl (aZ QU))), (a8, .inl (kI, 128, .inl (aZ DF))), (a9, .inl (kI, 128, .inl (aZ LF))), (a10, .inl (kI, 128, .inl (aZ HA)))]) [(h, .inr (6, [.ref a0, .ref a1, .int (zI sd), .ref a3, .ref a4, .int (zI ((cD P m8 256 : Nat) : Int)), .int (zI ((cL P m8 256 : Nat) : Int)), .int (zI ((cH P m8 256 : Nat) : Int)), .ref a8, .ref a9, .ref a10, .int (zI (um : Int)), .int (zI (ua : Int)), .ref a13, .ref a14, .ref a15, .ref a16])), (a0, .inl (kI, 17, .inl (aZ F))), (a3, .inl (kI, 256, .inl (aZ NU1_1))), (a4, .inl (kI, 256, .inl (aZ QU1_2))), (a8, .inl (kI, 128, .inl (aZ DF1_3))), (a9, .inl (kI, 128, .inl (aZ LF1_4))), (a10, .inl (kI, 128, .inl (aZ HA1_5)))] := wD
  refine lv_iload_n xX xB dX6_hole_8 rfl (lv_at wl 1 rfl) ?_
  refine z_iconst xX xB dX6_hole_9 ?_
  refine lv_aload_n xX xB dX6_hole_10 rfl (lv_at wl 0 rfl) ?_
  refine va_get (D := D) (ci := 6) (v := .int (zI ((cH P m8 256 : Nat) : Int))) (C := RX6) (T := TX6) (N := 17) xX xB xT in_X6_hole_X6 xO wK.1 wP 0 rfl rfl 7 (by decide) (xT _ (List.mem_of_getElem? (i := 2) rfl)) (fun _ h9 => h9) rfl dX6_hole_11 ?_
  refine z_iconst xX xB dX6_hole_14 ?_
  refine z_isub xX xB dX6_hole_15 ?_
  refine g_pure (va_runS (As := [.int (zI p), .int (zI 0), .int (zI (((cH P m8 256 : Nat) : Int) - 1))]) (rest := []) ⟨xX, xB, xM, xO, xT⟩ (c_X6_in l D kI kB p 0 (((cH P m8 256 : Nat) : Int) - 1) (by omega) (by omega) (by omega)) (va_cwS 3 xT gX6_hole_X6_in rfl rfl rfl hdn_X6_in ⟨Nat.le_of_ble_eq_true rfl, Nat.le_of_ble_eq_true rfl⟩) (g_preS wP wD wK [] (by decide) rfl) rfl rfl wl.1 rfl (lv_room (Nat.le_of_ble_eq_true rfl)) dX6_hole_16 ⟨Nat.le_of_ble_eq_true rfl, Nat.le_of_ble_eq_true rfl⟩) wP wS (fun H locs wP wS => ?_)
  refine b_if_ne (tgt := 25) xX xB dX6_hole_19 (by decide) (fun h19 => ?_) (fun h19 => ?_)
  · exact absurd h19 (by rw [decide_eq_false (fun z => hb (by omega))]; decide)
  · skip
    refine z_ldc xX xB (-1000000001) (by decide) xO (xT _ (List.mem_of_getElem? (i := 3) rfl)) dX6_hole_22 ?_
    exact g_mret (((cD P m8 256 : Nat) : Int), ((cL P m8 256 : Nat) : Int), ((cH P m8 256 : Nat) : Int), NU1_1, QU1_2, DF1_3, LF1_4, HA1_5) xX xB xR xL wP wS dX6_hole_24 ⟨rfl, trivial⟩

set_option maxHeartbeats 4000000 in
set_option maxRecDepth 100000 in
theorem c_X6_hole (l : Launch) (D : va_G) (kI kB : ClassId) (h : Nat) (a0 : Nat) (a1 : Nat) (a3 : Nat) (a4 : Nat) (a8 : Nat) (a9 : Nat) (a10 : Nat) (a13 : Nat) (a14 : Nat) (a15 : Nat) (a16 : Nat) (sd : Int) (dM : Int) (lM : Int) (hM : Int) (um : Nat) (ua : Nat) (F : Nat → Int) (P : Nat → Nat) (m8 : Bool) (NU : Nat → Int) (QU : Nat → Int) (DF : Nat → Int) (LF : Nat → Int) (HA : Nat → Int) (k : Nat) (wt : Int) (hF : Pic F P) (rm16 : -2147483648 ≤ F 16 ∧ F 16 ≤ 2147483647) (hm : m8 = decide (F 16 = 8)) (rw_ : -2147483648 ≤ wt ∧ wt ≤ 2147483647) (hk : k < cH P m8 256) : gM l yX6_hole wsX6_hole ({ frames := 4, cells := 0, slots := 0, locals := 101 } : Room) D kI kB [.ref h, .int (zI (k : Int)), .int (zI wt)] [(h, .inr (6, [.ref a0, .ref a1, .int (zI sd), .ref a3, .ref a4, .int (zI dM), .int (zI lM), .int (zI hM), .ref a8, .ref a9, .ref a10, .int (zI (um : Int)), .int (zI (ua : Int)), .ref a13, .ref a14, .ref a15, .ref a16])), (a0, .inl (kI, 17, .inl (aZ F))), (a3, .inl (kI, 256, .inl (aZ NU))), (a4, .inl (kI, 256, .inl (aZ QU))), (a8, .inl (kI, 128, .inl (aZ DF))), (a9, .inl (kI, 128, .inl (aZ LF))), (a10, .inl (kI, 128, .inl (aZ HA)))] (fun (w_ : Int × Int × Int × (Nat → Int) × (Nat → Int) × (Nat → Int) × (Nat → Int) × (Nat → Int)) => [(h, .inr (6, [.ref a0, .ref a1, .int (zI sd), .ref a3, .ref a4, .int (zI (w_.1)), .int (zI (w_.2.1)), .int (zI (w_.2.2.1)), .ref a8, .ref a9, .ref a10, .int (zI (um : Int)), .int (zI (ua : Int)), .ref a13, .ref a14, .ref a15, .ref a16])), (a0, .inl (kI, 17, .inl (aZ F))), (a3, .inl (kI, 256, .inl (aZ (w_.2.2.2.1)))), (a4, .inl (kI, 256, .inl (aZ (w_.2.2.2.2.1)))), (a8, .inl (kI, 128, .inl (aZ (w_.2.2.2.2.2.1)))), (a9, .inl (kI, 128, .inl (aZ (w_.2.2.2.2.2.2.1)))), (a10, .inl (kI, 128, .inl (aZ (w_.2.2.2.2.2.2.2))))]) (fun (r : Int32) (w_ : Int × Int × Int × (Nat → Int) × (Nat → Int) × (Nat → Int) × (Nat → Int) × (Nat → Int)) => r = zI (holeS P m8 k wt) ∧ True) := by
  refine g_start (cc := cX6_hole) (maxL := 3) (ret := (some .int)) (by decide) rfl (Nat.le_of_ble_eq_true rfl) ?_
  intro xp xe xs xm xbl xmt xc xX xB xR xM xT xO xL xN wP wD wK ls wl
  have wS : va_S (gA [(h, .inr (6, [.ref a0, .ref a1, .int (zI sd), .ref a3, .ref a4, .int (zI dM), .int (zI lM), .int (zI hM), .ref a8, .ref a9, .ref a10, .int (zI (um : Int)), .int (zI (ua : Int)), .ref a13, .ref a14, .ref a15, .ref a16])), (a0, .inl (kI, 17, .inl (aZ F))), (a3, .inl (kI, 256, .inl (aZ NU))), (a4, .inl (kI, 256, .inl (aZ QU))), (a8, .inl (kI, 128, .inl (aZ DF))), (a9, .inl (kI, 128, .inl (aZ LF))), (a10, .inl (kI, 128, .inl (aZ HA)))]) xs.heap xs.heap [] := va_S.rf
  have wl : lv_has ls 3 [(0, .ref h), (1, .int (zI (k : Int))), (2, .int (zI wt))] := wl
  have hch := cH_le (P := P) (m8 := m8) (n := 256) (by omega)
  obtain ⟨hR, hD, hcH⟩ := selH_spec hk
  have hlt := cL_lt hR hD.1
  have hcl := cL_128 (P := P) (m8 := m8)
  refine lv_aload_n xX xB dX6_hole_0 rfl (lv_at wl 0 rfl) ?_
  refine lv_aload_n xX xB dX6_hole_1 rfl (lv_at wl 0 rfl) ?_
  refine va_get (D := D) (ci := 6) (v := .ref a0) (C := RX6) (T := TX6) (N := 17) xX xB xT in_X6_hole_X6 xO wK.1 wP 0 rfl rfl 0 (by decide) (xT _ (List.mem_of_getElem? (i := 1) rfl)) (fun _ h9 => h9) rfl dX6_hole_2 ?_
  refine g_modv (va_runV (As := [.ref a0]) (rest := []) ⟨xX, xB, xM, xO, xT⟩ (c_X6_parts l D kI kB h a0 a1 a3 a4 a8 a9 a10 a13 a14 a15 a16 sd dM lM hM (um : Int) (ua : Int) a0 F P m8 NU QU DF LF HA hF rm16 hm) (cwV 1 xT gX6_hole_X6_parts rfl rfl rfl hd_X6_parts ⟨Nat.le_of_ble_eq_true rfl, Nat.le_of_ble_eq_true rfl⟩) (g_preV (ci := 6) (q0 := 0) wP wD wK [0, 1, 2, 3, 4, 5, 6] (by decide) rfl rfl rfl) rfl rfl wl.1 rfl (lv_room (Nat.le_of_ble_eq_true rfl)) dX6_hole_5 ⟨Nat.le_of_ble_eq_true rfl, Nat.le_of_ble_eq_true rfl⟩) wP wD wS [0, 1, 2, 3, 4, 5, 6] rfl (fun _ => rfl) (fun u_ H locs hc5 wP wD wS => ?_)
  obtain ⟨NU1_1, QU1_2, DF1_3, LF1_4, HA1_5⟩ := u_
  try dsimp only at hc5
  have wP : va_P D gC [(h, .inr (6, [.ref a0, .ref a1, .int (zI sd), .ref a3, .ref a4, .int (zI ((cD P m8 256 : Nat) : Int)), .int (zI ((cL P m8 256 : Nat) : Int)), .int (zI ((cH P m8 256 : Nat) : Int)), .ref a8, .ref a9, .ref a10, .int (zI (um : Int)), .int (zI (ua : Int)), .ref a13, .ref a14, .ref a15, .ref a16])), (a0, .inl (kI, 17, .inl (aZ F))), (a3, .inl (kI, 256, .inl (aZ NU1_1))), (a4, .inl (kI, 256, .inl (aZ QU1_2))), (a8, .inl (kI, 128, .inl (aZ DF1_3))), (a9, .inl (kI, 128, .inl (aZ LF1_4))), (a10, .inl (kI, 128, .inl (aZ HA1_5)))] H := wP
  have wD : va_D (gA [(h, .inr (6, [.ref a0, .ref a1, .int (zI sd), .ref a3, .ref a4, .int (zI dM), .int (zI lM), .int (zI hM), .ref a8, .ref a9, .ref a10, .int (zI (um : Int)), .int (zI (ua : Int)), .ref a13, .ref a14, .ref a15, .ref a16])), (a0, .inl (kI, 17, .inl (aZ F))), (a3, .inl (kI, 256, .inl (aZ NU))), (a4, .inl (kI, 256, .inl (aZ QU))), (a8, .inl (kI, 128, .inl (aZ DF))), (a9, .inl (kI, 128, .inl (aZ LF))), (a10, .inl (kI, 128, .inl (aZ HA)))]) [(h, .inr (6, [.ref a0, .ref a1, .int (zI sd), .ref a3, .ref a4, .int (zI ((cD P m8 256 : Nat) : Int)), .int (zI ((cL P m8 256 : Nat) : Int)), .int (zI ((cH P m8 256 : Nat) : Int)), .ref a8, .ref a9, .ref a10, .int (zI (um : Int)), .int (zI (ua : Int)), .ref a13, .ref a14, .ref a15, .ref a16])), (a0, .inl (kI, 17, .inl (aZ F))), (a3, .inl (kI, 256, .inl (aZ NU1_1))), (a4, .inl (kI, 256, .inl (aZ QU1_2))), (a8, .inl (kI, 128, .inl (aZ DF1_3))), (a9, .inl (kI, 128, .inl (aZ LF1_4))), (a10, .inl (kI, 128, .inl (aZ HA1_5)))] := wD
  refine lv_iload_n xX xB dX6_hole_8 rfl (lv_at wl 1 rfl) ?_
  refine z_iconst xX xB dX6_hole_9 ?_
  refine lv_aload_n xX xB dX6_hole_10 rfl (lv_at wl 0 rfl) ?_
  refine va_get (D := D) (ci := 6) (v := .int (zI ((cH P m8 256 : Nat) : Int))) (C := RX6) (T := TX6) (N := 17) xX xB xT in_X6_hole_X6 xO wK.1 wP 0 rfl rfl 7 (by decide) (xT _ (List.mem_of_getElem? (i := 2) rfl)) (fun _ h9 => h9) rfl dX6_hole_11 ?_
  refine z_iconst xX xB dX6_hole_14 ?_
  refine z_isub xX xB dX6_hole_15 ?_
  refine g_pure (va_runS (As := [.int (zI (k : Int)), .int (zI 0), .int (zI (((cH P m8 256 : Nat) : Int) - 1))]) (rest := []) ⟨xX, xB, xM, xO, xT⟩ (c_X6_in l D kI kB (k : Int) 0 (((cH P m8 256 : Nat) : Int) - 1) (by omega) (by omega) (by omega)) (va_cwS 3 xT gX6_hole_X6_in rfl rfl rfl hdn_X6_in ⟨Nat.le_of_ble_eq_true rfl, Nat.le_of_ble_eq_true rfl⟩) (g_preS wP wD wK [] (by decide) rfl) rfl rfl wl.1 rfl (lv_room (Nat.le_of_ble_eq_true rfl)) dX6_hole_16 ⟨Nat.le_of_ble_eq_true rfl, Nat.le_of_ble_eq_true rfl⟩) wP wS (fun H locs wP wS => ?_)
  refine b_if_ne (tgt := 25) xX xB dX6_hole_19 (by decide) (fun h19 => ?_) (fun h19 => ?_)
  · skip
    refine lv_iload_n xX xB dX6_hole_25 rfl (lv_at wl 2 rfl) ?_
    by_cases h26 : wt < 0 ∨ 3 < wt
    · refine z_tableOut (tgt := 90) xX xB dX6_hole_26 (by omega) h26 (by decide) ?_
      refine z_ldc xX xB (-1000000002) (by decide) xO (xT _ (List.mem_of_getElem? (i := 5) rfl)) dX6_hole_90 ?_
      exact g_mret (((cD P m8 256 : Nat) : Int), ((cL P m8 256 : Nat) : Int), ((cH P m8 256 : Nat) : Int), NU1_1, QU1_2, DF1_3, LF1_4, HA1_5) xX xB xR xL wP wS dX6_hole_92 ⟨congrArg zI (holeS_out h26).symm, trivial⟩
    · rcases (show wt = 0 ∨ wt = 1 ∨ wt = 2 ∨ wt = 3 by omega) with rfl | rfl | rfl | rfl
      · refine z_tableIn (off := 30) (tgt := 56) 0 xX xB dX6_hole_26 (by omega) (by omega) (by omega) rfl (by decide) ?_
        refine lv_aload_n xX xB dX6_hole_56 rfl (lv_at wl 0 rfl) ?_
        refine z_iconst xX xB dX6_hole_57 ?_
        refine lv_aload_n xX xB dX6_hole_58 rfl (lv_at wl 0 rfl) ?_
        refine lv_iload_n xX xB dX6_hole_59 rfl (lv_at wl 1 rfl) ?_
        refine g_pure (va_runV (As := [.int (zI (k : Int))]) (rest := [.int (zI 0), .ref h]) ⟨xX, xB, xM, xO, xT⟩ (c_X6_lightOf l D kI kB h a0 a1 a3 a4 a8 a9 a10 a13 a14 a15 a16 sd (um : Int) (ua : Int) F P m8 NU1_1 DF1_3 LF1_4 HA1_5 k hF hc5 hk) (cwV 1 xT gX6_hole_X6_lightOf rfl rfl rfl hd_X6_lightOf ⟨Nat.le_of_ble_eq_true rfl, Nat.le_of_ble_eq_true rfl⟩) (g_preV (ci := 6) (q0 := 0) wP wD wK [0, 1, 2, 4, 5, 6] (by decide) rfl rfl rfl) rfl rfl wl.1 rfl (lv_room (Nat.le_of_ble_eq_true rfl)) dX6_hole_60 ⟨Nat.le_of_ble_eq_true rfl, Nat.le_of_ble_eq_true rfl⟩) wP wS (fun H locs wP wS => ?_)
        refine g_pure (va_runV (As := [.int (zI 0), .int (zI ((cL P m8 (selH P m8 k) : Nat) : Int))]) (rest := []) ⟨xX, xB, xM, xO, xT⟩ (c_X6_sizeOf l D kI kB h a0 a1 a3 a4 a8 a9 a10 a13 a14 a15 a16 sd (um : Int) (ua : Int) F P m8 NU1_1 DF1_3 LF1_4 HA1_5 (selH P m8 k) false (cL P m8 (selH P m8 k)) hF hc5 hR hD.1.1 hD.1.2 rfl) (cwV 2 xT gX6_hole_X6_sizeOf rfl rfl rfl hd_X6_sizeOf ⟨Nat.le_of_ble_eq_true rfl, Nat.le_of_ble_eq_true rfl⟩) (g_preV (ci := 6) (q0 := 0) wP wD wK [0, 1, 2, 4, 5, 6] (by decide) rfl rfl rfl) rfl rfl wl.1 rfl (lv_room (Nat.le_of_ble_eq_true rfl)) dX6_hole_63 ⟨Nat.le_of_ble_eq_true rfl, Nat.le_of_ble_eq_true rfl⟩) wP wS (fun H locs wP wS => ?_)
        exact g_mret (((cD P m8 256 : Nat) : Int), ((cL P m8 256 : Nat) : Int), ((cH P m8 256 : Nat) : Int), NU1_1, QU1_2, DF1_3, LF1_4, HA1_5) xX xB xR xL wP wS dX6_hole_66 ⟨rfl, trivial⟩
      · refine z_tableIn (off := 41) (tgt := 67) 1 xX xB dX6_hole_26 (by omega) (by omega) (by omega) rfl (by decide) ?_
        refine lv_aload_n xX xB dX6_hole_67 rfl (lv_at wl 0 rfl) ?_
        refine lv_iload_n xX xB dX6_hole_68 rfl (lv_at wl 1 rfl) ?_
        refine g_pure (va_runV (As := [.int (zI (k : Int))]) (rest := []) ⟨xX, xB, xM, xO, xT⟩ (c_X6_partOf l D kI kB h a0 a1 a3 a4 a8 a9 a10 a13 a14 a15 a16 sd (um : Int) (ua : Int) F P m8 NU1_1 DF1_3 LF1_4 HA1_5 k hF hc5 hk) (cwV 1 xT gX6_hole_X6_partOf rfl rfl rfl hd_X6_partOf ⟨Nat.le_of_ble_eq_true rfl, Nat.le_of_ble_eq_true rfl⟩) (g_preV (ci := 6) (q0 := 0) wP wD wK [0, 1, 2, 4, 5, 6] (by decide) rfl rfl rfl) rfl rfl wl.1 rfl (lv_room (Nat.le_of_ble_eq_true rfl)) dX6_hole_69 ⟨Nat.le_of_ble_eq_true rfl, Nat.le_of_ble_eq_true rfl⟩) wP wS (fun H locs wP wS => ?_)
        exact g_mret (((cD P m8 256 : Nat) : Int), ((cL P m8 256 : Nat) : Int), ((cH P m8 256 : Nat) : Int), NU1_1, QU1_2, DF1_3, LF1_4, HA1_5) xX xB xR xL wP wS dX6_hole_72 ⟨rfl, trivial⟩
      · refine z_tableIn (off := 47) (tgt := 73) 2 xX xB dX6_hole_26 (by omega) (by omega) (by omega) rfl (by decide) ?_
        refine lv_aload_n xX xB dX6_hole_73 rfl (lv_at wl 0 rfl) ?_
        refine lv_iload_n xX xB dX6_hole_74 rfl (lv_at wl 1 rfl) ?_
        refine g_pure (va_runV (As := [.int (zI (k : Int))]) (rest := []) ⟨xX, xB, xM, xO, xT⟩ (c_X6_partsIn l D kI kB h a0 a1 a3 a4 a8 a9 a10 a13 a14 a15 a16 sd (um : Int) (ua : Int) F P m8 NU1_1 DF1_3 LF1_4 HA1_5 k hF hc5 hk) (cwV 1 xT gX6_hole_X6_partsIn rfl rfl rfl hd_X6_partsIn ⟨Nat.le_of_ble_eq_true rfl, Nat.le_of_ble_eq_true rfl⟩) (g_preV (ci := 6) (q0 := 0) wP wD wK [0, 1, 2, 4, 5, 6] (by decide) rfl rfl rfl) rfl rfl wl.1 rfl (lv_room (Nat.le_of_ble_eq_true rfl)) dX6_hole_75 ⟨Nat.le_of_ble_eq_true rfl, Nat.le_of_ble_eq_true rfl⟩) wP wS (fun H locs wP wS => ?_)
        exact g_mret (((cD P m8 256 : Nat) : Int), ((cL P m8 256 : Nat) : Int), ((cH P m8 256 : Nat) : Int), NU1_1, QU1_2, DF1_3, LF1_4, HA1_5) xX xB xR xL wP wS dX6_hole_78 ⟨rfl, trivial⟩
      · refine z_tableIn (off := 53) (tgt := 79) 3 xX xB dX6_hole_26 (by omega) (by omega) (by omega) rfl (by decide) ?_
        refine lv_aload_n xX xB dX6_hole_79 rfl (lv_at wl 0 rfl) ?_
        refine va_get (D := D) (ci := 6) (v := .ref a9) (C := RX6) (T := TX6) (N := 17) xX xB xT in_X6_hole_X6 xO wK.1 wP 0 rfl rfl 9 (by decide) (xT _ (List.mem_of_getElem? (i := 4) rfl)) (fun _ h9 => h9) rfl dX6_hole_80 ?_
        refine lv_aload_n xX xB dX6_hole_83 rfl (lv_at wl 0 rfl) ?_
        refine lv_iload_n xX xB dX6_hole_84 rfl (lv_at wl 1 rfl) ?_
        refine g_pure (va_runV (As := [.int (zI (k : Int))]) (rest := [.ref a9]) ⟨xX, xB, xM, xO, xT⟩ (c_X6_lightOf l D kI kB h a0 a1 a3 a4 a8 a9 a10 a13 a14 a15 a16 sd (um : Int) (ua : Int) F P m8 NU1_1 DF1_3 LF1_4 HA1_5 k hF hc5 hk) (cwV 1 xT gX6_hole_X6_lightOf rfl rfl rfl hd_X6_lightOf ⟨Nat.le_of_ble_eq_true rfl, Nat.le_of_ble_eq_true rfl⟩) (g_preV (ci := 6) (q0 := 0) wP wD wK [0, 1, 2, 4, 5, 6] (by decide) rfl rfl rfl) rfl rfl wl.1 rfl (lv_room (Nat.le_of_ble_eq_true rfl)) dX6_hole_85 ⟨Nat.le_of_ble_eq_true rfl, Nat.le_of_ble_eq_true rfl⟩) wP wS (fun H locs wP wS => ?_)
        refine z_iald xX xB wK wP 5 rfl (cL P m8 (selH P m8 k)) (by omega) (by omega) (Nat.le_of_ble_eq_true rfl) dX6_hole_88 ?_
        refine lv_ri (y := zI (selH P m8 k : Int)) (congrArg zI (hc5.lf hR hD.1)) ?_
        exact g_mret (((cD P m8 256 : Nat) : Int), ((cL P m8 256 : Nat) : Int), ((cH P m8 256 : Nat) : Int), NU1_1, QU1_2, DF1_3, LF1_4, HA1_5) xX xB xR xL wP wS dX6_hole_89 ⟨rfl, trivial⟩
  · exact absurd h19 (by rw [decide_eq_true (by omega)]; decide)

set_option maxHeartbeats 4000000 in
set_option maxRecDepth 100000 in
theorem c_X6_alike_u (l : Launch) (D : va_G) (kI kB : ClassId) (h : Nat) (a0 : Nat) (a1 : Nat) (a3 : Nat) (a4 : Nat) (a8 : Nat) (a9 : Nat) (a10 : Nat) (a13 : Nat) (a14 : Nat) (a15 : Nat) (a16 : Nat) (sd : Int) (dM : Int) (lM : Int) (hM : Int) (um : Nat) (ua : Nat) (F : Nat → Int) (P : Nat → Nat) (m8 : Bool) (NU : Nat → Int) (QU : Nat → Int) (DF : Nat → Int) (LF : Nat → Int) (HA : Nat → Int) (p : Int) (q : Int) (hF : Pic F P) (rm16 : -2147483648 ≤ F 16 ∧ F 16 ≤ 2147483647) (hm : m8 = decide (F 16 = 8)) (rp_ : -2147483648 ≤ p ∧ p ≤ 2147483647) (rq_ : -2147483648 ≤ q ∧ q ≤ 2147483647) (hb : ¬ ((0 ≤ p ∧ p < ((cD P m8 256 : Nat) : Int)) ∧ (0 ≤ q ∧ q < ((cD P m8 256 : Nat) : Int)) ∧ ¬ p = q)) : gM l yX6_alike wsX6_alike ({ frames := 4, cells := 0, slots := 0, locals := 101 } : Room) D kI kB [.ref h, .int (zI p), .int (zI q)] [(h, .inr (6, [.ref a0, .ref a1, .int (zI sd), .ref a3, .ref a4, .int (zI dM), .int (zI lM), .int (zI hM), .ref a8, .ref a9, .ref a10, .int (zI (um : Int)), .int (zI (ua : Int)), .ref a13, .ref a14, .ref a15, .ref a16])), (a0, .inl (kI, 17, .inl (aZ F))), (a3, .inl (kI, 256, .inl (aZ NU))), (a4, .inl (kI, 256, .inl (aZ QU))), (a8, .inl (kI, 128, .inl (aZ DF))), (a9, .inl (kI, 128, .inl (aZ LF))), (a10, .inl (kI, 128, .inl (aZ HA)))] (fun (w_ : Int × Int × Int × (Nat → Int) × (Nat → Int) × (Nat → Int) × (Nat → Int) × (Nat → Int)) => [(h, .inr (6, [.ref a0, .ref a1, .int (zI sd), .ref a3, .ref a4, .int (zI (w_.1)), .int (zI (w_.2.1)), .int (zI (w_.2.2.1)), .ref a8, .ref a9, .ref a10, .int (zI (um : Int)), .int (zI (ua : Int)), .ref a13, .ref a14, .ref a15, .ref a16])), (a0, .inl (kI, 17, .inl (aZ F))), (a3, .inl (kI, 256, .inl (aZ (w_.2.2.2.1)))), (a4, .inl (kI, 256, .inl (aZ (w_.2.2.2.2.1)))), (a8, .inl (kI, 128, .inl (aZ (w_.2.2.2.2.2.1)))), (a9, .inl (kI, 128, .inl (aZ (w_.2.2.2.2.2.2.1)))), (a10, .inl (kI, 128, .inl (aZ (w_.2.2.2.2.2.2.2))))]) (fun (r : Int32) (w_ : Int × Int × Int × (Nat → Int) × (Nat → Int) × (Nat → Int) × (Nat → Int) × (Nat → Int)) => r = zI (-1000000001) ∧ True) := by
  refine g_start (cc := cX6_alike) (maxL := 9) (ret := (some .int)) (by decide) rfl (Nat.le_of_ble_eq_true rfl) ?_
  intro xp xe xs xm xbl xmt xc xX xB xR xM xT xO xL xN wP wD wK ls wl
  have wS : va_S (gA [(h, .inr (6, [.ref a0, .ref a1, .int (zI sd), .ref a3, .ref a4, .int (zI dM), .int (zI lM), .int (zI hM), .ref a8, .ref a9, .ref a10, .int (zI (um : Int)), .int (zI (ua : Int)), .ref a13, .ref a14, .ref a15, .ref a16])), (a0, .inl (kI, 17, .inl (aZ F))), (a3, .inl (kI, 256, .inl (aZ NU))), (a4, .inl (kI, 256, .inl (aZ QU))), (a8, .inl (kI, 128, .inl (aZ DF))), (a9, .inl (kI, 128, .inl (aZ LF))), (a10, .inl (kI, 128, .inl (aZ HA)))]) xs.heap xs.heap [] := va_S.rf
  have wl : lv_has ls 9 [(0, .ref h), (1, .int (zI p)), (2, .int (zI q))] := wl
  have hcb := cD_128 (P := P) (m8 := m8)
  refine lv_aload_n xX xB dX6_alike_0 rfl (lv_at wl 0 rfl) ?_
  refine lv_aload_n xX xB dX6_alike_1 rfl (lv_at wl 0 rfl) ?_
  refine va_get (D := D) (ci := 6) (v := .ref a0) (C := RX6) (T := TX6) (N := 17) xX xB xT in_X6_alike_X6 xO wK.1 wP 0 rfl rfl 0 (by decide) (xT _ (List.mem_of_getElem? (i := 1) rfl)) (fun _ h9 => h9) rfl dX6_alike_2 ?_
  refine g_modv (va_runV (As := [.ref a0]) (rest := []) ⟨xX, xB, xM, xO, xT⟩ (c_X6_parts l D kI kB h a0 a1 a3 a4 a8 a9 a10 a13 a14 a15 a16 sd dM lM hM (um : Int) (ua : Int) a0 F P m8 NU QU DF LF HA hF rm16 hm) (cwV 1 xT gX6_alike_X6_parts rfl rfl rfl hd_X6_parts ⟨Nat.le_of_ble_eq_true rfl, Nat.le_of_ble_eq_true rfl⟩) (g_preV (ci := 6) (q0 := 0) wP wD wK [0, 1, 2, 3, 4, 5, 6] (by decide) rfl rfl rfl) rfl rfl wl.1 rfl (lv_room (Nat.le_of_ble_eq_true rfl)) dX6_alike_5 ⟨Nat.le_of_ble_eq_true rfl, Nat.le_of_ble_eq_true rfl⟩) wP wD wS [0, 1, 2, 3, 4, 5, 6] rfl (fun _ => rfl) (fun u_ H locs hc5 wP wD wS => ?_)
  obtain ⟨NU1_1, QU1_2, DF1_3, LF1_4, HA1_5⟩ := u_
  try dsimp only at hc5
  have wP : va_P D gC [(h, .inr (6, [.ref a0, .ref a1, .int (zI sd), .ref a3, .ref a4, .int (zI ((cD P m8 256 : Nat) : Int)), .int (zI ((cL P m8 256 : Nat) : Int)), .int (zI ((cH P m8 256 : Nat) : Int)), .ref a8, .ref a9, .ref a10, .int (zI (um : Int)), .int (zI (ua : Int)), .ref a13, .ref a14, .ref a15, .ref a16])), (a0, .inl (kI, 17, .inl (aZ F))), (a3, .inl (kI, 256, .inl (aZ NU1_1))), (a4, .inl (kI, 256, .inl (aZ QU1_2))), (a8, .inl (kI, 128, .inl (aZ DF1_3))), (a9, .inl (kI, 128, .inl (aZ LF1_4))), (a10, .inl (kI, 128, .inl (aZ HA1_5)))] H := wP
  have wD : va_D (gA [(h, .inr (6, [.ref a0, .ref a1, .int (zI sd), .ref a3, .ref a4, .int (zI dM), .int (zI lM), .int (zI hM), .ref a8, .ref a9, .ref a10, .int (zI (um : Int)), .int (zI (ua : Int)), .ref a13, .ref a14, .ref a15, .ref a16])), (a0, .inl (kI, 17, .inl (aZ F))), (a3, .inl (kI, 256, .inl (aZ NU))), (a4, .inl (kI, 256, .inl (aZ QU))), (a8, .inl (kI, 128, .inl (aZ DF))), (a9, .inl (kI, 128, .inl (aZ LF))), (a10, .inl (kI, 128, .inl (aZ HA)))]) [(h, .inr (6, [.ref a0, .ref a1, .int (zI sd), .ref a3, .ref a4, .int (zI ((cD P m8 256 : Nat) : Int)), .int (zI ((cL P m8 256 : Nat) : Int)), .int (zI ((cH P m8 256 : Nat) : Int)), .ref a8, .ref a9, .ref a10, .int (zI (um : Int)), .int (zI (ua : Int)), .ref a13, .ref a14, .ref a15, .ref a16])), (a0, .inl (kI, 17, .inl (aZ F))), (a3, .inl (kI, 256, .inl (aZ NU1_1))), (a4, .inl (kI, 256, .inl (aZ QU1_2))), (a8, .inl (kI, 128, .inl (aZ DF1_3))), (a9, .inl (kI, 128, .inl (aZ LF1_4))), (a10, .inl (kI, 128, .inl (aZ HA1_5)))] := wD
  refine lv_iload_n xX xB dX6_alike_8 rfl (lv_at wl 1 rfl) ?_
  refine z_iconst xX xB dX6_alike_9 ?_
  refine lv_aload_n xX xB dX6_alike_10 rfl (lv_at wl 0 rfl) ?_
  refine va_get (D := D) (ci := 6) (v := .int (zI ((cD P m8 256 : Nat) : Int))) (C := RX6) (T := TX6) (N := 17) xX xB xT in_X6_alike_X6 xO wK.1 wP 0 rfl rfl 5 (by decide) (xT _ (List.mem_of_getElem? (i := 2) rfl)) (fun _ h9 => h9) rfl dX6_alike_11 ?_
  refine z_iconst xX xB dX6_alike_14 ?_
  refine z_isub xX xB dX6_alike_15 ?_
  refine g_pure (va_runS (As := [.int (zI p), .int (zI 0), .int (zI (((cD P m8 256 : Nat) : Int) - 1))]) (rest := []) ⟨xX, xB, xM, xO, xT⟩ (c_X6_in l D kI kB p 0 (((cD P m8 256 : Nat) : Int) - 1) (by omega) (by omega) (by omega)) (va_cwS 3 xT gX6_alike_X6_in rfl rfl rfl hdn_X6_in ⟨Nat.le_of_ble_eq_true rfl, Nat.le_of_ble_eq_true rfl⟩) (g_preS wP wD wK [] (by decide) rfl) rfl rfl wl.1 rfl (lv_room (Nat.le_of_ble_eq_true rfl)) dX6_alike_16 ⟨Nat.le_of_ble_eq_true rfl, Nat.le_of_ble_eq_true rfl⟩) wP wS (fun H locs wP wS => ?_)
  refine b_if_eq (tgt := 41) xX xB dX6_alike_19 (by decide) (fun h19 => ?_) (fun h19 => ?_)
  · skip
    refine z_ldc xX xB (-1000000001) (by decide) xO (xT _ (List.mem_of_getElem? (i := 3) rfl)) dX6_alike_41 ?_
    exact g_mret (((cD P m8 256 : Nat) : Int), ((cL P m8 256 : Nat) : Int), ((cH P m8 256 : Nat) : Int), NU1_1, QU1_2, DF1_3, LF1_4, HA1_5) xX xB xR xL wP wS dX6_alike_43 ⟨rfl, trivial⟩
  · skip
    refine lv_iload_n xX xB dX6_alike_22 rfl (lv_at wl 2 rfl) ?_
    refine z_iconst xX xB dX6_alike_23 ?_
    refine lv_aload_n xX xB dX6_alike_24 rfl (lv_at wl 0 rfl) ?_
    refine va_get (D := D) (ci := 6) (v := .int (zI ((cD P m8 256 : Nat) : Int))) (C := RX6) (T := TX6) (N := 17) xX xB xT in_X6_alike_X6 xO wK.1 wP 0 rfl rfl 5 (by decide) (xT _ (List.mem_of_getElem? (i := 2) rfl)) (fun _ h9 => h9) rfl dX6_alike_25 ?_
    refine z_iconst xX xB dX6_alike_28 ?_
    refine z_isub xX xB dX6_alike_29 ?_
    refine g_pure (va_runS (As := [.int (zI q), .int (zI 0), .int (zI (((cD P m8 256 : Nat) : Int) - 1))]) (rest := []) ⟨xX, xB, xM, xO, xT⟩ (c_X6_in l D kI kB q 0 (((cD P m8 256 : Nat) : Int) - 1) (by omega) (by omega) (by omega)) (va_cwS 3 xT gX6_alike_X6_in rfl rfl rfl hdn_X6_in ⟨Nat.le_of_ble_eq_true rfl, Nat.le_of_ble_eq_true rfl⟩) (g_preS wP wD wK [] (by decide) rfl) rfl rfl wl.1 rfl (lv_room (Nat.le_of_ble_eq_true rfl)) dX6_alike_30 ⟨Nat.le_of_ble_eq_true rfl, Nat.le_of_ble_eq_true rfl⟩) wP wS (fun H locs wP wS => ?_)
    refine b_if_eq (tgt := 41) xX xB dX6_alike_33 (by decide) (fun h33 => ?_) (fun h33 => ?_)
    · skip
      refine z_ldc xX xB (-1000000001) (by decide) xO (xT _ (List.mem_of_getElem? (i := 3) rfl)) dX6_alike_41 ?_
      exact g_mret (((cD P m8 256 : Nat) : Int), ((cL P m8 256 : Nat) : Int), ((cH P m8 256 : Nat) : Int), NU1_1, QU1_2, DF1_3, LF1_4, HA1_5) xX xB xR xL wP wS dX6_alike_43 ⟨rfl, trivial⟩
    · skip
      refine lv_iload_n xX xB dX6_alike_36 rfl (lv_at wl 1 rfl) ?_
      refine lv_iload_n xX xB dX6_alike_37 rfl (lv_at wl 2 rfl) ?_
      refine z_icmp_ne (tgt := 44) xX xB dX6_alike_38 (by decide) (by omega) (by omega) (fun h38 => ?_) (fun h38 => ?_)
      · exact absurd h38 (fun z => hb ⟨by have := of_decide_eq_true h19; omega, by have := of_decide_eq_true h33; omega, z⟩)
      · skip
        refine z_ldc xX xB (-1000000001) (by decide) xO (xT _ (List.mem_of_getElem? (i := 3) rfl)) dX6_alike_41 ?_
        exact g_mret (((cD P m8 256 : Nat) : Int), ((cL P m8 256 : Nat) : Int), ((cH P m8 256 : Nat) : Int), NU1_1, QU1_2, DF1_3, LF1_4, HA1_5) xX xB xR xL wP wS dX6_alike_43 ⟨rfl, trivial⟩

set_option maxHeartbeats 4000000 in
set_option maxRecDepth 100000 in
theorem c_X6_alike (l : Launch) (D : va_G) (kI kB : ClassId) (h : Nat) (a0 : Nat) (a1 : Nat) (a3 : Nat) (a4 : Nat) (a8 : Nat) (a9 : Nat) (a10 : Nat) (a13 : Nat) (a14 : Nat) (a15 : Nat) (a16 : Nat) (sd : Int) (dM : Int) (lM : Int) (hM : Int) (um : Nat) (ua : Nat) (F : Nat → Int) (P : Nat → Nat) (m8 : Bool) (NU : Nat → Int) (QU : Nat → Int) (DF : Nat → Int) (LF : Nat → Int) (HA : Nat → Int) (p : Nat) (q : Nat) (hF : Pic F P) (rm16 : -2147483648 ≤ F 16 ∧ F 16 ≤ 2147483647) (hm : m8 = decide (F 16 = 8)) (hp : p < cD P m8 256) (hq : q < cD P m8 256) (hpq : ¬ p = q) : gM l yX6_alike wsX6_alike ({ frames := 4, cells := 0, slots := 0, locals := 101 } : Room) D kI kB [.ref h, .int (zI (p : Int)), .int (zI (q : Int))] [(h, .inr (6, [.ref a0, .ref a1, .int (zI sd), .ref a3, .ref a4, .int (zI dM), .int (zI lM), .int (zI hM), .ref a8, .ref a9, .ref a10, .int (zI (um : Int)), .int (zI (ua : Int)), .ref a13, .ref a14, .ref a15, .ref a16])), (a0, .inl (kI, 17, .inl (aZ F))), (a3, .inl (kI, 256, .inl (aZ NU))), (a4, .inl (kI, 256, .inl (aZ QU))), (a8, .inl (kI, 128, .inl (aZ DF))), (a9, .inl (kI, 128, .inl (aZ LF))), (a10, .inl (kI, 128, .inl (aZ HA)))] (fun (w_ : Int × Int × Int × (Nat → Int) × (Nat → Int) × (Nat → Int) × (Nat → Int) × (Nat → Int)) => [(h, .inr (6, [.ref a0, .ref a1, .int (zI sd), .ref a3, .ref a4, .int (zI (w_.1)), .int (zI (w_.2.1)), .int (zI (w_.2.2.1)), .ref a8, .ref a9, .ref a10, .int (zI (um : Int)), .int (zI (ua : Int)), .ref a13, .ref a14, .ref a15, .ref a16])), (a0, .inl (kI, 17, .inl (aZ F))), (a3, .inl (kI, 256, .inl (aZ (w_.2.2.2.1)))), (a4, .inl (kI, 256, .inl (aZ (w_.2.2.2.2.1)))), (a8, .inl (kI, 128, .inl (aZ (w_.2.2.2.2.2.1)))), (a9, .inl (kI, 128, .inl (aZ (w_.2.2.2.2.2.2.1)))), (a10, .inl (kI, 128, .inl (aZ (w_.2.2.2.2.2.2.2))))]) (fun (r : Int32) (w_ : Int × Int × Int × (Nat → Int) × (Nat → Int) × (Nat → Int) × (Nat → Int) × (Nat → Int)) => r = zI ((bZ (alN P m8 (selD P m8 p) (selD P m8 q) 256) : Nat) : Int) ∧ True) := by
  refine g_start (cc := cX6_alike) (maxL := 9) (ret := (some .int)) (by decide) rfl (Nat.le_of_ble_eq_true rfl) ?_
  intro xp xe xs xm xbl xmt xc xX xB xR xM xT xO xL xN wP wD wK ls wl
  have wS : va_S (gA [(h, .inr (6, [.ref a0, .ref a1, .int (zI sd), .ref a3, .ref a4, .int (zI dM), .int (zI lM), .int (zI hM), .ref a8, .ref a9, .ref a10, .int (zI (um : Int)), .int (zI (ua : Int)), .ref a13, .ref a14, .ref a15, .ref a16])), (a0, .inl (kI, 17, .inl (aZ F))), (a3, .inl (kI, 256, .inl (aZ NU))), (a4, .inl (kI, 256, .inl (aZ QU))), (a8, .inl (kI, 128, .inl (aZ DF))), (a9, .inl (kI, 128, .inl (aZ LF))), (a10, .inl (kI, 128, .inl (aZ HA)))]) xs.heap xs.heap [] := va_S.rf
  have wl : lv_has ls 9 [(0, .ref h), (1, .int (zI (p : Int))), (2, .int (zI (q : Int)))] := wl
  generalize hQ : MQ xbl _ _ xs 0 0 _ = xQ
  have hcb := cD_128 (P := P) (m8 := m8)
  obtain ⟨hR, hD, hcD⟩ := selD_spec hp
  obtain ⟨hR2, hD2, hcD2⟩ := selD_spec hq
  refine lv_aload_n xX xB dX6_alike_0 rfl (lv_at wl 0 rfl) ?_
  refine lv_aload_n xX xB dX6_alike_1 rfl (lv_at wl 0 rfl) ?_
  refine va_get (D := D) (ci := 6) (v := .ref a0) (C := RX6) (T := TX6) (N := 17) xX xB xT in_X6_alike_X6 xO wK.1 wP 0 rfl rfl 0 (by decide) (xT _ (List.mem_of_getElem? (i := 1) rfl)) (fun _ h9 => h9) rfl dX6_alike_2 ?_
  refine g_modv (va_runV (As := [.ref a0]) (rest := []) ⟨xX, xB, xM, xO, xT⟩ (c_X6_parts l D kI kB h a0 a1 a3 a4 a8 a9 a10 a13 a14 a15 a16 sd dM lM hM (um : Int) (ua : Int) a0 F P m8 NU QU DF LF HA hF rm16 hm) (cwV 1 xT gX6_alike_X6_parts rfl rfl rfl hd_X6_parts ⟨Nat.le_of_ble_eq_true rfl, Nat.le_of_ble_eq_true rfl⟩) (g_preV (ci := 6) (q0 := 0) wP wD wK [0, 1, 2, 3, 4, 5, 6] (by decide) rfl rfl rfl) rfl rfl wl.1 rfl (lv_room (Nat.le_of_ble_eq_true rfl)) dX6_alike_5 ⟨Nat.le_of_ble_eq_true rfl, Nat.le_of_ble_eq_true rfl⟩) wP wD wS [0, 1, 2, 3, 4, 5, 6] rfl (fun _ => rfl) (fun u_ H locs hc5 wP wD wS => ?_)
  obtain ⟨NU1_1, QU1_2, DF1_3, LF1_4, HA1_5⟩ := u_
  try dsimp only at hc5
  have wP : va_P D gC [(h, .inr (6, [.ref a0, .ref a1, .int (zI sd), .ref a3, .ref a4, .int (zI ((cD P m8 256 : Nat) : Int)), .int (zI ((cL P m8 256 : Nat) : Int)), .int (zI ((cH P m8 256 : Nat) : Int)), .ref a8, .ref a9, .ref a10, .int (zI (um : Int)), .int (zI (ua : Int)), .ref a13, .ref a14, .ref a15, .ref a16])), (a0, .inl (kI, 17, .inl (aZ F))), (a3, .inl (kI, 256, .inl (aZ NU1_1))), (a4, .inl (kI, 256, .inl (aZ QU1_2))), (a8, .inl (kI, 128, .inl (aZ DF1_3))), (a9, .inl (kI, 128, .inl (aZ LF1_4))), (a10, .inl (kI, 128, .inl (aZ HA1_5)))] H := wP
  have wD : va_D (gA [(h, .inr (6, [.ref a0, .ref a1, .int (zI sd), .ref a3, .ref a4, .int (zI dM), .int (zI lM), .int (zI hM), .ref a8, .ref a9, .ref a10, .int (zI (um : Int)), .int (zI (ua : Int)), .ref a13, .ref a14, .ref a15, .ref a16])), (a0, .inl (kI, 17, .inl (aZ F))), (a3, .inl (kI, 256, .inl (aZ NU))), (a4, .inl (kI, 256, .inl (aZ QU))), (a8, .inl (kI, 128, .inl (aZ DF))), (a9, .inl (kI, 128, .inl (aZ LF))), (a10, .inl (kI, 128, .inl (aZ HA)))]) [(h, .inr (6, [.ref a0, .ref a1, .int (zI sd), .ref a3, .ref a4, .int (zI ((cD P m8 256 : Nat) : Int)), .int (zI ((cL P m8 256 : Nat) : Int)), .int (zI ((cH P m8 256 : Nat) : Int)), .ref a8, .ref a9, .ref a10, .int (zI (um : Int)), .int (zI (ua : Int)), .ref a13, .ref a14, .ref a15, .ref a16])), (a0, .inl (kI, 17, .inl (aZ F))), (a3, .inl (kI, 256, .inl (aZ NU1_1))), (a4, .inl (kI, 256, .inl (aZ QU1_2))), (a8, .inl (kI, 128, .inl (aZ DF1_3))), (a9, .inl (kI, 128, .inl (aZ LF1_4))), (a10, .inl (kI, 128, .inl (aZ HA1_5)))] := wD
  refine lv_iload_n xX xB dX6_alike_8 rfl (lv_at wl 1 rfl) ?_
  refine z_iconst xX xB dX6_alike_9 ?_
  refine lv_aload_n xX xB dX6_alike_10 rfl (lv_at wl 0 rfl) ?_
  refine va_get (D := D) (ci := 6) (v := .int (zI ((cD P m8 256 : Nat) : Int))) (C := RX6) (T := TX6) (N := 17) xX xB xT in_X6_alike_X6 xO wK.1 wP 0 rfl rfl 5 (by decide) (xT _ (List.mem_of_getElem? (i := 2) rfl)) (fun _ h9 => h9) rfl dX6_alike_11 ?_
  refine z_iconst xX xB dX6_alike_14 ?_
  refine z_isub xX xB dX6_alike_15 ?_
  refine g_pure (va_runS (As := [.int (zI (p : Int)), .int (zI 0), .int (zI (((cD P m8 256 : Nat) : Int) - 1))]) (rest := []) ⟨xX, xB, xM, xO, xT⟩ (c_X6_in l D kI kB (p : Int) 0 (((cD P m8 256 : Nat) : Int) - 1) (by omega) (by omega) (by omega)) (va_cwS 3 xT gX6_alike_X6_in rfl rfl rfl hdn_X6_in ⟨Nat.le_of_ble_eq_true rfl, Nat.le_of_ble_eq_true rfl⟩) (g_preS wP wD wK [] (by decide) rfl) rfl rfl wl.1 rfl (lv_room (Nat.le_of_ble_eq_true rfl)) dX6_alike_16 ⟨Nat.le_of_ble_eq_true rfl, Nat.le_of_ble_eq_true rfl⟩) wP wS (fun H locs wP wS => ?_)
  refine b_if_eq (tgt := 41) xX xB dX6_alike_19 (by decide) (fun h19 => ?_) (fun h19 => ?_)
  · exact absurd h19 (by rw [decide_eq_true (by omega)]; decide)
  · skip
    refine lv_iload_n xX xB dX6_alike_22 rfl (lv_at wl 2 rfl) ?_
    refine z_iconst xX xB dX6_alike_23 ?_
    refine lv_aload_n xX xB dX6_alike_24 rfl (lv_at wl 0 rfl) ?_
    refine va_get (D := D) (ci := 6) (v := .int (zI ((cD P m8 256 : Nat) : Int))) (C := RX6) (T := TX6) (N := 17) xX xB xT in_X6_alike_X6 xO wK.1 wP 0 rfl rfl 5 (by decide) (xT _ (List.mem_of_getElem? (i := 2) rfl)) (fun _ h9 => h9) rfl dX6_alike_25 ?_
    refine z_iconst xX xB dX6_alike_28 ?_
    refine z_isub xX xB dX6_alike_29 ?_
    refine g_pure (va_runS (As := [.int (zI (q : Int)), .int (zI 0), .int (zI (((cD P m8 256 : Nat) : Int) - 1))]) (rest := []) ⟨xX, xB, xM, xO, xT⟩ (c_X6_in l D kI kB (q : Int) 0 (((cD P m8 256 : Nat) : Int) - 1) (by omega) (by omega) (by omega)) (va_cwS 3 xT gX6_alike_X6_in rfl rfl rfl hdn_X6_in ⟨Nat.le_of_ble_eq_true rfl, Nat.le_of_ble_eq_true rfl⟩) (g_preS wP wD wK [] (by decide) rfl) rfl rfl wl.1 rfl (lv_room (Nat.le_of_ble_eq_true rfl)) dX6_alike_30 ⟨Nat.le_of_ble_eq_true rfl, Nat.le_of_ble_eq_true rfl⟩) wP wS (fun H locs wP wS => ?_)
    refine b_if_eq (tgt := 41) xX xB dX6_alike_33 (by decide) (fun h33 => ?_) (fun h33 => ?_)
    · exact absurd h33 (by rw [decide_eq_true (by omega)]; decide)
    · skip
      refine lv_iload_n xX xB dX6_alike_36 rfl (lv_at wl 1 rfl) ?_
      refine lv_iload_n xX xB dX6_alike_37 rfl (lv_at wl 2 rfl) ?_
      refine z_icmp_ne (tgt := 44) xX xB dX6_alike_38 (by decide) (by omega) (by omega) (fun h38 => ?_) (fun h38 => ?_)
      · skip
        refine lv_aload_n xX xB dX6_alike_44 rfl (lv_at wl 0 rfl) ?_
        refine va_get (D := D) (ci := 6) (v := .ref a8) (C := RX6) (T := TX6) (N := 17) xX xB xT in_X6_alike_X6 xO wK.1 wP 0 rfl rfl 8 (by decide) (xT _ (List.mem_of_getElem? (i := 4) rfl)) (fun _ h9 => h9) rfl dX6_alike_45 ?_
        refine lv_iload_n xX xB dX6_alike_48 rfl (lv_at wl 2 rfl) ?_
        refine z_iald xX xB wK wP 4 rfl q rfl (by omega) (Nat.le_of_ble_eq_true rfl) dX6_alike_49 ?_
        refine lv_ri (y := zI (selD P m8 q : Int)) (congrArg zI (by have e := hc5.df hR2 hD2; rw [hcD2] at e; exact e)) ?_
        refine z_bipush xX xB dX6_alike_50 (by decide) ?_
        refine z_idiv xX xB dX6_alike_52 (by omega) (by decide) ?_
        refine lv_aload_n xX xB dX6_alike_53 rfl (lv_at wl 0 rfl) ?_
        refine va_get (D := D) (ci := 6) (v := .ref a8) (C := RX6) (T := TX6) (N := 17) xX xB xT in_X6_alike_X6 xO wK.1 wP 0 rfl rfl 8 (by decide) (xT _ (List.mem_of_getElem? (i := 4) rfl)) (fun _ h9 => h9) rfl dX6_alike_54 ?_
        refine lv_iload_n xX xB dX6_alike_57 rfl (lv_at wl 1 rfl) ?_
        refine z_iald xX xB wK wP 4 rfl p rfl (by omega) (Nat.le_of_ble_eq_true rfl) dX6_alike_58 ?_
        refine lv_ri (y := zI (selD P m8 p : Int)) (congrArg zI (by have e := hc5.df hR hD; rw [hcD] at e; exact e)) ?_
        refine z_bipush xX xB dX6_alike_59 (by decide) ?_
        refine z_idiv xX xB dX6_alike_61 (by omega) (by decide) ?_
        refine z_isub xX xB dX6_alike_62 ?_
        refine lv_istore_n (lv' := [(3, .int (zI ((((selD P m8 q : Nat) : Int) / 16) - (((selD P m8 p : Nat) : Int) / 16)))), (0, .ref h), (1, .int (zI (p : Int))), (2, .int (zI (q : Int)))]) xX xB dX6_alike_63 rfl wl (by decide) rfl (fun ls wl => ?_)
        refine lv_aload_n xX xB dX6_alike_64 rfl (lv_at wl 1 rfl) ?_
        refine va_get (D := D) (ci := 6) (v := .ref a8) (C := RX6) (T := TX6) (N := 17) xX xB xT in_X6_alike_X6 xO wK.1 wP 0 rfl rfl 8 (by decide) (xT _ (List.mem_of_getElem? (i := 4) rfl)) (fun _ h9 => h9) rfl dX6_alike_65 ?_
        refine lv_iload_n xX xB dX6_alike_68 rfl (lv_at wl 3 rfl) ?_
        refine z_iald xX xB wK wP 4 rfl q rfl (by omega) (Nat.le_of_ble_eq_true rfl) dX6_alike_69 ?_
        refine lv_ri (y := zI (selD P m8 q : Int)) (congrArg zI (by have e := hc5.df hR2 hD2; rw [hcD2] at e; exact e)) ?_
        refine z_bipush xX xB dX6_alike_70 (by decide) ?_
        refine z_irem xX xB dX6_alike_72 (by omega) (by decide) ?_
        refine lv_aload_n xX xB dX6_alike_73 rfl (lv_at wl 1 rfl) ?_
        refine va_get (D := D) (ci := 6) (v := .ref a8) (C := RX6) (T := TX6) (N := 17) xX xB xT in_X6_alike_X6 xO wK.1 wP 0 rfl rfl 8 (by decide) (xT _ (List.mem_of_getElem? (i := 4) rfl)) (fun _ h9 => h9) rfl dX6_alike_74 ?_
        refine lv_iload_n xX xB dX6_alike_77 rfl (lv_at wl 2 rfl) ?_
        refine z_iald xX xB wK wP 4 rfl p rfl (by omega) (Nat.le_of_ble_eq_true rfl) dX6_alike_78 ?_
        refine lv_ri (y := zI (selD P m8 p : Int)) (congrArg zI (by have e := hc5.df hR hD; rw [hcD] at e; exact e)) ?_
        refine z_bipush xX xB dX6_alike_79 (by decide) ?_
        refine z_irem xX xB dX6_alike_81 (by omega) (by decide) ?_
        refine z_isub xX xB dX6_alike_82 ?_
        refine lv_istore (lv' := [(4, .int (zI ((((selD P m8 q : Nat) : Int) % 16) - (((selD P m8 p : Nat) : Int) % 16)))), (3, .int (zI ((((selD P m8 q : Nat) : Int) / 16) - (((selD P m8 p : Nat) : Int) / 16)))), (0, .ref h), (1, .int (zI (p : Int))), (2, .int (zI (q : Int)))]) xX xB dX6_alike_83 wl (by decide) rfl (fun ls wl => ?_)
        refine lv_aload_n xX xB dX6_alike_85 rfl (lv_at wl 2 rfl) ?_
        refine z_iconst xX xB dX6_alike_86 ?_
        refine lv_iload_n xX xB dX6_alike_87 rfl (lv_at wl 3 rfl) ?_
        refine g_pure (va_runV (As := [.int (zI 1), .int (zI (p : Int))]) (rest := []) ⟨xX, xB, xM, xO, xT⟩ (c_X6_sizeOf l D kI kB h a0 a1 a3 a4 a8 a9 a10 a13 a14 a15 a16 sd (um : Int) (ua : Int) F P m8 NU1_1 DF1_3 LF1_4 HA1_5 (selD P m8 p) true p hF hc5 hR hD.1 hD.2 (by rw [hcD]; rfl)) (cwV 2 xT gX6_alike_X6_sizeOf rfl rfl rfl hd_X6_sizeOf ⟨Nat.le_of_ble_eq_true rfl, Nat.le_of_ble_eq_true rfl⟩) (g_preV (ci := 6) (q0 := 0) wP wD wK [0, 1, 2, 4, 5, 6] (by decide) rfl rfl rfl) rfl rfl wl.1 rfl (lv_room (Nat.le_of_ble_eq_true rfl)) dX6_alike_88 ⟨Nat.le_of_ble_eq_true rfl, Nat.le_of_ble_eq_true rfl⟩) wP wS (fun H locs wP wS => ?_)
        have hsz1 := szR_le (P := P) (m8 := m8) (selD P m8 p)
        refine lv_aload_n xX xB dX6_alike_91 rfl (lv_at wl 2 rfl) ?_
        refine z_iconst xX xB dX6_alike_92 ?_
        refine lv_iload_n xX xB dX6_alike_93 rfl (lv_at wl 4 rfl) ?_
        refine g_pure (va_runV (As := [.int (zI 1), .int (zI (q : Int))]) (rest := [.int (zI ((szR P m8 (selD P m8 p) : Nat) : Int))]) ⟨xX, xB, xM, xO, xT⟩ (c_X6_sizeOf l D kI kB h a0 a1 a3 a4 a8 a9 a10 a13 a14 a15 a16 sd (um : Int) (ua : Int) F P m8 NU1_1 DF1_3 LF1_4 HA1_5 (selD P m8 q) true q hF hc5 hR2 hD2.1 hD2.2 (by rw [hcD2]; rfl)) (cwV 2 xT gX6_alike_X6_sizeOf rfl rfl rfl hd_X6_sizeOf ⟨Nat.le_of_ble_eq_true rfl, Nat.le_of_ble_eq_true rfl⟩) (g_preV (ci := 6) (q0 := 0) wP wD wK [0, 1, 2, 4, 5, 6] (by decide) rfl rfl rfl) rfl rfl wl.1 rfl (lv_room (Nat.le_of_ble_eq_true rfl)) dX6_alike_94 ⟨Nat.le_of_ble_eq_true rfl, Nat.le_of_ble_eq_true rfl⟩) wP wS (fun H locs wP wS => ?_)
        have hsz2 := szR_le (P := P) (m8 := m8) (selD P m8 q)
        refine t_icmp_ne xX xB dX6_alike_97 dX6_alike_100 dX6_alike_101 dX6_alike_104 (by omega) (by omega) ?_
        refine lv_istore (lv' := [(5, .int (bI (decide (((szR P m8 (selD P m8 p) : Nat) : Int) = ((szR P m8 (selD P m8 q) : Nat) : Int))))), (4, .int (zI ((((selD P m8 q : Nat) : Int) % 16) - (((selD P m8 p : Nat) : Int) % 16)))), (3, .int (zI ((((selD P m8 q : Nat) : Int) / 16) - (((selD P m8 p : Nat) : Int) / 16)))), (0, .ref h), (1, .int (zI (p : Int))), (2, .int (zI (q : Int)))]) xX xB dX6_alike_105 wl (by decide) rfl (fun ls wl => ?_)
        refine z_iconst xX xB dX6_alike_107 ?_
        refine lv_istore (lv' := [(6, .int (zI 0)), (5, .int (bI (decide (((szR P m8 (selD P m8 p) : Nat) : Int) = ((szR P m8 (selD P m8 q) : Nat) : Int))))), (4, .int (zI ((((selD P m8 q : Nat) : Int) % 16) - (((selD P m8 p : Nat) : Int) % 16)))), (3, .int (zI ((((selD P m8 q : Nat) : Int) / 16) - (((selD P m8 p : Nat) : Int) / 16)))), (0, .ref h), (1, .int (zI (p : Int))), (2, .int (zI (q : Int)))]) xX xB dX6_alike_108 wl (by decide) rfl (fun ls wl => ?_)
        have K : ∀ n_ : Nat, ∀ (i : Nat) (b : Bool), 256 - i < n_ → (i ≤ 256) → (b = alN P m8 (selD P m8 p) (selD P m8 q) i) → ∀ (H : Heap) (locs : List Loc) (ls : Array Slot), va_P D gC [(h, .inr (6, [.ref a0, .ref a1, .int (zI sd), .ref a3, .ref a4, .int (zI ((cD P m8 256 : Nat) : Int)), .int (zI ((cL P m8 256 : Nat) : Int)), .int (zI ((cH P m8 256 : Nat) : Int)), .ref a8, .ref a9, .ref a10, .int (zI (um : Int)), .int (zI (ua : Int)), .ref a13, .ref a14, .ref a15, .ref a16])), (a0, .inl (kI, 17, .inl (aZ F))), (a3, .inl (kI, 256, .inl (aZ NU1_1))), (a4, .inl (kI, 256, .inl (aZ QU1_2))), (a8, .inl (kI, 128, .inl (aZ DF1_3))), (a9, .inl (kI, 128, .inl (aZ LF1_4))), (a10, .inl (kI, 128, .inl (aZ HA1_5)))] H → va_D (gA [(h, .inr (6, [.ref a0, .ref a1, .int (zI sd), .ref a3, .ref a4, .int (zI dM), .int (zI lM), .int (zI hM), .ref a8, .ref a9, .ref a10, .int (zI (um : Int)), .int (zI (ua : Int)), .ref a13, .ref a14, .ref a15, .ref a16])), (a0, .inl (kI, 17, .inl (aZ F))), (a3, .inl (kI, 256, .inl (aZ NU))), (a4, .inl (kI, 256, .inl (aZ QU))), (a8, .inl (kI, 128, .inl (aZ DF))), (a9, .inl (kI, 128, .inl (aZ LF))), (a10, .inl (kI, 128, .inl (aZ HA)))]) [(h, .inr (6, [.ref a0, .ref a1, .int (zI sd), .ref a3, .ref a4, .int (zI ((cD P m8 256 : Nat) : Int)), .int (zI ((cL P m8 256 : Nat) : Int)), .int (zI ((cH P m8 256 : Nat) : Int)), .ref a8, .ref a9, .ref a10, .int (zI (um : Int)), .int (zI (ua : Int)), .ref a13, .ref a14, .ref a15, .ref a16])), (a0, .inl (kI, 17, .inl (aZ F))), (a3, .inl (kI, 256, .inl (aZ NU1_1))), (a4, .inl (kI, 256, .inl (aZ QU1_2))), (a8, .inl (kI, 128, .inl (aZ DF1_3))), (a9, .inl (kI, 128, .inl (aZ LF1_4))), (a10, .inl (kI, 128, .inl (aZ HA1_5)))] → va_S (gA [(h, .inr (6, [.ref a0, .ref a1, .int (zI sd), .ref a3, .ref a4, .int (zI dM), .int (zI lM), .int (zI hM), .ref a8, .ref a9, .ref a10, .int (zI (um : Int)), .int (zI (ua : Int)), .ref a13, .ref a14, .ref a15, .ref a16])), (a0, .inl (kI, 17, .inl (aZ F))), (a3, .inl (kI, 256, .inl (aZ NU))), (a4, .inl (kI, 256, .inl (aZ QU))), (a8, .inl (kI, 128, .inl (aZ DF))), (a9, .inl (kI, 128, .inl (aZ LF))), (a10, .inl (kI, 128, .inl (aZ HA)))]) xs.heap H locs → lv_has ls 9 [(0, .ref h), (1, .int (zI (p : Int))), (2, .int (zI (q : Int))), (3, .int (zI ((selD P m8 q : Int) / 16 - (selD P m8 p : Int) / 16))), (4, .int (zI ((selD P m8 q : Int) % 16 - (selD P m8 p : Int) % 16))), (5, .int (bI b)), (6, .int (zI (i : Int)))] → W xp l xe ({ frames := 4, cells := 0, slots := 0, locals := 101 } : Room) xs xm (List.toArray [.ref h, .int (zI (p : Int)), .int (zI (q : Int))]) xbl xmt xc H locs 0 0 xQ (F0 xm 110 ls []) := by
          intro n_
          induction n_ with
          | zero =>
            intro i b hme
            exact absurd hme (Nat.not_lt_zero _)
          | succ n_ ihK =>
            intro i b hme hi hb H locs ls wP wD wS wl
            refine lv_iload xX xB dX6_alike_110 (lv_at wl 6 rfl) ?_
            refine z_sipush xX xB dX6_alike_112 (by decide) ?_
            refine z_icmp_ge (tgt := 193) xX xB dX6_alike_115 (by decide) (by omega) (by omega) (fun h115 => ?_) (fun h115 => ?_)
            · skip
              refine lv_iload xX xB dX6_alike_193 (lv_at wl 5 rfl) ?_
              refine t_b_eq xX xB dX6_alike_195 dX6_alike_198 dX6_alike_199 dX6_alike_202 ?_
              subst hQ
              exact g_mret (((cD P m8 256 : Nat) : Int), ((cL P m8 256 : Nat) : Int), ((cH P m8 256 : Nat) : Int), NU1_1, QU1_2, DF1_3, LF1_4, HA1_5) xX xB xR xL wP wS dX6_alike_203 ⟨by rw [bI_Z]; exact congrArg (fun z : Bool => zI ((bZ z : Nat) : Int)) (by rw [hb, show i = 256 by omega]), trivial⟩
            · skip
              refine lv_iload xX xB dX6_alike_118 (lv_at wl 5 rfl) ?_
              refine b_if_eq (tgt := 193) xX xB dX6_alike_120 (by decide) (fun h120 => ?_) (fun h120 => ?_)
              · skip
                refine lv_iload xX xB dX6_alike_193 (lv_at wl 5 rfl) ?_
                refine t_b_eq xX xB dX6_alike_195 dX6_alike_198 dX6_alike_199 dX6_alike_202 ?_
                subst hQ
                exact g_mret (((cD P m8 256 : Nat) : Int), ((cL P m8 256 : Nat) : Int), ((cH P m8 256 : Nat) : Int), NU1_1, QU1_2, DF1_3, LF1_4, HA1_5) xX xB xR xL wP wS dX6_alike_203 ⟨by rw [bI_Z]; exact congrArg (fun z : Bool => zI ((bZ z : Nat) : Int)) (by rw [hb]; have z := alN_f (hb.symm.trans h120) (256 - i); rw [show i + (256 - i) = 256 by omega] at z; rw [z, ← hb, h120]), trivial⟩
              · skip
                refine lv_iload xX xB dX6_alike_123 (lv_at wl 6 rfl) ?_
                refine z_bipush xX xB dX6_alike_125 (by decide) ?_
                refine z_idiv xX xB dX6_alike_127 (by omega) (by decide) ?_
                refine lv_iload_n xX xB dX6_alike_128 rfl (lv_at wl 3 rfl) ?_
                refine z_iadd xX xB dX6_alike_129 ?_
                refine lv_istore (lv' := [(7, .int (zI (((i : Int) / 16) + ((selD P m8 q : Int) / 16 - (selD P m8 p : Int) / 16)))), (0, .ref h), (1, .int (zI (p : Int))), (2, .int (zI (q : Int))), (3, .int (zI ((selD P m8 q : Int) / 16 - (selD P m8 p : Int) / 16))), (4, .int (zI ((selD P m8 q : Int) % 16 - (selD P m8 p : Int) % 16))), (5, .int (bI b)), (6, .int (zI (i : Int)))]) xX xB dX6_alike_130 wl (by decide) rfl (fun ls wl => ?_)
                refine lv_iload xX xB dX6_alike_132 (lv_at wl 7 rfl) ?_
                refine z_bipush xX xB dX6_alike_134 (by decide) ?_
                refine z_irem xX xB dX6_alike_136 (by omega) (by decide) ?_
                refine lv_iload xX xB dX6_alike_137 (lv_at wl 5 rfl) ?_
                refine z_iadd xX xB dX6_alike_139 ?_
                refine lv_istore (lv' := [(8, .int (zI (((i : Int) % 16) + ((selD P m8 q : Int) % 16 - (selD P m8 p : Int) % 16)))), (7, .int (zI (((i : Int) / 16) + ((selD P m8 q : Int) / 16 - (selD P m8 p : Int) / 16)))), (0, .ref h), (1, .int (zI (p : Int))), (2, .int (zI (q : Int))), (3, .int (zI ((selD P m8 q : Int) / 16 - (selD P m8 p : Int) / 16))), (4, .int (zI ((selD P m8 q : Int) % 16 - (selD P m8 p : Int) % 16))), (5, .int (bI b)), (6, .int (zI (i : Int)))]) xX xB dX6_alike_140 wl (by decide) rfl (fun ls wl => ?_)
                have J16 : ∀ (b2 : Bool), (b2 = alT P m8 (selD P m8 p) (selD P m8 q) i) → ∀ (H : Heap) (locs : List Loc) (ls : Array Slot), va_P D gC [(h, .inr (6, [.ref a0, .ref a1, .int (zI sd), .ref a3, .ref a4, .int (zI ((cD P m8 256 : Nat) : Int)), .int (zI ((cL P m8 256 : Nat) : Int)), .int (zI ((cH P m8 256 : Nat) : Int)), .ref a8, .ref a9, .ref a10, .int (zI (um : Int)), .int (zI (ua : Int)), .ref a13, .ref a14, .ref a15, .ref a16])), (a0, .inl (kI, 17, .inl (aZ F))), (a3, .inl (kI, 256, .inl (aZ NU1_1))), (a4, .inl (kI, 256, .inl (aZ QU1_2))), (a8, .inl (kI, 128, .inl (aZ DF1_3))), (a9, .inl (kI, 128, .inl (aZ LF1_4))), (a10, .inl (kI, 128, .inl (aZ HA1_5)))] H → va_D (gA [(h, .inr (6, [.ref a0, .ref a1, .int (zI sd), .ref a3, .ref a4, .int (zI dM), .int (zI lM), .int (zI hM), .ref a8, .ref a9, .ref a10, .int (zI (um : Int)), .int (zI (ua : Int)), .ref a13, .ref a14, .ref a15, .ref a16])), (a0, .inl (kI, 17, .inl (aZ F))), (a3, .inl (kI, 256, .inl (aZ NU))), (a4, .inl (kI, 256, .inl (aZ QU))), (a8, .inl (kI, 128, .inl (aZ DF))), (a9, .inl (kI, 128, .inl (aZ LF))), (a10, .inl (kI, 128, .inl (aZ HA)))]) [(h, .inr (6, [.ref a0, .ref a1, .int (zI sd), .ref a3, .ref a4, .int (zI ((cD P m8 256 : Nat) : Int)), .int (zI ((cL P m8 256 : Nat) : Int)), .int (zI ((cH P m8 256 : Nat) : Int)), .ref a8, .ref a9, .ref a10, .int (zI (um : Int)), .int (zI (ua : Int)), .ref a13, .ref a14, .ref a15, .ref a16])), (a0, .inl (kI, 17, .inl (aZ F))), (a3, .inl (kI, 256, .inl (aZ NU1_1))), (a4, .inl (kI, 256, .inl (aZ QU1_2))), (a8, .inl (kI, 128, .inl (aZ DF1_3))), (a9, .inl (kI, 128, .inl (aZ LF1_4))), (a10, .inl (kI, 128, .inl (aZ HA1_5)))] → va_S (gA [(h, .inr (6, [.ref a0, .ref a1, .int (zI sd), .ref a3, .ref a4, .int (zI dM), .int (zI lM), .int (zI hM), .ref a8, .ref a9, .ref a10, .int (zI (um : Int)), .int (zI (ua : Int)), .ref a13, .ref a14, .ref a15, .ref a16])), (a0, .inl (kI, 17, .inl (aZ F))), (a3, .inl (kI, 256, .inl (aZ NU))), (a4, .inl (kI, 256, .inl (aZ QU))), (a8, .inl (kI, 128, .inl (aZ DF))), (a9, .inl (kI, 128, .inl (aZ LF))), (a10, .inl (kI, 128, .inl (aZ HA)))]) xs.heap H locs → lv_has ls 9 [(8, .int (zI (((i : Int) % 16) + ((selD P m8 q : Int) % 16 - (selD P m8 p : Int) % 16)))), (7, .int (zI (((i : Int) / 16) + ((selD P m8 q : Int) / 16 - (selD P m8 p : Int) / 16)))), (0, .ref h), (1, .int (zI (p : Int))), (2, .int (zI (q : Int))), (3, .int (zI ((selD P m8 q : Int) / 16 - (selD P m8 p : Int) / 16))), (4, .int (zI ((selD P m8 q : Int) % 16 - (selD P m8 p : Int) % 16))), (5, .int (bI b)), (6, .int (zI (i : Int)))] → W xp l xe ({ frames := 4, cells := 0, slots := 0, locals := 101 } : Room) xs xm (List.toArray [.ref h, .int (zI (p : Int)), .int (zI (q : Int))]) xbl xmt xc H locs 0 0 xQ (F0 xm 185 ls [.int (bI b2)]) := by
                  intro b2 hb2 H locs ls wP wD wS wl
                  refine lv_istore (lv' := [(5, .int (bI b2)), (8, .int (zI (((i : Int) % 16) + ((selD P m8 q : Int) % 16 - (selD P m8 p : Int) % 16)))), (7, .int (zI (((i : Int) / 16) + ((selD P m8 q : Int) / 16 - (selD P m8 p : Int) / 16)))), (0, .ref h), (1, .int (zI (p : Int))), (2, .int (zI (q : Int))), (3, .int (zI ((selD P m8 q : Int) / 16 - (selD P m8 p : Int) / 16))), (4, .int (zI ((selD P m8 q : Int) % 16 - (selD P m8 p : Int) % 16))), (6, .int (zI (i : Int)))]) xX xB dX6_alike_185 wl (by decide) rfl (fun ls wl => ?_)
                  refine lv_iinc (v := zI ((i : Int) + 1)) (lv' := [(6, .int (zI ((i : Int) + 1))), (5, .int (bI b2)), (8, .int (zI (((i : Int) % 16) + ((selD P m8 q : Int) % 16 - (selD P m8 p : Int) % 16)))), (7, .int (zI (((i : Int) / 16) + ((selD P m8 q : Int) / 16 - (selD P m8 p : Int) / 16)))), (0, .ref h), (1, .int (zI (p : Int))), (2, .int (zI (q : Int))), (3, .int (zI ((selD P m8 q : Int) / 16 - (selD P m8 p : Int) / 16))), (4, .int (zI ((selD P m8 q : Int) % 16 - (selD P m8 p : Int) % 16)))]) xX xB dX6_alike_187 wl (k := 8) rfl (zI_add _ _) (by decide) rfl (fun ls wl => ?_)
                  refine lv_goto (tgt := 110) xX xB dX6_alike_190 (by decide) ?_
                  exact ihK (i + 1) b2 (by omega) (by omega) (by rw [hb2]; show _ = (alN P m8 (selD P m8 p) (selD P m8 q) i && _); rw [← hb, h120]; rfl) _ _ _ wP wD wS (lv_sub wl [4, 5, 6, 7, 8, 1, 0] rfl)
                refine lv_aload_n xX xB dX6_alike_142 rfl (lv_at wl 2 rfl) ?_
                refine lv_iload xX xB dX6_alike_143 (lv_at wl 8 rfl) ?_
                refine z_iconst xX xB dX6_alike_145 ?_
                refine lv_iload_n xX xB dX6_alike_146 rfl (lv_at wl 3 rfl) ?_
                refine g_pure (va_runV (As := [.int (zI (i : Int)), .int (zI 1), .int (zI (p : Int))]) (rest := []) ⟨xX, xB, xM, xO, xT⟩ (c_X6_isOf l D kI kB h a0 a1 a3 a4 a8 a9 a10 a13 a14 a15 a16 sd (um : Int) (ua : Int) F P m8 NU1_1 DF1_3 LF1_4 HA1_5 i (selD P m8 p) true p hF hc5 (by omega) hR hD.1 hD.2 (by rw [hcD]; rfl)) (cwV 3 xT gX6_alike_X6_isOf rfl rfl rfl hd_X6_isOf ⟨Nat.le_of_ble_eq_true rfl, Nat.le_of_ble_eq_true rfl⟩) (g_preV (ci := 6) (q0 := 0) wP wD wK [0, 1, 2, 4, 5, 6] (by decide) rfl rfl rfl) rfl rfl wl.1 rfl (lv_room (Nat.le_of_ble_eq_true rfl)) dX6_alike_147 ⟨Nat.le_of_ble_eq_true rfl, Nat.le_of_ble_eq_true rfl⟩) wP wS (fun H locs wP wS => ?_)
                refine b_if_eq (tgt := 180) xX xB dX6_alike_150 (by decide) (fun h150 => ?_) (fun h150 => ?_)
                · skip
                  refine z_iconst xX xB dX6_alike_180 ?_
                  refine lv_goto (tgt := 185) xX xB dX6_alike_181 (by decide) ?_
                  refine lv_ri (y := bI true) rfl ?_
                  exact J16 true (by first | (unfold alT; rw [h150]; rfl) | (unfold alT; rw [h150, h160, show (16 * ((i : Int) / 16 + ((selD P m8 q : Int) / 16 - (selD P m8 p : Int) / 16)) + ((i : Int) % 16 + ((selD P m8 q : Int) % 16 - (selD P m8 p : Int) % 16))).toNat = tx by rw [htx]; rfl, h177]; rfl)) _ _ _ wP wD wS (lv_sub wl [0, 1, 2, 3, 4, 5, 6, 7, 8] rfl)
                · skip
                  refine lv_iload xX xB dX6_alike_153 (lv_at wl 1 rfl) ?_
                  refine lv_iload xX xB dX6_alike_155 (lv_at wl 0 rfl) ?_
                  refine g_pure (va_runS (As := [.int (zI (((i : Int) / 16) + ((selD P m8 q : Int) / 16 - (selD P m8 p : Int) / 16))), .int (zI (((i : Int) % 16) + ((selD P m8 q : Int) % 16 - (selD P m8 p : Int) % 16)))]) (rest := []) ⟨xX, xB, xM, xO, xT⟩ (c_X6_isOn l D kI kB (((i : Int) / 16) + ((selD P m8 q : Int) / 16 - (selD P m8 p : Int) / 16)) (((i : Int) % 16) + ((selD P m8 q : Int) % 16 - (selD P m8 p : Int) % 16)) (by omega) (by omega)) (va_cwS 2 xT gX6_alike_X6_isOn rfl rfl rfl hdn_X6_isOn ⟨Nat.le_of_ble_eq_true rfl, Nat.le_of_ble_eq_true rfl⟩) (g_preS wP wD wK [] (by decide) rfl) rfl rfl wl.1 rfl (lv_room (Nat.le_of_ble_eq_true rfl)) dX6_alike_157 ⟨Nat.le_of_ble_eq_true rfl, Nat.le_of_ble_eq_true rfl⟩) wP wS (fun H locs wP wS => ?_)
                  refine b_if_eq (tgt := 184) xX xB dX6_alike_160 (by decide) (fun h160 => ?_) (fun h160 => ?_)
                  · skip
                    refine z_iconst xX xB dX6_alike_184 ?_
                    refine lv_ri (y := bI false) rfl ?_
                    exact J16 false (by first | (unfold alT; rw [h150, h160]; rfl) | (unfold alT; rw [h150, h160, show (16 * ((i : Int) / 16 + ((selD P m8 q : Int) / 16 - (selD P m8 p : Int) / 16)) + ((i : Int) % 16 + ((selD P m8 q : Int) % 16 - (selD P m8 p : Int) % 16))).toNat = tx by rw [htx]; rfl, h177]; rfl)) _ _ _ wP wD wS (lv_sub wl [0, 1, 2, 3, 4, 5, 6, 7, 8] rfl)
                  · skip
                    refine lv_aload_n xX xB dX6_alike_163 rfl (lv_at wl 2 rfl) ?_
                    refine z_bipush xX xB dX6_alike_164 (by decide) ?_
                    refine lv_iload xX xB dX6_alike_166 (lv_at wl 1 rfl) ?_
                    refine z_imul xX xB dX6_alike_168 ?_
                    refine lv_iload xX xB dX6_alike_169 (lv_at wl 0 rfl) ?_
                    refine z_iadd xX xB dX6_alike_171 ?_
                    have hon := of_decide_eq_true h160
                    obtain ⟨tx, htx⟩ : ∃ tx : Nat, (16 * (((i : Int) / 16) + ((selD P m8 q : Int) / 16 - (selD P m8 p : Int) / 16))) + (((i : Int) % 16) + ((selD P m8 q : Int) % 16 - (selD P m8 p : Int) % 16)) = (tx : Int) := ⟨((16 * (((i : Int) / 16) + ((selD P m8 q : Int) / 16 - (selD P m8 p : Int) / 16))) + (((i : Int) % 16) + ((selD P m8 q : Int) % 16 - (selD P m8 p : Int) % 16))).toNat, by omega⟩
                    refine lv_ri (y := zI (tx : Int)) (congrArg zI htx) ?_
                    refine z_iconst xX xB dX6_alike_172 ?_
                    refine lv_iload_n xX xB dX6_alike_173 rfl (lv_at wl 4 rfl) ?_
                    refine g_pure (va_runV (As := [.int (zI (tx : Int)), .int (zI 1), .int (zI (q : Int))]) (rest := []) ⟨xX, xB, xM, xO, xT⟩ (c_X6_isOf l D kI kB h a0 a1 a3 a4 a8 a9 a10 a13 a14 a15 a16 sd (um : Int) (ua : Int) F P m8 NU1_1 DF1_3 LF1_4 HA1_5 tx (selD P m8 q) true q hF hc5 (by omega) hR2 hD2.1 hD2.2 (by rw [hcD2]; rfl)) (cwV 3 xT gX6_alike_X6_isOf rfl rfl rfl hd_X6_isOf ⟨Nat.le_of_ble_eq_true rfl, Nat.le_of_ble_eq_true rfl⟩) (g_preV (ci := 6) (q0 := 0) wP wD wK [0, 1, 2, 4, 5, 6] (by decide) rfl rfl rfl) rfl rfl wl.1 rfl (lv_room (Nat.le_of_ble_eq_true rfl)) dX6_alike_174 ⟨Nat.le_of_ble_eq_true rfl, Nat.le_of_ble_eq_true rfl⟩) wP wS (fun H locs wP wS => ?_)
                    refine b_if_eq (tgt := 184) xX xB dX6_alike_177 (by decide) (fun h177 => ?_) (fun h177 => ?_)
                    · skip
                      refine z_iconst xX xB dX6_alike_184 ?_
                      refine lv_ri (y := bI false) rfl ?_
                      exact J16 false (by first | (unfold alT; rw [h150, h160]; rfl) | (unfold alT; rw [h150, h160, show (16 * ((i : Int) / 16 + ((selD P m8 q : Int) / 16 - (selD P m8 p : Int) / 16)) + ((i : Int) % 16 + ((selD P m8 q : Int) % 16 - (selD P m8 p : Int) % 16))).toNat = tx by rw [htx]; rfl, h177]; rfl)) _ _ _ wP wD wS (lv_sub wl [0, 1, 2, 3, 4, 5, 6, 7, 8] rfl)
                    · skip
                      refine z_iconst xX xB dX6_alike_180 ?_
                      refine lv_goto (tgt := 185) xX xB dX6_alike_181 (by decide) ?_
                      refine lv_ri (y := bI true) rfl ?_
                      exact J16 true (by first | (unfold alT; rw [h150]; rfl) | (unfold alT; rw [h150, h160, show (16 * ((i : Int) / 16 + ((selD P m8 q : Int) / 16 - (selD P m8 p : Int) / 16)) + ((i : Int) % 16 + ((selD P m8 q : Int) % 16 - (selD P m8 p : Int) % 16))).toNat = tx by rw [htx]; rfl, h177]; rfl)) _ _ _ wP wD wS (lv_sub wl [0, 1, 2, 3, 4, 5, 6, 7, 8] rfl)
        exact K _ 0 (decide (((szR P m8 (selD P m8 p) : Nat) : Int) = ((szR P m8 (selD P m8 q) : Nat) : Int))) (Nat.lt_succ_self _) (by omega) rfl _ _ _ wP wD wS (lv_sub wl [4, 5, 6, 3, 2, 1, 0] rfl)
      · exact absurd h38 (by omega)
