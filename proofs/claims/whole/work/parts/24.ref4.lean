set_option maxRecDepth 20000 in
theorem in_X6_isOf_X6 : ∀ w ∈ u_ws RX6 TX6 17, w ∈ wsX6_isOf := by decide +kernel
set_option maxRecDepth 20000 in
theorem in_X6_lightOf_X6 : ∀ w ∈ u_ws RX6 TX6 17, w ∈ wsX6_lightOf := by decide +kernel
set_option maxRecDepth 20000 in
theorem in_X6_liesIn_X6 : ∀ w ∈ u_ws RX6 TX6 17, w ∈ wsX6_liesIn := by decide +kernel
set_option maxRecDepth 20000 in
theorem in_X6_partOf_X6 : ∀ w ∈ u_ws RX6 TX6 17, w ∈ wsX6_partOf := by decide +kernel
set_option maxRecDepth 20000 in
theorem in_X6_holesOf_X6 : ∀ w ∈ u_ws RX6 TX6 17, w ∈ wsX6_holesOf := by decide +kernel
set_option maxRecDepth 20000 in
theorem in_X6_partsIn_X6 : ∀ w ∈ u_ws RX6 TX6 17, w ∈ wsX6_partsIn := by decide +kernel
set_option maxRecDepth 20000 in
theorem in_X6_largest_X6 : ∀ w ∈ u_ws RX6 TX6 17, w ∈ wsX6_largest := by decide +kernel
set_option maxRecDepth 20000 in
theorem in_X6_partsOf_X6 : ∀ w ∈ u_ws RX6 TX6 17, w ∈ wsX6_partsOf := by decide +kernel
theorem hd_X6_isOf : yX6_isOf.cls = RX6 ∧ yX6_isOf.cls ≠ "java/lang/invoke/MethodHandle" ∧ yX6_isOf.cls ≠ "java/lang/invoke/VarHandle" ∧ (parseMethodDescriptor yX6_isOf.desc).map (fun d => d.parameters.length) = some 3 := by decide +kernel
theorem hd_X6_lightOf : yX6_lightOf.cls = RX6 ∧ yX6_lightOf.cls ≠ "java/lang/invoke/MethodHandle" ∧ yX6_lightOf.cls ≠ "java/lang/invoke/VarHandle" ∧ (parseMethodDescriptor yX6_lightOf.desc).map (fun d => d.parameters.length) = some 1 := by decide +kernel
theorem hd_X6_liesIn : yX6_liesIn.cls = RX6 ∧ yX6_liesIn.cls ≠ "java/lang/invoke/MethodHandle" ∧ yX6_liesIn.cls ≠ "java/lang/invoke/VarHandle" ∧ (parseMethodDescriptor yX6_liesIn.desc).map (fun d => d.parameters.length) = some 1 := by decide +kernel
theorem hd_X6_partOf : yX6_partOf.cls = RX6 ∧ yX6_partOf.cls ≠ "java/lang/invoke/MethodHandle" ∧ yX6_partOf.cls ≠ "java/lang/invoke/VarHandle" ∧ (parseMethodDescriptor yX6_partOf.desc).map (fun d => d.parameters.length) = some 1 := by decide +kernel
theorem hd_X6_sidesOf : yX6_sidesOf.cls = RX6 ∧ yX6_sidesOf.cls ≠ "java/lang/invoke/MethodHandle" ∧ yX6_sidesOf.cls ≠ "java/lang/invoke/VarHandle" ∧ (parseMethodDescriptor yX6_sidesOf.desc).map (fun d => d.parameters.length) = some 1 := by decide +kernel
theorem hd_X6_sizeOf : yX6_sizeOf.cls = RX6 ∧ yX6_sizeOf.cls ≠ "java/lang/invoke/MethodHandle" ∧ yX6_sizeOf.cls ≠ "java/lang/invoke/VarHandle" ∧ (parseMethodDescriptor yX6_sizeOf.desc).map (fun d => d.parameters.length) = some 2 := by decide +kernel
theorem hd_X6_parts : yX6_parts.cls = RX6 ∧ yX6_parts.cls ≠ "java/lang/invoke/MethodHandle" ∧ yX6_parts.cls ≠ "java/lang/invoke/VarHandle" ∧ (parseMethodDescriptor yX6_parts.desc).map (fun d => d.parameters.length) = some 1 := by decide +kernel
set_option maxHeartbeats 4000000 in
set_option maxRecDepth 100000 in
theorem c_X6_isOf (l : Launch) (D : va_G) (kI kB : ClassId) (h : Nat) (a0 : Nat) (a1 : Nat) (a3 : Nat) (a4 : Nat) (a8 : Nat) (a9 : Nat) (a10 : Nat) (a13 : Nat) (a14 : Nat) (a15 : Nat) (a16 : Nat) (sd : Int) (uM : Int) (uA : Int) (F : Nat → Int) (P : Nat → Nat) (m8 : Bool) (NU : Nat → Int) (DF : Nat → Int) (LF : Nat → Int) (HA : Nat → Int) (x : Nat) (R : Nat) (cl : Bool) (num : Nat) (hF : Pic F P) (hL : Lab P m8 NU DF LF HA) (hx : x < 256) (hR : R < 256) (hr : rp P m8 R = R) (hc : dk P R = cl) (hnm : num = if cl then cD P m8 R else cL P m8 R) : gI l yX6_isOf wsX6_isOf ({ frames := 2, cells := 0, slots := 0, locals := 42 } : Room) D kI kB [.ref h, .int (zI (x : Int)), .int (bI cl), .int (zI (num : Int))] [(h, .inr (6, [.ref a0, .ref a1, .int (zI sd), .ref a3, .ref a4, .int (zI ((cD P m8 256 : Nat) : Int)), .int (zI ((cL P m8 256 : Nat) : Int)), .int (zI ((cH P m8 256 : Nat) : Int)), .ref a8, .ref a9, .ref a10, .int (zI uM), .int (zI uA), .ref a13, .ref a14, .ref a15, .ref a16])), (a0, .inl (kI, 17, .inl (aZ F))), (a3, .inl (kI, 256, .inl (aZ NU))), (a8, .inl (kI, 128, .inl (aZ DF))), (a9, .inl (kI, 128, .inl (aZ LF))), (a10, .inl (kI, 128, .inl (aZ HA)))] (bI (cb (rp P m8 x = R))) := by
  refine g_start (cc := cX6_isOf) (maxL := 4) (ret := (some .boolean)) (by decide) rfl (Nat.le_of_ble_eq_true rfl) ?_
  intro xp xe xs xm xbl xmt xc xX xB xR xM xT xO xL xN wP wD wK ls wl
  have wS : va_S (fun _ => False) xs.heap xs.heap [] := va_S.rf
  have wl : lv_has ls 4 [(0, .ref h), (1, .int (zI (x : Int))), (2, .int (bI cl)), (3, .int (zI (num : Int)))] := wl
  have hnb : num ≤ 128 := by rw [hnm]; have h1 := cD_le (P := P) (m8 := m8) (n := R) (by omega); have h2 := cL_le (P := P) (m8 := m8) (n := R) (by omega); cases cl <;> simp <;> assumption
  refine lv_aload_n xX xB dX6_isOf_0 rfl (lv_at wl 0 rfl) ?_
  refine va_get (D := D) (ci := 6) (v := .ref a0) (C := RX6) (T := TX6) (N := 17) xX xB xT in_X6_isOf_X6 xO wK.1 wP 0 rfl rfl 0 (by decide) (xT _ (List.mem_of_getElem? (i := 1) rfl)) (fun _ h9 => h9) rfl dX6_isOf_1 ?_
  refine lv_iload_n xX xB dX6_isOf_4 rfl (lv_at wl 1 rfl) ?_
  refine g_pure (va_runS (As := [.ref a0, .int (zI (x : Int))]) (rest := []) ⟨xX, xB, xM, xO, xT⟩ (c_X6_isDark l D kI kB a0 F P x hF hx) (va_cwS 2 xT gX6_isOf_X6_isDark rfl rfl rfl hdn_X6_isDark ⟨Nat.le_of_ble_eq_true rfl, Nat.le_of_ble_eq_true rfl⟩) (g_preS wP wD wK [1] (by decide) rfl) rfl rfl wl.1 rfl (lv_room (Nat.le_of_ble_eq_true rfl)) dX6_isOf_5 ⟨Nat.le_of_ble_eq_true rfl, Nat.le_of_ble_eq_true rfl⟩) wP wS (fun H locs wP wS => ?_)
  refine lv_iload_n xX xB dX6_isOf_8 rfl (lv_at wl 2 rfl) ?_
  refine b_icmp_ne (tgt := 26) xX xB dX6_isOf_9 (by decide) (fun h9 => ?_) (fun h9 => ?_)
  · skip
    refine z_iconst xX xB dX6_isOf_26 ?_
    refine lv_ri (y := bI false) rfl ?_
    exact g_zret xX xB xR xL wS dX6_isOf_27 (cb_f.mpr (fun z => h9 ((hL.of hx hR hr hc hnm).mpr z).1)).symm
  · skip
    refine lv_aload_n xX xB dX6_isOf_12 rfl (lv_at wl 0 rfl) ?_
    refine va_get (D := D) (ci := 6) (v := .ref a3) (C := RX6) (T := TX6) (N := 17) xX xB xT in_X6_isOf_X6 xO wK.1 wP 0 rfl rfl 3 (by decide) (xT _ (List.mem_of_getElem? (i := 2) rfl)) (fun _ h9 => h9) rfl dX6_isOf_13 ?_
    refine lv_iload_n xX xB dX6_isOf_16 rfl (lv_at wl 1 rfl) ?_
    refine z_iald xX xB wK wP 2 rfl x rfl (by omega) (Nat.le_of_ble_eq_true rfl) dX6_isOf_17 ?_
    refine lv_iload_n xX xB dX6_isOf_18 rfl (lv_at wl 3 rfl) ?_
    refine t_icmp_ne xX xB dX6_isOf_19 dX6_isOf_22 dX6_isOf_23 dX6_isOf_26 (by have := hL.bd hx; omega) (by omega) ?_
    exact g_zret xX xB xR xL wS dX6_isOf_27 (b_ext' (by rw [cb_t, ← hL.of hx hR hr hc hnm, decide_eq_true_eq]; exact ⟨fun z => ⟨h9, z⟩, fun z => z.2⟩))

set_option maxHeartbeats 4000000 in
set_option maxRecDepth 100000 in
theorem c_X6_sizeOf (l : Launch) (D : va_G) (kI kB : ClassId) (h : Nat) (a0 : Nat) (a1 : Nat) (a3 : Nat) (a4 : Nat) (a8 : Nat) (a9 : Nat) (a10 : Nat) (a13 : Nat) (a14 : Nat) (a15 : Nat) (a16 : Nat) (sd : Int) (uM : Int) (uA : Int) (F : Nat → Int) (P : Nat → Nat) (m8 : Bool) (NU : Nat → Int) (DF : Nat → Int) (LF : Nat → Int) (HA : Nat → Int) (R : Nat) (cl : Bool) (num : Nat) (hF : Pic F P) (hL : Lab P m8 NU DF LF HA) (hR : R < 256) (hr : rp P m8 R = R) (hc : dk P R = cl) (hnm : num = if cl then cD P m8 R else cL P m8 R) : gI l yX6_sizeOf wsX6_sizeOf ({ frames := 3, cells := 0, slots := 0, locals := 65 } : Room) D kI kB [.ref h, .int (bI cl), .int (zI (num : Int))] [(h, .inr (6, [.ref a0, .ref a1, .int (zI sd), .ref a3, .ref a4, .int (zI ((cD P m8 256 : Nat) : Int)), .int (zI ((cL P m8 256 : Nat) : Int)), .int (zI ((cH P m8 256 : Nat) : Int)), .ref a8, .ref a9, .ref a10, .int (zI uM), .int (zI uA), .ref a13, .ref a14, .ref a15, .ref a16])), (a0, .inl (kI, 17, .inl (aZ F))), (a3, .inl (kI, 256, .inl (aZ NU))), (a8, .inl (kI, 128, .inl (aZ DF))), (a9, .inl (kI, 128, .inl (aZ LF))), (a10, .inl (kI, 128, .inl (aZ HA)))] (zI ((szR P m8 R : Nat) : Int)) := by
  refine g_start (cc := cX6_sizeOf) (maxL := 5) (ret := (some .int)) (by decide) rfl (Nat.le_of_ble_eq_true rfl) ?_
  intro xp xe xs xm xbl xmt xc xX xB xR xM xT xO xL xN wP wD wK ls wl
  have wS : va_S (fun _ => False) xs.heap xs.heap [] := va_S.rf
  have wl : lv_has ls 5 [(0, .ref h), (1, .int (bI cl)), (2, .int (zI (num : Int)))] := wl
  generalize hQ : MQ xbl _ _ xs 0 0 _ = xQ
  refine z_iconst xX xB dX6_sizeOf_0 ?_
  refine lv_istore_n (lv' := [(3, .int (zI 0)), (0, .ref h), (1, .int (bI cl)), (2, .int (zI (num : Int)))]) xX xB dX6_sizeOf_1 rfl wl (by decide) rfl (fun ls wl => ?_)
  refine z_iconst xX xB dX6_sizeOf_2 ?_
  refine lv_istore (lv' := [(4, .int (zI 0)), (3, .int (zI 0)), (0, .ref h), (1, .int (bI cl)), (2, .int (zI (num : Int)))]) xX xB dX6_sizeOf_3 wl (by decide) rfl (fun ls wl => ?_)
  have K : ∀ n_ : Nat, ∀ (i : Nat) (t : Nat), 256 - i < n_ → (i ≤ 256) → (t = fb_ct (fun x => cb (rp P m8 x = R)) i) → ∀ (H : Heap) (locs : List Loc) (ls : Array Slot), va_P D gC [(h, .inr (6, [.ref a0, .ref a1, .int (zI sd), .ref a3, .ref a4, .int (zI ((cD P m8 256 : Nat) : Int)), .int (zI ((cL P m8 256 : Nat) : Int)), .int (zI ((cH P m8 256 : Nat) : Int)), .ref a8, .ref a9, .ref a10, .int (zI uM), .int (zI uA), .ref a13, .ref a14, .ref a15, .ref a16])), (a0, .inl (kI, 17, .inl (aZ F))), (a3, .inl (kI, 256, .inl (aZ NU))), (a8, .inl (kI, 128, .inl (aZ DF))), (a9, .inl (kI, 128, .inl (aZ LF))), (a10, .inl (kI, 128, .inl (aZ HA)))] H → va_S (fun _ => False) xs.heap H locs → lv_has ls 5 [(0, .ref h), (1, .int (bI cl)), (2, .int (zI (num : Int))), (3, .int (zI (t : Int))), (4, .int (zI (i : Int)))] → W xp l xe ({ frames := 3, cells := 0, slots := 0, locals := 65 } : Room) xs xm (List.toArray [.ref h, .int (bI cl), .int (zI (num : Int))]) xbl xmt xc H locs 0 0 xQ (F0 xm 5 ls []) := by
    intro n_
    induction n_ with
    | zero =>
      intro i t hme
      exact absurd hme (Nat.not_lt_zero _)
    | succ n_ ihK =>
      intro i t hme hi ht H locs ls wP wS wl
      have hbd := fb_ct_le (fun x => cb (rp P m8 x = R)) i
      refine lv_iload xX xB dX6_sizeOf_5 (lv_at wl 4 rfl) ?_
      refine z_sipush xX xB dX6_sizeOf_7 (by decide) ?_
      refine z_icmp_ge (tgt := 38) xX xB dX6_sizeOf_10 (by decide) (by omega) (by omega) (fun h10 => ?_) (fun h10 => ?_)
      · skip
        refine lv_iload_n xX xB dX6_sizeOf_38 rfl (lv_at wl 3 rfl) ?_
        subst hQ
        exact g_iret xX xB xR xL wS dX6_sizeOf_39 (congrArg (fun z : Nat => zI (z : Int)) (by rw [ht, show i = 256 by omega]; rfl))
      · skip
        refine lv_iload_n xX xB dX6_sizeOf_13 rfl (lv_at wl 3 rfl) ?_
        refine lv_aload_n xX xB dX6_sizeOf_14 rfl (lv_at wl 0 rfl) ?_
        refine lv_iload xX xB dX6_sizeOf_15 (lv_at wl 4 rfl) ?_
        refine lv_iload_n xX xB dX6_sizeOf_17 rfl (lv_at wl 1 rfl) ?_
        refine lv_iload_n xX xB dX6_sizeOf_18 rfl (lv_at wl 2 rfl) ?_
        refine g_pure (va_runV (As := [.int (zI (i : Int)), .int (bI cl), .int (zI (num : Int))]) (rest := [.int (zI (t : Int))]) ⟨xX, xB, xM, xO, xT⟩ (c_X6_isOf l D kI kB h a0 a1 a3 a4 a8 a9 a10 a13 a14 a15 a16 sd uM uA F P m8 NU DF LF HA i R cl num hF hL (by omega) hR hr hc hnm) (cwV 3 xT gX6_sizeOf_X6_isOf rfl rfl rfl hd_X6_isOf ⟨Nat.le_of_ble_eq_true rfl, Nat.le_of_ble_eq_true rfl⟩) (g_preV (ci := 6) (q0 := 0) wP wD wK [0, 1, 2, 3, 4, 5] (by decide) rfl rfl rfl) rfl rfl wl.1 rfl (lv_room (Nat.le_of_ble_eq_true rfl)) dX6_sizeOf_19 ⟨Nat.le_of_ble_eq_true rfl, Nat.le_of_ble_eq_true rfl⟩) wP wS (fun H locs wP wS => ?_)
        refine t_b_eq xX xB dX6_sizeOf_22 dX6_sizeOf_25 dX6_sizeOf_26 dX6_sizeOf_29 ?_
        refine lv_ri (bI_Z _) ?_
        refine z_iadd xX xB dX6_sizeOf_30 ?_
        refine lv_istore_n (lv' := [(3, .int (zI ((t : Int) + ((bZ (cb (rp P m8 i = R)) : Nat) : Int)))), (0, .ref h), (1, .int (bI cl)), (2, .int (zI (num : Int))), (4, .int (zI (i : Int)))]) xX xB dX6_sizeOf_31 rfl wl (by decide) rfl (fun ls wl => ?_)
        refine lv_iinc (v := zI ((i : Int) + 1)) (lv' := [(4, .int (zI ((i : Int) + 1))), (3, .int (zI ((t : Int) + ((bZ (cb (rp P m8 i = R)) : Nat) : Int)))), (0, .ref h), (1, .int (bI cl)), (2, .int (zI (num : Int)))]) xX xB dX6_sizeOf_32 wl (k := 4) rfl (zI_add _ _) (by decide) rfl (fun ls wl => ?_)
        refine lv_goto (tgt := 5) xX xB dX6_sizeOf_35 (by decide) ?_
        exact ihK (i + 1) (t + (bZ (cb (rp P m8 i = R)))) (by omega) (by omega) (by rw [ht]; rfl) _ _ _ wP wS (lv_sub wl [2, 3, 4, 1, 0] rfl)
  exact K _ 0 0 (Nat.lt_succ_self _) (by omega) rfl _ _ _ wP wS (lv_sub wl [2, 3, 4, 1, 0] rfl)

set_option maxHeartbeats 4000000 in
set_option maxRecDepth 100000 in
theorem c_X6_lightOf (l : Launch) (D : va_G) (kI kB : ClassId) (h : Nat) (a0 : Nat) (a1 : Nat) (a3 : Nat) (a4 : Nat) (a8 : Nat) (a9 : Nat) (a10 : Nat) (a13 : Nat) (a14 : Nat) (a15 : Nat) (a16 : Nat) (sd : Int) (uM : Int) (uA : Int) (F : Nat → Int) (P : Nat → Nat) (m8 : Bool) (NU : Nat → Int) (DF : Nat → Int) (LF : Nat → Int) (HA : Nat → Int) (k : Nat) (hF : Pic F P) (hL : Lab P m8 NU DF LF HA) (hk : k < cH P m8 256) : gI l yX6_lightOf wsX6_lightOf ({ frames := 0, cells := 0, slots := 0, locals := 0 } : Room) D kI kB [.ref h, .int (zI (k : Int))] [(h, .inr (6, [.ref a0, .ref a1, .int (zI sd), .ref a3, .ref a4, .int (zI ((cD P m8 256 : Nat) : Int)), .int (zI ((cL P m8 256 : Nat) : Int)), .int (zI ((cH P m8 256 : Nat) : Int)), .ref a8, .ref a9, .ref a10, .int (zI uM), .int (zI uA), .ref a13, .ref a14, .ref a15, .ref a16])), (a0, .inl (kI, 17, .inl (aZ F))), (a3, .inl (kI, 256, .inl (aZ NU))), (a8, .inl (kI, 128, .inl (aZ DF))), (a9, .inl (kI, 128, .inl (aZ LF))), (a10, .inl (kI, 128, .inl (aZ HA)))] (zI ((cL P m8 (selH P m8 k) : Nat) : Int)) := by
  refine g_start (cc := cX6_lightOf) (maxL := 3) (ret := (some .int)) (by decide) rfl (Nat.le_of_ble_eq_true rfl) ?_
  intro xp xe xs xm xbl xmt xc xX xB xR xM xT xO xL xN wP wD wK ls wl
  have wS : va_S (fun _ => False) xs.heap xs.heap [] := va_S.rf
  have wl : lv_has ls 3 [(0, .ref h), (1, .int (zI (k : Int)))] := wl
  generalize hQ : MQ xbl _ _ xs 0 0 _ = xQ
  obtain ⟨hH, hh, hcH⟩ := selH_spec hk
  have hlt := cL_lt hH hh.1
  have hb := cL_128 (P := P) (m8 := m8)
  have hb2 := cH_le (P := P) (m8 := m8) (n := 256) (by omega)
  refine z_iconst xX xB dX6_lightOf_0 ?_
  refine lv_istore_n (lv' := [(2, .int (zI 0)), (0, .ref h), (1, .int (zI (k : Int)))]) xX xB dX6_lightOf_1 rfl wl (by decide) rfl (fun ls wl => ?_)
  have K : ∀ n_ : Nat, ∀ (j : Nat), 200 - j < n_ → (j ≤ cL P m8 (selH P m8 k)) → ∀ (H : Heap) (locs : List Loc) (ls : Array Slot), va_P D gC [(h, .inr (6, [.ref a0, .ref a1, .int (zI sd), .ref a3, .ref a4, .int (zI ((cD P m8 256 : Nat) : Int)), .int (zI ((cL P m8 256 : Nat) : Int)), .int (zI ((cH P m8 256 : Nat) : Int)), .ref a8, .ref a9, .ref a10, .int (zI uM), .int (zI uA), .ref a13, .ref a14, .ref a15, .ref a16])), (a0, .inl (kI, 17, .inl (aZ F))), (a3, .inl (kI, 256, .inl (aZ NU))), (a8, .inl (kI, 128, .inl (aZ DF))), (a9, .inl (kI, 128, .inl (aZ LF))), (a10, .inl (kI, 128, .inl (aZ HA)))] H → va_S (fun _ => False) xs.heap H locs → lv_has ls 3 [(0, .ref h), (1, .int (zI (k : Int))), (2, .int (zI (j : Int)))] → W xp l xe ({ frames := 0, cells := 0, slots := 0, locals := 0 } : Room) xs xm (List.toArray [.ref h, .int (zI (k : Int))]) xbl xmt xc H locs 0 0 xQ (F0 xm 2 ls []) := by
    intro n_
    induction n_ with
    | zero =>
      intro j hme
      exact absurd hme (Nat.not_lt_zero _)
    | succ n_ ihK =>
      intro j hme hj H locs ls wP wS wl
      refine lv_aload_n xX xB dX6_lightOf_2 rfl (lv_at wl 0 rfl) ?_
      refine va_get (D := D) (ci := 6) (v := .ref a10) (C := RX6) (T := TX6) (N := 17) xX xB xT in_X6_lightOf_X6 xO wK.1 wP 0 rfl rfl 10 (by decide) (xT _ (List.mem_of_getElem? (i := 1) rfl)) (fun _ h9 => h9) rfl dX6_lightOf_3 ?_
      refine lv_iload_n xX xB dX6_lightOf_6 rfl (lv_at wl 2 rfl) ?_
      refine z_iald xX xB wK wP 5 rfl j rfl (by omega) (Nat.le_of_ble_eq_true rfl) dX6_lightOf_7 ?_
      refine lv_iload_n xX xB dX6_lightOf_8 rfl (lv_at wl 1 rfl) ?_
      refine z_icmp_eq (tgt := 18) xX xB dX6_lightOf_9 (by decide) (by have := hL.ha (j := j) (by omega); omega) (by omega) (fun h9 => ?_) (fun h9 => ?_)
      · skip
        refine lv_iload_n xX xB dX6_lightOf_18 rfl (lv_at wl 2 rfl) ?_
        subst hQ
        exact g_iret xX xB xR xL wS dX6_lightOf_19 (congrArg (fun z : Nat => zI (z : Int)) (hL.hole hH hh hj (by rw [hcH]; exact h9)))
      · skip
        have hjl : j < cL P m8 (selH P m8 k) := Nat.lt_of_le_of_ne hj (fun z => h9 (by rw [z, hL.haH hH hh, hcH]))
        refine lv_iinc (v := zI ((j : Int) + 1)) (lv' := [(2, .int (zI ((j : Int) + 1))), (0, .ref h), (1, .int (zI (k : Int)))]) xX xB dX6_lightOf_12 wl (k := 2) rfl (zI_add _ _) (by decide) rfl (fun ls wl => ?_)
        refine lv_goto (tgt := 2) xX xB dX6_lightOf_15 (by decide) ?_
        exact ihK (j + 1) (by omega) hjl _ _ _ wP wS (lv_sub wl [1, 2, 0] rfl)
  exact K _ 0 (Nat.lt_succ_self _) (by omega) _ _ _ wP wS (lv_sub wl [1, 2, 0] rfl)

set_option maxHeartbeats 4000000 in
set_option maxRecDepth 100000 in
theorem c_X6_liesIn (l : Launch) (D : va_G) (kI kB : ClassId) (h : Nat) (a0 : Nat) (a1 : Nat) (a3 : Nat) (a4 : Nat) (a8 : Nat) (a9 : Nat) (a10 : Nat) (a13 : Nat) (a14 : Nat) (a15 : Nat) (a16 : Nat) (sd : Int) (uM : Int) (uA : Int) (F : Nat → Int) (P : Nat → Nat) (m8 : Bool) (NU : Nat → Int) (DF : Nat → Int) (LF : Nat → Int) (HA : Nat → Int) (p : Nat) (hF : Pic F P) (hL : Lab P m8 NU DF LF HA) (hp : p < cD P m8 256) : gI l yX6_liesIn wsX6_liesIn ({ frames := 0, cells := 0, slots := 0, locals := 0 } : Room) D kI kB [.ref h, .int (zI (p : Int))] [(h, .inr (6, [.ref a0, .ref a1, .int (zI sd), .ref a3, .ref a4, .int (zI ((cD P m8 256 : Nat) : Int)), .int (zI ((cL P m8 256 : Nat) : Int)), .int (zI ((cH P m8 256 : Nat) : Int)), .ref a8, .ref a9, .ref a10, .int (zI uM), .int (zI uA), .ref a13, .ref a14, .ref a15, .ref a16])), (a0, .inl (kI, 17, .inl (aZ F))), (a3, .inl (kI, 256, .inl (aZ NU))), (a8, .inl (kI, 128, .inl (aZ DF))), (a9, .inl (kI, 128, .inl (aZ LF))), (a10, .inl (kI, 128, .inl (aZ HA)))] (zI (lieR P m8 (selD P m8 p))) := by
  refine g_start (cc := cX6_liesIn) (maxL := 3) (ret := (some .int)) (by decide) rfl (Nat.le_of_ble_eq_true rfl) ?_
  intro xp xe xs xm xbl xmt xc xX xB xR xM xT xO xL xN wP wD wK ls wl
  have wS : va_S (fun _ => False) xs.heap xs.heap [] := va_S.rf
  have wl : lv_has ls 3 [(0, .ref h), (1, .int (zI (p : Int)))] := wl
  obtain ⟨hR, hD, hcD⟩ := selD_spec hp
  have hpb := cD_128 (P := P) (m8 := m8)
  refine lv_aload_n xX xB dX6_liesIn_0 rfl (lv_at wl 0 rfl) ?_
  refine va_get (D := D) (ci := 6) (v := .ref a8) (C := RX6) (T := TX6) (N := 17) xX xB xT in_X6_liesIn_X6 xO wK.1 wP 0 rfl rfl 8 (by decide) (xT _ (List.mem_of_getElem? (i := 1) rfl)) (fun _ h9 => h9) rfl dX6_liesIn_1 ?_
  refine lv_iload_n xX xB dX6_liesIn_4 rfl (lv_at wl 1 rfl) ?_
  refine z_iald xX xB wK wP 3 rfl p rfl (by omega) (Nat.le_of_ble_eq_true rfl) dX6_liesIn_5 ?_
  refine lv_ri (y := zI (selD P m8 p : Int)) (congrArg zI (by have e := hL.df hR hD; rw [hcD] at e; exact e)) ?_
  refine z_bipush xX xB dX6_liesIn_6 (by decide) ?_
  refine z_isub xX xB dX6_liesIn_8 ?_
  refine lv_istore_n (lv' := [(2, .int (zI (((selD P m8 p : Nat) : Int) - 16))), (0, .ref h), (1, .int (zI (p : Int)))]) xX xB dX6_liesIn_9 rfl wl (by decide) rfl (fun ls wl => ?_)
  refine lv_iload_n xX xB dX6_liesIn_10 rfl (lv_at wl 0 rfl) ?_
  refine z_if_ge (tgt := 18) xX xB dX6_liesIn_11 (by decide) (by omega) (fun h11 => ?_) (fun h11 => ?_)
  · skip
    refine lv_aload_n xX xB dX6_liesIn_18 rfl (lv_at wl 1 rfl) ?_
    refine va_get (D := D) (ci := 6) (v := .ref a10) (C := RX6) (T := TX6) (N := 17) xX xB xT in_X6_liesIn_X6 xO wK.1 wP 0 rfl rfl 10 (by decide) (xT _ (List.mem_of_getElem? (i := 2) rfl)) (fun _ h9 => h9) rfl dX6_liesIn_19 ?_
    refine lv_aload_n xX xB dX6_liesIn_22 rfl (lv_at wl 1 rfl) ?_
    refine va_get (D := D) (ci := 6) (v := .ref a3) (C := RX6) (T := TX6) (N := 17) xX xB xT in_X6_liesIn_X6 xO wK.1 wP 0 rfl rfl 3 (by decide) (xT _ (List.mem_of_getElem? (i := 3) rfl)) (fun _ h9 => h9) rfl dX6_liesIn_23 ?_
    refine lv_iload_n xX xB dX6_liesIn_26 rfl (lv_at wl 0 rfl) ?_
    refine z_iald xX xB wK wP 2 rfl (selD P m8 p - 16) (by omega) (by omega) (Nat.le_of_ble_eq_true rfl) dX6_liesIn_27 ?_
    obtain ⟨hq1, hq2, hq3⟩ := hL.lie hR hD (by omega)
    refine lv_ri (y := zI (cL P m8 (rp P m8 (selD P m8 p - 16)) : Int)) (congrArg zI hq1) ?_
    refine z_iald xX xB wK wP 5 rfl (cL P m8 (rp P m8 (selD P m8 p - 16))) rfl hq2 (Nat.le_of_ble_eq_true rfl) dX6_liesIn_28 ?_
    exact g_iret xX xB xR xL wS dX6_liesIn_29 (congrArg zI hq3)
  · skip
    refine z_iconst xX xB dX6_liesIn_14 ?_
    refine lv_goto (tgt := 29) xX xB dX6_liesIn_15 (by decide) ?_
    exact g_iret xX xB xR xL wS dX6_liesIn_29 (congrArg zI (by unfold lieR; rw [if_pos (by omega)]))

set_option maxHeartbeats 4000000 in
set_option maxRecDepth 100000 in
theorem c_X6_partOf (l : Launch) (D : va_G) (kI kB : ClassId) (h : Nat) (a0 : Nat) (a1 : Nat) (a3 : Nat) (a4 : Nat) (a8 : Nat) (a9 : Nat) (a10 : Nat) (a13 : Nat) (a14 : Nat) (a15 : Nat) (a16 : Nat) (sd : Int) (uM : Int) (uA : Int) (F : Nat → Int) (P : Nat → Nat) (m8 : Bool) (NU : Nat → Int) (DF : Nat → Int) (LF : Nat → Int) (HA : Nat → Int) (k : Nat) (hF : Pic F P) (hL : Lab P m8 NU DF LF HA) (hk : k < cH P m8 256) : gI l yX6_partOf wsX6_partOf ({ frames := 1, cells := 0, slots := 0, locals := 22 } : Room) D kI kB [.ref h, .int (zI (k : Int))] [(h, .inr (6, [.ref a0, .ref a1, .int (zI sd), .ref a3, .ref a4, .int (zI ((cD P m8 256 : Nat) : Int)), .int (zI ((cL P m8 256 : Nat) : Int)), .int (zI ((cH P m8 256 : Nat) : Int)), .ref a8, .ref a9, .ref a10, .int (zI uM), .int (zI uA), .ref a13, .ref a14, .ref a15, .ref a16])), (a0, .inl (kI, 17, .inl (aZ F))), (a3, .inl (kI, 256, .inl (aZ NU))), (a8, .inl (kI, 128, .inl (aZ DF))), (a9, .inl (kI, 128, .inl (aZ LF))), (a10, .inl (kI, 128, .inl (aZ HA)))] (zI ((cD P m8 (rp P m8 (selH P m8 k - 16)) : Nat) : Int)) := by
  refine g_start (cc := cX6_partOf) (maxL := 2) (ret := (some .int)) (by decide) rfl (Nat.le_of_ble_eq_true rfl) ?_
  intro xp xe xs xm xbl xmt xc xX xB xR xM xT xO xL xN wP wD wK ls wl
  have wS : va_S (fun _ => False) xs.heap xs.heap [] := va_S.rf
  have wl : lv_has ls 2 [(0, .ref h), (1, .int (zI (k : Int)))] := wl
  obtain ⟨hH, hh, hcH⟩ := selH_spec hk
  have hlt := cL_lt hH hh.1
  have hb := cL_128 (P := P) (m8 := m8)
  have h16 := isH_16 hH hh
  refine lv_aload_n xX xB dX6_partOf_0 rfl (lv_at wl 0 rfl) ?_
  refine va_get (D := D) (ci := 6) (v := .ref a3) (C := RX6) (T := TX6) (N := 17) xX xB xT in_X6_partOf_X6 xO wK.1 wP 0 rfl rfl 3 (by decide) (xT _ (List.mem_of_getElem? (i := 1) rfl)) (fun _ h9 => h9) rfl dX6_partOf_1 ?_
  refine lv_aload_n xX xB dX6_partOf_4 rfl (lv_at wl 0 rfl) ?_
  refine va_get (D := D) (ci := 6) (v := .ref a9) (C := RX6) (T := TX6) (N := 17) xX xB xT in_X6_partOf_X6 xO wK.1 wP 0 rfl rfl 9 (by decide) (xT _ (List.mem_of_getElem? (i := 2) rfl)) (fun _ h9 => h9) rfl dX6_partOf_5 ?_
  refine lv_aload_n xX xB dX6_partOf_8 rfl (lv_at wl 0 rfl) ?_
  refine lv_iload_n xX xB dX6_partOf_9 rfl (lv_at wl 1 rfl) ?_
  refine g_pure (va_runV (As := [.int (zI (k : Int))]) (rest := [.ref a9, .ref a3]) ⟨xX, xB, xM, xO, xT⟩ (c_X6_lightOf l D kI kB h a0 a1 a3 a4 a8 a9 a10 a13 a14 a15 a16 sd uM uA F P m8 NU DF LF HA k hF hL hk) (cwV 1 xT gX6_partOf_X6_lightOf rfl rfl rfl hd_X6_lightOf ⟨Nat.le_of_ble_eq_true rfl, Nat.le_of_ble_eq_true rfl⟩) (g_preV (ci := 6) (q0 := 0) wP wD wK [0, 1, 2, 3, 4, 5] (by decide) rfl rfl rfl) rfl rfl wl.1 rfl (lv_room (Nat.le_of_ble_eq_true rfl)) dX6_partOf_10 ⟨Nat.le_of_ble_eq_true rfl, Nat.le_of_ble_eq_true rfl⟩) wP wS (fun H locs wP wS => ?_)
  refine z_iald xX xB wK wP 4 rfl (cL P m8 (selH P m8 k)) (by omega) (by omega) (Nat.le_of_ble_eq_true rfl) dX6_partOf_13 ?_
  refine lv_ri (y := zI (selH P m8 k : Int)) (congrArg zI (hL.lf hH hh.1)) ?_
  refine z_bipush xX xB dX6_partOf_14 (by decide) ?_
  refine z_isub xX xB dX6_partOf_16 ?_
  refine z_iald xX xB wK wP 2 rfl (selH P m8 k - 16) (by omega) (by omega) (Nat.le_of_ble_eq_true rfl) dX6_partOf_17 ?_
  exact g_iret xX xB xR xL wS dX6_partOf_18 (congrArg zI (hL.numD (by omega) (by rw [above hH h16 hh.1.1, hh.1.2]; rfl)))

set_option maxHeartbeats 4000000 in
set_option maxRecDepth 100000 in
theorem c_X6_deep (l : Launch) (D : va_G) (kI kB : ClassId) (h : Nat) (a0 : Nat) (a1 : Nat) (a3 : Nat) (a4 : Nat) (a8 : Nat) (a9 : Nat) (a10 : Nat) (a13 : Nat) (a14 : Nat) (a15 : Nat) (a16 : Nat) (sd : Int) (uM : Int) (uA : Int) (F : Nat → Int) (P : Nat → Nat) (m8 : Bool) (NU : Nat → Int) (DF : Nat → Int) (LF : Nat → Int) (HA : Nat → Int) (p : Nat) (hF : Pic F P) (hL : Lab P m8 NU DF LF HA) (hp : p < cD P m8 256) : gI l yX6_deep wsX6_deep ({ frames := 2, cells := 0, slots := 0, locals := 43 } : Room) D kI kB [.ref h, .int (zI (p : Int))] [(h, .inr (6, [.ref a0, .ref a1, .int (zI sd), .ref a3, .ref a4, .int (zI ((cD P m8 256 : Nat) : Int)), .int (zI ((cL P m8 256 : Nat) : Int)), .int (zI ((cH P m8 256 : Nat) : Int)), .ref a8, .ref a9, .ref a10, .int (zI uM), .int (zI uA), .ref a13, .ref a14, .ref a15, .ref a16])), (a0, .inl (kI, 17, .inl (aZ F))), (a3, .inl (kI, 256, .inl (aZ NU))), (a8, .inl (kI, 128, .inl (aZ DF))), (a9, .inl (kI, 128, .inl (aZ LF))), (a10, .inl (kI, 128, .inl (aZ HA)))] (zI ((deepR P m8 (selD P m8 p) : Nat) : Int)) := by
  refine g_start (cc := cX6_deep) (maxL := 4) (ret := (some .int)) (by decide) rfl (Nat.le_of_ble_eq_true rfl) ?_
  intro xp xe xs xm xbl xmt xc xX xB xR xM xT xO xL xN wP wD wK ls wl
  have wS : va_S (fun _ => False) xs.heap xs.heap [] := va_S.rf
  have wl : lv_has ls 4 [(0, .ref h), (1, .int (zI (p : Int)))] := wl
  generalize hQ : MQ xbl _ _ xs 0 0 _ = xQ
  obtain ⟨hR, hD, hcD⟩ := selD_spec hp
  have hpb := cD_128 (P := P) (m8 := m8)
  refine z_iconst xX xB dX6_deep_0 ?_
  refine lv_istore_n (lv' := [(2, .int (zI 0)), (0, .ref h), (1, .int (zI (p : Int)))]) xX xB dX6_deep_1 rfl wl (by decide) rfl (fun ls wl => ?_)
  refine lv_iload_n xX xB dX6_deep_2 rfl (lv_at wl 2 rfl) ?_
  refine lv_istore_n (lv' := [(3, .int (zI (p : Int))), (2, .int (zI 0)), (0, .ref h), (1, .int (zI (p : Int)))]) xX xB dX6_deep_3 rfl wl (by decide) rfl (fun ls wl => ?_)
  have K : ∀ n_ : Nat, ∀ (t : Nat) (p1 : Nat), selD P m8 p1 < n_ → (p1 < cD P m8 256) → (t + deepR P m8 (selD P m8 p1) = deepR P m8 (selD P m8 p)) → ∀ (H : Heap) (locs : List Loc) (ls : Array Slot), va_P D gC [(h, .inr (6, [.ref a0, .ref a1, .int (zI sd), .ref a3, .ref a4, .int (zI ((cD P m8 256 : Nat) : Int)), .int (zI ((cL P m8 256 : Nat) : Int)), .int (zI ((cH P m8 256 : Nat) : Int)), .ref a8, .ref a9, .ref a10, .int (zI uM), .int (zI uA), .ref a13, .ref a14, .ref a15, .ref a16])), (a0, .inl (kI, 17, .inl (aZ F))), (a3, .inl (kI, 256, .inl (aZ NU))), (a8, .inl (kI, 128, .inl (aZ DF))), (a9, .inl (kI, 128, .inl (aZ LF))), (a10, .inl (kI, 128, .inl (aZ HA)))] H → va_S (fun _ => False) xs.heap H locs → lv_has ls 4 [(0, .ref h), (1, .int (zI (p : Int))), (2, .int (zI (t : Int))), (3, .int (zI (p1 : Int)))] → W xp l xe ({ frames := 2, cells := 0, slots := 0, locals := 43 } : Room) xs xm (List.toArray [.ref h, .int (zI (p : Int))]) xbl xmt xc H locs 0 0 xQ (F0 xm 4 ls []) := by
    intro n_
    induction n_ with
    | zero =>
      intro t p1 hme
      exact absurd hme (Nat.not_lt_zero _)
    | succ n_ ihK =>
      intro t p1 hme hp1 ht H locs ls wP wS wl
      obtain ⟨hR1, hD1, hcD1⟩ := selD_spec hp1
      have hb := dpN_le (P := P) (m8 := m8) 256 (selD P m8 p)
      have hst := deepR_step hR1 hD1
      have hrg := lieR_rng (P := P) (m8 := m8) hR1
      refine lv_aload_n xX xB dX6_deep_4 rfl (lv_at wl 0 rfl) ?_
      refine lv_iload_n xX xB dX6_deep_5 rfl (lv_at wl 3 rfl) ?_
      refine g_pure (va_runV (As := [.int (zI (p1 : Int))]) (rest := []) ⟨xX, xB, xM, xO, xT⟩ (c_X6_liesIn l D kI kB h a0 a1 a3 a4 a8 a9 a10 a13 a14 a15 a16 sd uM uA F P m8 NU DF LF HA p1 hF hL hp1) (cwV 1 xT gX6_deep_X6_liesIn rfl rfl rfl hd_X6_liesIn ⟨Nat.le_of_ble_eq_true rfl, Nat.le_of_ble_eq_true rfl⟩) (g_preV (ci := 6) (q0 := 0) wP wD wK [0, 1, 2, 3, 4, 5] (by decide) rfl rfl rfl) rfl rfl wl.1 rfl (lv_room (Nat.le_of_ble_eq_true rfl)) dX6_deep_6 ⟨Nat.le_of_ble_eq_true rfl, Nat.le_of_ble_eq_true rfl⟩) wP wS (fun H locs wP wS => ?_)
      refine z_iconst xX xB dX6_deep_9 ?_
      refine z_icmp_eq (tgt := 29) xX xB dX6_deep_10 (by decide) (by omega) (by omega) (fun h10 => ?_) (fun h10 => ?_)
      · skip
        refine lv_iload_n xX xB dX6_deep_29 rfl (lv_at wl 2 rfl) ?_
        subst hQ
        exact g_iret xX xB xR xL wS dX6_deep_30 (congrArg (fun z : Nat => zI (z : Int)) (by rw [if_pos h10] at hst; omega))
      · skip
        rw [if_neg h10] at hst
        obtain ⟨hq1, hq2, hq3, hq4⟩ := lieR_hole hR1 hD1 h10
        have hq0 := isD_above hq3 hq2
        have hqk := cH_lt hq3 hq2
        have hq5 : cD P m8 (rp P m8 (selH P m8 (cH P m8 (rp P m8 (selD P m8 p1 - 16))) - 16)) < cD P m8 256 := by rw [selH_cH hq3 hq2]; exact cD_lt hq0.2 hq0.1
        have hq6 : selD P m8 (cD P m8 (rp P m8 (selH P m8 (cH P m8 (rp P m8 (selD P m8 p1 - 16))) - 16))) = rp P m8 (rp P m8 (selD P m8 p1 - 16) - 16) := by rw [selH_cH hq3 hq2]; exact selD_cD hq0.2 hq0.1
        have hz1 := rp_self (P := P) (m8 := m8) (selD P m8 p1 - 16)
        have hz2 := rp_self (P := P) (m8 := m8) (rp P m8 (selD P m8 p1 - 16) - 16)
        have hz3 := isH_16 hq3 hq2
        refine lv_aload_n xX xB dX6_deep_13 rfl (lv_at wl 0 rfl) ?_
        refine lv_aload_n xX xB dX6_deep_14 rfl (lv_at wl 0 rfl) ?_
        refine lv_iload_n xX xB dX6_deep_15 rfl (lv_at wl 3 rfl) ?_
        refine g_pure (va_runV (As := [.int (zI (p1 : Int))]) (rest := [.ref h]) ⟨xX, xB, xM, xO, xT⟩ (c_X6_liesIn l D kI kB h a0 a1 a3 a4 a8 a9 a10 a13 a14 a15 a16 sd uM uA F P m8 NU DF LF HA p1 hF hL hp1) (cwV 1 xT gX6_deep_X6_liesIn rfl rfl rfl hd_X6_liesIn ⟨Nat.le_of_ble_eq_true rfl, Nat.le_of_ble_eq_true rfl⟩) (g_preV (ci := 6) (q0 := 0) wP wD wK [0, 1, 2, 3, 4, 5] (by decide) rfl rfl rfl) rfl rfl wl.1 rfl (lv_room (Nat.le_of_ble_eq_true rfl)) dX6_deep_16 ⟨Nat.le_of_ble_eq_true rfl, Nat.le_of_ble_eq_true rfl⟩) wP wS (fun H locs wP wS => ?_)
        refine lv_ri (y := zI (cH P m8 (rp P m8 (selD P m8 p1 - 16)) : Int)) (congrArg zI hq4) ?_
        refine g_pure (va_runV (As := [.int (zI ((cH P m8 (rp P m8 (selD P m8 p1 - 16)) : Nat) : Int))]) (rest := []) ⟨xX, xB, xM, xO, xT⟩ (c_X6_partOf l D kI kB h a0 a1 a3 a4 a8 a9 a10 a13 a14 a15 a16 sd uM uA F P m8 NU DF LF HA (cH P m8 (rp P m8 (selD P m8 p1 - 16))) hF hL hqk) (cwV 1 xT gX6_deep_X6_partOf rfl rfl rfl hd_X6_partOf ⟨Nat.le_of_ble_eq_true rfl, Nat.le_of_ble_eq_true rfl⟩) (g_preV (ci := 6) (q0 := 0) wP wD wK [0, 1, 2, 3, 4, 5] (by decide) rfl rfl rfl) rfl rfl wl.1 rfl (lv_room (Nat.le_of_ble_eq_true rfl)) dX6_deep_19 ⟨Nat.le_of_ble_eq_true rfl, Nat.le_of_ble_eq_true rfl⟩) wP wS (fun H locs wP wS => ?_)
        refine lv_istore_n (lv' := [(3, .int (zI ((cD P m8 (rp P m8 (selH P m8 (cH P m8 (rp P m8 (selD P m8 p1 - 16))) - 16)) : Nat) : Int))), (0, .ref h), (1, .int (zI (p : Int))), (2, .int (zI (t : Int)))]) xX xB dX6_deep_22 rfl wl (by decide) rfl (fun ls wl => ?_)
        refine lv_iinc (v := zI ((t : Int) + 1)) (lv' := [(2, .int (zI ((t : Int) + 1))), (3, .int (zI ((cD P m8 (rp P m8 (selH P m8 (cH P m8 (rp P m8 (selD P m8 p1 - 16))) - 16)) : Nat) : Int))), (0, .ref h), (1, .int (zI (p : Int)))]) xX xB dX6_deep_23 wl (k := 3) rfl (zI_add _ _) (by decide) rfl (fun ls wl => ?_)
        refine lv_goto (tgt := 4) xX xB dX6_deep_26 (by decide) ?_
        exact ihK (t + 1) (cD P m8 (rp P m8 (selH P m8 (cH P m8 (rp P m8 (selD P m8 p1 - 16))) - 16))) (by rw [hq6]; omega) hq5 (by rw [hq6]; omega) _ _ _ wP wS (lv_sub wl [2, 3, 0, 1] rfl)
  exact K _ 0 p (Nat.lt_succ_self _) hp (Nat.zero_add _) _ _ _ wP wS (lv_sub wl [2, 3, 1, 0] rfl)

set_option maxHeartbeats 4000000 in
set_option maxRecDepth 100000 in
theorem c_X6_rimOf (l : Launch) (D : va_G) (kI kB : ClassId) (h : Nat) (a0 : Nat) (a1 : Nat) (a3 : Nat) (a4 : Nat) (a8 : Nat) (a9 : Nat) (a10 : Nat) (a13 : Nat) (a14 : Nat) (a15 : Nat) (a16 : Nat) (sd : Int) (uM : Int) (uA : Int) (F : Nat → Int) (P : Nat → Nat) (m8 : Bool) (NU : Nat → Int) (DF : Nat → Int) (LF : Nat → Int) (HA : Nat → Int) (p : Nat) (hF : Pic F P) (hL : Lab P m8 NU DF LF HA) (hp : p < cD P m8 256) : gI l yX6_rimOf wsX6_rimOf ({ frames := 4, cells := 0, slots := 0, locals := 88 } : Room) D kI kB [.ref h, .int (zI (p : Int))] [(h, .inr (6, [.ref a0, .ref a1, .int (zI sd), .ref a3, .ref a4, .int (zI ((cD P m8 256 : Nat) : Int)), .int (zI ((cL P m8 256 : Nat) : Int)), .int (zI ((cH P m8 256 : Nat) : Int)), .ref a8, .ref a9, .ref a10, .int (zI uM), .int (zI uA), .ref a13, .ref a14, .ref a15, .ref a16])), (a0, .inl (kI, 17, .inl (aZ F))), (a3, .inl (kI, 256, .inl (aZ NU))), (a8, .inl (kI, 128, .inl (aZ DF))), (a9, .inl (kI, 128, .inl (aZ LF))), (a10, .inl (kI, 128, .inl (aZ HA)))] (zI ((rimR P m8 (selD P m8 p) : Nat) : Int)) := by
  refine g_start (cc := cX6_rimOf) (maxL := 4) (ret := (some .int)) (by decide) rfl (Nat.le_of_ble_eq_true rfl) ?_
  intro xp xe xs xm xbl xmt xc xX xB xR xM xT xO xL xN wP wD wK ls wl
  have wS : va_S (fun _ => False) xs.heap xs.heap [] := va_S.rf
  have wl : lv_has ls 4 [(0, .ref h), (1, .int (zI (p : Int)))] := wl
  generalize hQ : MQ xbl _ _ xs 0 0 _ = xQ
  obtain ⟨hR, hD, hcD⟩ := selD_spec hp
  have hpb := cD_128 (P := P) (m8 := m8)
  refine z_iconst xX xB dX6_rimOf_0 ?_
  refine lv_istore_n (lv' := [(2, .int (zI 0)), (0, .ref h), (1, .int (zI (p : Int)))]) xX xB dX6_rimOf_1 rfl wl (by decide) rfl (fun ls wl => ?_)
  refine z_iconst xX xB dX6_rimOf_2 ?_
  refine lv_istore_n (lv' := [(3, .int (zI 0)), (2, .int (zI 0)), (0, .ref h), (1, .int (zI (p : Int)))]) xX xB dX6_rimOf_3 rfl wl (by decide) rfl (fun ls wl => ?_)
  have K : ∀ n_ : Nat, ∀ (i : Nat) (t : Nat), 256 - i < n_ → (i ≤ 256) → (t = fb_sm (fun x => if cb (rp P m8 x = selD P m8 p) then sdN P x else 0) i) → ∀ (H : Heap) (locs : List Loc) (ls : Array Slot), va_P D gC [(h, .inr (6, [.ref a0, .ref a1, .int (zI sd), .ref a3, .ref a4, .int (zI ((cD P m8 256 : Nat) : Int)), .int (zI ((cL P m8 256 : Nat) : Int)), .int (zI ((cH P m8 256 : Nat) : Int)), .ref a8, .ref a9, .ref a10, .int (zI uM), .int (zI uA), .ref a13, .ref a14, .ref a15, .ref a16])), (a0, .inl (kI, 17, .inl (aZ F))), (a3, .inl (kI, 256, .inl (aZ NU))), (a8, .inl (kI, 128, .inl (aZ DF))), (a9, .inl (kI, 128, .inl (aZ LF))), (a10, .inl (kI, 128, .inl (aZ HA)))] H → va_S (fun _ => False) xs.heap H locs → lv_has ls 4 [(0, .ref h), (1, .int (zI (p : Int))), (2, .int (zI (t : Int))), (3, .int (zI (i : Int)))] → W xp l xe ({ frames := 4, cells := 0, slots := 0, locals := 88 } : Room) xs xm (List.toArray [.ref h, .int (zI (p : Int))]) xbl xmt xc H locs 0 0 xQ (F0 xm 4 ls []) := by
    intro n_
    induction n_ with
    | zero =>
      intro i t hme
      exact absurd hme (Nat.not_lt_zero _)
    | succ n_ ihK =>
      intro i t hme hi ht H locs ls wP wS wl
      have hbd : fb_sm (fun x => if cb (rp P m8 x = selD P m8 p) then sdN P x else 0) i ≤ i * 4 := fb_sm_bound (fun k _ => by split; exact sdN_le _ _; omega)
      refine lv_iload_n xX xB dX6_rimOf_4 rfl (lv_at wl 3 rfl) ?_
      refine z_sipush xX xB dX6_rimOf_5 (by decide) ?_
      refine z_icmp_ge (tgt := 39) xX xB dX6_rimOf_8 (by decide) (by omega) (by omega) (fun h8 => ?_) (fun h8 => ?_)
      · skip
        refine lv_iload_n xX xB dX6_rimOf_39 rfl (lv_at wl 2 rfl) ?_
        subst hQ
        exact g_iret xX xB xR xL wS dX6_rimOf_40 (congrArg (fun z : Nat => zI (z : Int)) (by rw [ht, show i = 256 by omega]; rfl))
      · skip
        refine lv_iload_n xX xB dX6_rimOf_11 rfl (lv_at wl 2 rfl) ?_
        refine lv_aload_n xX xB dX6_rimOf_12 rfl (lv_at wl 0 rfl) ?_
        refine lv_iload_n xX xB dX6_rimOf_13 rfl (lv_at wl 3 rfl) ?_
        refine z_iconst xX xB dX6_rimOf_14 ?_
        refine lv_iload_n xX xB dX6_rimOf_15 rfl (lv_at wl 1 rfl) ?_
        refine g_pure (va_runV (As := [.int (zI (i : Int)), .int (zI 1), .int (zI (p : Int))]) (rest := [.int (zI (t : Int))]) ⟨xX, xB, xM, xO, xT⟩ (c_X6_isOf l D kI kB h a0 a1 a3 a4 a8 a9 a10 a13 a14 a15 a16 sd uM uA F P m8 NU DF LF HA i (selD P m8 p) true p hF hL (by omega) hR hD.1 hD.2 (by rw [hcD]; rfl)) (cwV 3 xT gX6_rimOf_X6_isOf rfl rfl rfl hd_X6_isOf ⟨Nat.le_of_ble_eq_true rfl, Nat.le_of_ble_eq_true rfl⟩) (g_preV (ci := 6) (q0 := 0) wP wD wK [0, 1, 2, 3, 4, 5] (by decide) rfl rfl rfl) rfl rfl wl.1 rfl (lv_room (Nat.le_of_ble_eq_true rfl)) dX6_rimOf_16 ⟨Nat.le_of_ble_eq_true rfl, Nat.le_of_ble_eq_true rfl⟩) wP wS (fun H locs wP wS => ?_)
        refine b_if_eq (tgt := 30) xX xB dX6_rimOf_19 (by decide) (fun h19 => ?_) (fun h19 => ?_)
        · skip
          refine z_iconst xX xB dX6_rimOf_30 ?_
          refine z_iadd xX xB dX6_rimOf_31 ?_
          refine lv_istore_n (lv' := [(2, .int (zI ((t : Int) + 0))), (0, .ref h), (1, .int (zI (p : Int))), (3, .int (zI (i : Int)))]) xX xB dX6_rimOf_32 rfl wl (by decide) rfl (fun ls wl => ?_)
          refine lv_iinc (v := zI ((i : Int) + 1)) (lv' := [(3, .int (zI ((i : Int) + 1))), (2, .int (zI ((t : Int) + 0))), (0, .ref h), (1, .int (zI (p : Int)))]) xX xB dX6_rimOf_33 wl (k := 3) rfl (zI_add _ _) (by decide) rfl (fun ls wl => ?_)
          refine lv_goto (tgt := 4) xX xB dX6_rimOf_36 (by decide) ?_
          exact ihK (i + 1) (t + 0) (by omega) (by omega) (sm_f (f := fun x => cb (rp P m8 x = selD P m8 p)) ht h19) _ _ _ wP wS (lv_sub wl [2, 3, 1, 0] rfl)
        · skip
          refine lv_aload_n xX xB dX6_rimOf_22 rfl (lv_at wl 0 rfl) ?_
          refine lv_iload_n xX xB dX6_rimOf_23 rfl (lv_at wl 3 rfl) ?_
          have hsd := sdN_le P i
          refine g_pure (va_runV (As := [.int (zI (i : Int))]) (rest := [.int (zI (t : Int))]) ⟨xX, xB, xM, xO, xT⟩ (c_X6_sidesOf l D kI kB h a0 a1 a3 a4 a8 a9 a10 a13 a14 a15 a16 sd ((cD P m8 256 : Nat) : Int) ((cL P m8 256 : Nat) : Int) ((cH P m8 256 : Nat) : Int) uM uA F P i hF (by omega)) (cwV 1 xT gX6_rimOf_X6_sidesOf rfl rfl rfl hd_X6_sidesOf ⟨Nat.le_of_ble_eq_true rfl, Nat.le_of_ble_eq_true rfl⟩) (g_preV (ci := 6) (q0 := 0) wP wD wK [0, 1] (by decide) rfl rfl rfl) rfl rfl wl.1 rfl (lv_room (Nat.le_of_ble_eq_true rfl)) dX6_rimOf_24 ⟨Nat.le_of_ble_eq_true rfl, Nat.le_of_ble_eq_true rfl⟩) wP wS (fun H locs wP wS => ?_)
          refine lv_goto (tgt := 31) xX xB dX6_rimOf_27 (by decide) ?_
          refine z_iadd xX xB dX6_rimOf_31 ?_
          refine lv_istore_n (lv' := [(2, .int (zI ((t : Int) + ((sdN P i : Nat) : Int)))), (0, .ref h), (1, .int (zI (p : Int))), (3, .int (zI (i : Int)))]) xX xB dX6_rimOf_32 rfl wl (by decide) rfl (fun ls wl => ?_)
          refine lv_iinc (v := zI ((i : Int) + 1)) (lv' := [(3, .int (zI ((i : Int) + 1))), (2, .int (zI ((t : Int) + ((sdN P i : Nat) : Int)))), (0, .ref h), (1, .int (zI (p : Int)))]) xX xB dX6_rimOf_33 wl (k := 3) rfl (zI_add _ _) (by decide) rfl (fun ls wl => ?_)
          refine lv_goto (tgt := 4) xX xB dX6_rimOf_36 (by decide) ?_
          exact ihK (i + 1) (t + (sdN P i)) (by omega) (by omega) (sm_t (f := fun x => cb (rp P m8 x = selD P m8 p)) ht h19) _ _ _ wP wS (lv_sub wl [2, 3, 1, 0] rfl)
  exact K _ 0 0 (Nat.lt_succ_self _) (by omega) rfl _ _ _ wP wS (lv_sub wl [2, 3, 1, 0] rfl)

set_option maxHeartbeats 4000000 in
set_option maxRecDepth 100000 in
theorem c_X6_holesOf (l : Launch) (D : va_G) (kI kB : ClassId) (h : Nat) (a0 : Nat) (a1 : Nat) (a3 : Nat) (a4 : Nat) (a8 : Nat) (a9 : Nat) (a10 : Nat) (a13 : Nat) (a14 : Nat) (a15 : Nat) (a16 : Nat) (sd : Int) (uM : Int) (uA : Int) (F : Nat → Int) (P : Nat → Nat) (m8 : Bool) (NU : Nat → Int) (DF : Nat → Int) (LF : Nat → Int) (HA : Nat → Int) (p : Nat) (hF : Pic F P) (hL : Lab P m8 NU DF LF HA) (hp : p < cD P m8 256) : gI l yX6_holesOf wsX6_holesOf ({ frames := 2, cells := 0, slots := 0, locals := 43 } : Room) D kI kB [.ref h, .int (zI (p : Int))] [(h, .inr (6, [.ref a0, .ref a1, .int (zI sd), .ref a3, .ref a4, .int (zI ((cD P m8 256 : Nat) : Int)), .int (zI ((cL P m8 256 : Nat) : Int)), .int (zI ((cH P m8 256 : Nat) : Int)), .ref a8, .ref a9, .ref a10, .int (zI uM), .int (zI uA), .ref a13, .ref a14, .ref a15, .ref a16])), (a0, .inl (kI, 17, .inl (aZ F))), (a3, .inl (kI, 256, .inl (aZ NU))), (a8, .inl (kI, 128, .inl (aZ DF))), (a9, .inl (kI, 128, .inl (aZ LF))), (a10, .inl (kI, 128, .inl (aZ HA)))] (zI ((hoN P m8 p (cH P m8 256) : Nat) : Int)) := by
  refine g_start (cc := cX6_holesOf) (maxL := 4) (ret := (some .int)) (by decide) rfl (Nat.le_of_ble_eq_true rfl) ?_
  intro xp xe xs xm xbl xmt xc xX xB xR xM xT xO xL xN wP wD wK ls wl
  have wS : va_S (fun _ => False) xs.heap xs.heap [] := va_S.rf
  have wl : lv_has ls 4 [(0, .ref h), (1, .int (zI (p : Int)))] := wl
  generalize hQ : MQ xbl _ _ xs 0 0 _ = xQ
  have hpb := cD_128 (P := P) (m8 := m8)
  have hb2 := cH_le (P := P) (m8 := m8) (n := 256) (by omega)
  refine z_iconst xX xB dX6_holesOf_0 ?_
  refine lv_istore_n (lv' := [(2, .int (zI 0)), (0, .ref h), (1, .int (zI (p : Int)))]) xX xB dX6_holesOf_1 rfl wl (by decide) rfl (fun ls wl => ?_)
  refine z_iconst xX xB dX6_holesOf_2 ?_
  refine lv_istore_n (lv' := [(3, .int (zI 0)), (2, .int (zI 0)), (0, .ref h), (1, .int (zI (p : Int)))]) xX xB dX6_holesOf_3 rfl wl (by decide) rfl (fun ls wl => ?_)
  have K : ∀ n_ : Nat, ∀ (i : Nat) (t : Nat), cH P m8 256 - i < n_ → (i ≤ cH P m8 256) → (t = hoN P m8 p i) → ∀ (H : Heap) (locs : List Loc) (ls : Array Slot), va_P D gC [(h, .inr (6, [.ref a0, .ref a1, .int (zI sd), .ref a3, .ref a4, .int (zI ((cD P m8 256 : Nat) : Int)), .int (zI ((cL P m8 256 : Nat) : Int)), .int (zI ((cH P m8 256 : Nat) : Int)), .ref a8, .ref a9, .ref a10, .int (zI uM), .int (zI uA), .ref a13, .ref a14, .ref a15, .ref a16])), (a0, .inl (kI, 17, .inl (aZ F))), (a3, .inl (kI, 256, .inl (aZ NU))), (a8, .inl (kI, 128, .inl (aZ DF))), (a9, .inl (kI, 128, .inl (aZ LF))), (a10, .inl (kI, 128, .inl (aZ HA)))] H → va_S (fun _ => False) xs.heap H locs → lv_has ls 4 [(0, .ref h), (1, .int (zI (p : Int))), (2, .int (zI (t : Int))), (3, .int (zI (i : Int)))] → W xp l xe ({ frames := 2, cells := 0, slots := 0, locals := 43 } : Room) xs xm (List.toArray [.ref h, .int (zI (p : Int))]) xbl xmt xc H locs 0 0 xQ (F0 xm 4 ls []) := by
    intro n_
    induction n_ with
    | zero =>
      intro i t hme
      exact absurd hme (Nat.not_lt_zero _)
    | succ n_ ihK =>
      intro i t hme hi ht H locs ls wP wS wl
      have hbd : hoN P m8 p i ≤ i := fb_ct_le _ i
      refine lv_iload_n xX xB dX6_holesOf_4 rfl (lv_at wl 3 rfl) ?_
      refine lv_aload_n xX xB dX6_holesOf_5 rfl (lv_at wl 0 rfl) ?_
      refine va_get (D := D) (ci := 6) (v := .int (zI ((cH P m8 256 : Nat) : Int))) (C := RX6) (T := TX6) (N := 17) xX xB xT in_X6_holesOf_X6 xO wK.1 wP 0 rfl rfl 7 (by decide) (xT _ (List.mem_of_getElem? (i := 1) rfl)) (fun _ h9 => h9) rfl dX6_holesOf_6 ?_
      refine z_icmp_ge (tgt := 35) xX xB dX6_holesOf_9 (by decide) (by omega) (by omega) (fun h9 => ?_) (fun h9 => ?_)
      · skip
        refine lv_iload_n xX xB dX6_holesOf_35 rfl (lv_at wl 2 rfl) ?_
        subst hQ
        exact g_iret xX xB xR xL wS dX6_holesOf_36 (congrArg (fun z : Nat => zI (z : Int)) (by rw [ht, show i = cH P m8 256 by omega]))
      · skip
        refine lv_iload_n xX xB dX6_holesOf_12 rfl (lv_at wl 2 rfl) ?_
        refine lv_aload_n xX xB dX6_holesOf_13 rfl (lv_at wl 0 rfl) ?_
        refine lv_iload_n xX xB dX6_holesOf_14 rfl (lv_at wl 3 rfl) ?_
        refine g_pure (va_runV (As := [.int (zI (i : Int))]) (rest := [.int (zI (t : Int))]) ⟨xX, xB, xM, xO, xT⟩ (c_X6_partOf l D kI kB h a0 a1 a3 a4 a8 a9 a10 a13 a14 a15 a16 sd uM uA F P m8 NU DF LF HA i hF hL (by omega)) (cwV 1 xT gX6_holesOf_X6_partOf rfl rfl rfl hd_X6_partOf ⟨Nat.le_of_ble_eq_true rfl, Nat.le_of_ble_eq_true rfl⟩) (g_preV (ci := 6) (q0 := 0) wP wD wK [0, 1, 2, 3, 4, 5] (by decide) rfl rfl rfl) rfl rfl wl.1 rfl (lv_room (Nat.le_of_ble_eq_true rfl)) dX6_holesOf_15 ⟨Nat.le_of_ble_eq_true rfl, Nat.le_of_ble_eq_true rfl⟩) wP wS (fun H locs wP wS => ?_)
        refine lv_iload_n xX xB dX6_holesOf_18 rfl (lv_at wl 1 rfl) ?_
        refine t_icmp_ne xX xB dX6_holesOf_19 dX6_holesOf_22 dX6_holesOf_23 dX6_holesOf_26 (by have := cD_le (P := P) (m8 := m8) (n := rp P m8 (selH P m8 i - 16)) (by have := rp_self (P := P) (m8 := m8) (selH P m8 i - 16); have := (selH_spec (P := P) (m8 := m8) (k := i) (by omega)).1; omega); omega) (by omega) ?_
        refine lv_ri (bI_Z _) ?_
        refine z_iadd xX xB dX6_holesOf_27 ?_
        refine lv_istore_n (lv' := [(2, .int (zI ((t : Int) + ((bZ (decide (((cD P m8 (rp P m8 (selH P m8 i - 16)) : Nat) : Int) = (p : Int))) : Nat) : Int)))), (0, .ref h), (1, .int (zI (p : Int))), (3, .int (zI (i : Int)))]) xX xB dX6_holesOf_28 rfl wl (by decide) rfl (fun ls wl => ?_)
        refine lv_iinc (v := zI ((i : Int) + 1)) (lv' := [(3, .int (zI ((i : Int) + 1))), (2, .int (zI ((t : Int) + ((bZ (decide (((cD P m8 (rp P m8 (selH P m8 i - 16)) : Nat) : Int) = (p : Int))) : Nat) : Int)))), (0, .ref h), (1, .int (zI (p : Int)))]) xX xB dX6_holesOf_29 wl (k := 3) rfl (zI_add _ _) (by decide) rfl (fun ls wl => ?_)
        refine lv_goto (tgt := 4) xX xB dX6_holesOf_32 (by decide) ?_
        exact ihK (i + 1) (t + (bZ (decide (((cD P m8 (rp P m8 (selH P m8 i - 16)) : Nat) : Int) = (p : Int))))) (by omega) (by omega) (ct_step ht (by rw [decide_eq_true_eq]; exact Int.ofNat_inj)) _ _ _ wP wS (lv_sub wl [2, 3, 1, 0] rfl)
  exact K _ 0 0 (Nat.lt_succ_self _) (by omega) rfl _ _ _ wP wS (lv_sub wl [2, 3, 1, 0] rfl)

set_option maxHeartbeats 4000000 in
set_option maxRecDepth 100000 in
theorem c_X6_partsIn (l : Launch) (D : va_G) (kI kB : ClassId) (h : Nat) (a0 : Nat) (a1 : Nat) (a3 : Nat) (a4 : Nat) (a8 : Nat) (a9 : Nat) (a10 : Nat) (a13 : Nat) (a14 : Nat) (a15 : Nat) (a16 : Nat) (sd : Int) (uM : Int) (uA : Int) (F : Nat → Int) (P : Nat → Nat) (m8 : Bool) (NU : Nat → Int) (DF : Nat → Int) (LF : Nat → Int) (HA : Nat → Int) (k : Nat) (hF : Pic F P) (hL : Lab P m8 NU DF LF HA) (hk : k < cH P m8 256) : gI l yX6_partsIn wsX6_partsIn ({ frames := 1, cells := 0, slots := 0, locals := 22 } : Room) D kI kB [.ref h, .int (zI (k : Int))] [(h, .inr (6, [.ref a0, .ref a1, .int (zI sd), .ref a3, .ref a4, .int (zI ((cD P m8 256 : Nat) : Int)), .int (zI ((cL P m8 256 : Nat) : Int)), .int (zI ((cH P m8 256 : Nat) : Int)), .ref a8, .ref a9, .ref a10, .int (zI uM), .int (zI uA), .ref a13, .ref a14, .ref a15, .ref a16])), (a0, .inl (kI, 17, .inl (aZ F))), (a3, .inl (kI, 256, .inl (aZ NU))), (a8, .inl (kI, 128, .inl (aZ DF))), (a9, .inl (kI, 128, .inl (aZ LF))), (a10, .inl (kI, 128, .inl (aZ HA)))] (zI ((inN P m8 k (cD P m8 256) : Nat) : Int)) := by
  refine g_start (cc := cX6_partsIn) (maxL := 4) (ret := (some .int)) (by decide) rfl (Nat.le_of_ble_eq_true rfl) ?_
  intro xp xe xs xm xbl xmt xc xX xB xR xM xT xO xL xN wP wD wK ls wl
  have wS : va_S (fun _ => False) xs.heap xs.heap [] := va_S.rf
  have wl : lv_has ls 4 [(0, .ref h), (1, .int (zI (k : Int)))] := wl
  generalize hQ : MQ xbl _ _ xs 0 0 _ = xQ
  have hpb := cD_128 (P := P) (m8 := m8)
  have hb2 := cH_le (P := P) (m8 := m8) (n := 256) (by omega)
  refine z_iconst xX xB dX6_partsIn_0 ?_
  refine lv_istore_n (lv' := [(2, .int (zI 0)), (0, .ref h), (1, .int (zI (k : Int)))]) xX xB dX6_partsIn_1 rfl wl (by decide) rfl (fun ls wl => ?_)
  refine z_iconst xX xB dX6_partsIn_2 ?_
  refine lv_istore_n (lv' := [(3, .int (zI 0)), (2, .int (zI 0)), (0, .ref h), (1, .int (zI (k : Int)))]) xX xB dX6_partsIn_3 rfl wl (by decide) rfl (fun ls wl => ?_)
  have K : ∀ n_ : Nat, ∀ (i : Nat) (t : Nat), cD P m8 256 - i < n_ → (i ≤ cD P m8 256) → (t = inN P m8 k i) → ∀ (H : Heap) (locs : List Loc) (ls : Array Slot), va_P D gC [(h, .inr (6, [.ref a0, .ref a1, .int (zI sd), .ref a3, .ref a4, .int (zI ((cD P m8 256 : Nat) : Int)), .int (zI ((cL P m8 256 : Nat) : Int)), .int (zI ((cH P m8 256 : Nat) : Int)), .ref a8, .ref a9, .ref a10, .int (zI uM), .int (zI uA), .ref a13, .ref a14, .ref a15, .ref a16])), (a0, .inl (kI, 17, .inl (aZ F))), (a3, .inl (kI, 256, .inl (aZ NU))), (a8, .inl (kI, 128, .inl (aZ DF))), (a9, .inl (kI, 128, .inl (aZ LF))), (a10, .inl (kI, 128, .inl (aZ HA)))] H → va_S (fun _ => False) xs.heap H locs → lv_has ls 4 [(0, .ref h), (1, .int (zI (k : Int))), (2, .int (zI (t : Int))), (3, .int (zI (i : Int)))] → W xp l xe ({ frames := 1, cells := 0, slots := 0, locals := 22 } : Room) xs xm (List.toArray [.ref h, .int (zI (k : Int))]) xbl xmt xc H locs 0 0 xQ (F0 xm 4 ls []) := by
    intro n_
    induction n_ with
    | zero =>
      intro i t hme
      exact absurd hme (Nat.not_lt_zero _)
    | succ n_ ihK =>
      intro i t hme hi ht H locs ls wP wS wl
      have hbd : inN P m8 k i ≤ i := fb_ct_le _ i
      refine lv_iload_n xX xB dX6_partsIn_4 rfl (lv_at wl 3 rfl) ?_
      refine lv_aload_n xX xB dX6_partsIn_5 rfl (lv_at wl 0 rfl) ?_
      refine va_get (D := D) (ci := 6) (v := .int (zI ((cD P m8 256 : Nat) : Int))) (C := RX6) (T := TX6) (N := 17) xX xB xT in_X6_partsIn_X6 xO wK.1 wP 0 rfl rfl 5 (by decide) (xT _ (List.mem_of_getElem? (i := 1) rfl)) (fun _ h9 => h9) rfl dX6_partsIn_6 ?_
      refine z_icmp_ge (tgt := 35) xX xB dX6_partsIn_9 (by decide) (by omega) (by omega) (fun h9 => ?_) (fun h9 => ?_)
      · skip
        refine lv_iload_n xX xB dX6_partsIn_35 rfl (lv_at wl 2 rfl) ?_
        subst hQ
        exact g_iret xX xB xR xL wS dX6_partsIn_36 (congrArg (fun z : Nat => zI (z : Int)) (by rw [ht, show i = cD P m8 256 by omega]))
      · skip
        refine lv_iload_n xX xB dX6_partsIn_12 rfl (lv_at wl 2 rfl) ?_
        refine lv_aload_n xX xB dX6_partsIn_13 rfl (lv_at wl 0 rfl) ?_
        refine lv_iload_n xX xB dX6_partsIn_14 rfl (lv_at wl 3 rfl) ?_
        refine g_pure (va_runV (As := [.int (zI (i : Int))]) (rest := [.int (zI (t : Int))]) ⟨xX, xB, xM, xO, xT⟩ (c_X6_liesIn l D kI kB h a0 a1 a3 a4 a8 a9 a10 a13 a14 a15 a16 sd uM uA F P m8 NU DF LF HA i hF hL (by omega)) (cwV 1 xT gX6_partsIn_X6_liesIn rfl rfl rfl hd_X6_liesIn ⟨Nat.le_of_ble_eq_true rfl, Nat.le_of_ble_eq_true rfl⟩) (g_preV (ci := 6) (q0 := 0) wP wD wK [0, 1, 2, 3, 4, 5] (by decide) rfl rfl rfl) rfl rfl wl.1 rfl (lv_room (Nat.le_of_ble_eq_true rfl)) dX6_partsIn_15 ⟨Nat.le_of_ble_eq_true rfl, Nat.le_of_ble_eq_true rfl⟩) wP wS (fun H locs wP wS => ?_)
        refine lv_iload_n xX xB dX6_partsIn_18 rfl (lv_at wl 1 rfl) ?_
        refine t_icmp_ne xX xB dX6_partsIn_19 dX6_partsIn_22 dX6_partsIn_23 dX6_partsIn_26 (by have := lieR_rng (P := P) (m8 := m8) (selD_spec (P := P) (m8 := m8) (k := i) (by omega)).1; omega) (by omega) ?_
        refine lv_ri (bI_Z _) ?_
        refine z_iadd xX xB dX6_partsIn_27 ?_
        refine lv_istore_n (lv' := [(2, .int (zI ((t : Int) + ((bZ (decide (lieR P m8 (selD P m8 i) = (k : Int))) : Nat) : Int)))), (0, .ref h), (1, .int (zI (k : Int))), (3, .int (zI (i : Int)))]) xX xB dX6_partsIn_28 rfl wl (by decide) rfl (fun ls wl => ?_)
        refine lv_iinc (v := zI ((i : Int) + 1)) (lv' := [(3, .int (zI ((i : Int) + 1))), (2, .int (zI ((t : Int) + ((bZ (decide (lieR P m8 (selD P m8 i) = (k : Int))) : Nat) : Int)))), (0, .ref h), (1, .int (zI (k : Int)))]) xX xB dX6_partsIn_29 wl (k := 3) rfl (zI_add _ _) (by decide) rfl (fun ls wl => ?_)
        refine lv_goto (tgt := 4) xX xB dX6_partsIn_32 (by decide) ?_
        exact ihK (i + 1) (t + (bZ (decide (lieR P m8 (selD P m8 i) = (k : Int))))) (by omega) (by omega) (ct_step ht decide_eq_true_iff) _ _ _ wP wS (lv_sub wl [2, 3, 1, 0] rfl)
  exact K _ 0 0 (Nat.lt_succ_self _) (by omega) rfl _ _ _ wP wS (lv_sub wl [2, 3, 1, 0] rfl)

set_option maxHeartbeats 4000000 in
set_option maxRecDepth 100000 in
theorem c_X6_edge (l : Launch) (D : va_G) (kI kB : ClassId) (h : Nat) (a0 : Nat) (a1 : Nat) (a3 : Nat) (a4 : Nat) (a8 : Nat) (a9 : Nat) (a10 : Nat) (a13 : Nat) (a14 : Nat) (a15 : Nat) (a16 : Nat) (sd : Int) (uM : Int) (uA : Int) (F : Nat → Int) (P : Nat → Nat) (m8 : Bool) (NU : Nat → Int) (DF : Nat → Int) (LF : Nat → Int) (HA : Nat → Int) (p : Nat) (col : Bool) (gr : Bool) (hF : Pic F P) (hL : Lab P m8 NU DF LF HA) (hp : p < cD P m8 256) : gI l yX6_edge wsX6_edge ({ frames := 3, cells := 0, slots := 0, locals := 65 } : Room) D kI kB [.ref h, .int (zI (p : Int)), .int (bI col), .int (bI gr)] [(h, .inr (6, [.ref a0, .ref a1, .int (zI sd), .ref a3, .ref a4, .int (zI ((cD P m8 256 : Nat) : Int)), .int (zI ((cL P m8 256 : Nat) : Int)), .int (zI ((cH P m8 256 : Nat) : Int)), .ref a8, .ref a9, .ref a10, .int (zI uM), .int (zI uA), .ref a13, .ref a14, .ref a15, .ref a16])), (a0, .inl (kI, 17, .inl (aZ F))), (a3, .inl (kI, 256, .inl (aZ NU))), (a8, .inl (kI, 128, .inl (aZ DF))), (a9, .inl (kI, 128, .inl (aZ LF))), (a10, .inl (kI, 128, .inl (aZ HA)))] (zI (edN P m8 col gr (selD P m8 p) 256)) := by
  refine g_start (cc := cX6_edge) (maxL := 8) (ret := (some .int)) (by decide) rfl (Nat.le_of_ble_eq_true rfl) ?_
  intro xp xe xs xm xbl xmt xc xX xB xR xM xT xO xL xN wP wD wK ls wl
  have wS : va_S (fun _ => False) xs.heap xs.heap [] := va_S.rf
  have wl : lv_has ls 8 [(0, .ref h), (1, .int (zI (p : Int))), (2, .int (bI col)), (3, .int (bI gr))] := wl
  generalize hQ : MQ xbl _ _ xs 0 0 _ = xQ
  obtain ⟨hR, hD, hcD⟩ := selD_spec hp
  have hpb := cD_128 (P := P) (m8 := m8)
  have J01 : ∀ (b0 : Int), (b0 = if gr then -1 else 16) → ∀ (H : Heap) (locs : List Loc) (ls : Array Slot), va_P D gC [(h, .inr (6, [.ref a0, .ref a1, .int (zI sd), .ref a3, .ref a4, .int (zI ((cD P m8 256 : Nat) : Int)), .int (zI ((cL P m8 256 : Nat) : Int)), .int (zI ((cH P m8 256 : Nat) : Int)), .ref a8, .ref a9, .ref a10, .int (zI uM), .int (zI uA), .ref a13, .ref a14, .ref a15, .ref a16])), (a0, .inl (kI, 17, .inl (aZ F))), (a3, .inl (kI, 256, .inl (aZ NU))), (a8, .inl (kI, 128, .inl (aZ DF))), (a9, .inl (kI, 128, .inl (aZ LF))), (a10, .inl (kI, 128, .inl (aZ HA)))] H → va_S (fun _ => False) xs.heap H locs → lv_has ls 8 [(0, .ref h), (1, .int (zI (p : Int))), (2, .int (bI col)), (3, .int (bI gr))] → W xp l xe ({ frames := 3, cells := 0, slots := 0, locals := 65 } : Room) xs xm (List.toArray [.ref h, .int (zI (p : Int)), .int (bI col), .int (bI gr)]) xbl xmt xc H locs 0 0 xQ (F0 xm 10 ls [.int (zI b0)]) := by
    intro b0 hb0 H locs ls wP wS wl
    refine lv_istore (lv' := [(4, .int (zI b0)), (0, .ref h), (1, .int (zI (p : Int))), (2, .int (bI col)), (3, .int (bI gr))]) xX xB dX6_edge_10 wl (by decide) rfl (fun ls wl => ?_)
    refine z_iconst xX xB dX6_edge_12 ?_
    refine lv_istore (lv' := [(5, .int (zI 0)), (4, .int (zI b0)), (0, .ref h), (1, .int (zI (p : Int))), (2, .int (bI col)), (3, .int (bI gr))]) xX xB dX6_edge_13 wl (by decide) rfl (fun ls wl => ?_)
    have K : ∀ n_ : Nat, ∀ (i : Nat) (b : Int), 256 - i < n_ → (i ≤ 256) → (b = edN P m8 col gr (selD P m8 p) i) → ∀ (H : Heap) (locs : List Loc) (ls : Array Slot), va_P D gC [(h, .inr (6, [.ref a0, .ref a1, .int (zI sd), .ref a3, .ref a4, .int (zI ((cD P m8 256 : Nat) : Int)), .int (zI ((cL P m8 256 : Nat) : Int)), .int (zI ((cH P m8 256 : Nat) : Int)), .ref a8, .ref a9, .ref a10, .int (zI uM), .int (zI uA), .ref a13, .ref a14, .ref a15, .ref a16])), (a0, .inl (kI, 17, .inl (aZ F))), (a3, .inl (kI, 256, .inl (aZ NU))), (a8, .inl (kI, 128, .inl (aZ DF))), (a9, .inl (kI, 128, .inl (aZ LF))), (a10, .inl (kI, 128, .inl (aZ HA)))] H → va_S (fun _ => False) xs.heap H locs → lv_has ls 8 [(0, .ref h), (1, .int (zI (p : Int))), (2, .int (bI col)), (3, .int (bI gr)), (4, .int (zI b)), (5, .int (zI (i : Int)))] → W xp l xe ({ frames := 3, cells := 0, slots := 0, locals := 65 } : Room) xs xm (List.toArray [.ref h, .int (zI (p : Int)), .int (bI col), .int (bI gr)]) xbl xmt xc H locs 0 0 xQ (F0 xm 15 ls []) := by
      intro n_
      induction n_ with
      | zero =>
        intro i b hme
        exact absurd hme (Nat.not_lt_zero _)
      | succ n_ ihK =>
        intro i b hme hi hb H locs ls wP wS wl
        have hbr := edN_rng (P := P) (m8 := m8) col gr (selD P m8 p) i hi
        refine lv_iload xX xB dX6_edge_15 (lv_at wl 5 rfl) ?_
        refine z_sipush xX xB dX6_edge_17 (by decide) ?_
        refine z_icmp_ge (tgt := 101) xX xB dX6_edge_20 (by decide) (by omega) (by omega) (fun h20 => ?_) (fun h20 => ?_)
        · skip
          refine lv_iload xX xB dX6_edge_101 (lv_at wl 4 rfl) ?_
          subst hQ
          exact g_iret xX xB xR xL wS dX6_edge_103 (congrArg zI (by rw [hb, show i = 256 by omega]))
        · skip
          have J12 : ∀ (v : Int), (v = (if col then (i : Int) % 16 else (i : Int) / 16)) → ∀ (H : Heap) (locs : List Loc) (ls : Array Slot), va_P D gC [(h, .inr (6, [.ref a0, .ref a1, .int (zI sd), .ref a3, .ref a4, .int (zI ((cD P m8 256 : Nat) : Int)), .int (zI ((cL P m8 256 : Nat) : Int)), .int (zI ((cH P m8 256 : Nat) : Int)), .ref a8, .ref a9, .ref a10, .int (zI uM), .int (zI uA), .ref a13, .ref a14, .ref a15, .ref a16])), (a0, .inl (kI, 17, .inl (aZ F))), (a3, .inl (kI, 256, .inl (aZ NU))), (a8, .inl (kI, 128, .inl (aZ DF))), (a9, .inl (kI, 128, .inl (aZ LF))), (a10, .inl (kI, 128, .inl (aZ HA)))] H → va_S (fun _ => False) xs.heap H locs → lv_has ls 8 [(0, .ref h), (1, .int (zI (p : Int))), (2, .int (bI col)), (3, .int (bI gr)), (4, .int (zI b)), (5, .int (zI (i : Int)))] → W xp l xe ({ frames := 3, cells := 0, slots := 0, locals := 65 } : Room) xs xm (List.toArray [.ref h, .int (zI (p : Int)), .int (bI col), .int (bI gr)]) xbl xmt xc H locs 0 0 xQ (F0 xm 40 ls [.int (zI v)]) := by
            intro v hv H locs ls wP wS wl
            have hvr : 0 ≤ v ∧ v ≤ 15 := by rw [hv]; cases col <;> simp <;> omega
            refine lv_istore (lv' := [(6, .int (zI v)), (0, .ref h), (1, .int (zI (p : Int))), (2, .int (bI col)), (3, .int (bI gr)), (4, .int (zI b)), (5, .int (zI (i : Int)))]) xX xB dX6_edge_40 wl (by decide) rfl (fun ls wl => ?_)
            have J23 : ∀ (bt : Bool), (bt = (cb (rp P m8 i = selD P m8 p) && (if gr then decide (b < v) else decide (v < b)))) → ∀ (H : Heap) (locs : List Loc) (ls : Array Slot), va_P D gC [(h, .inr (6, [.ref a0, .ref a1, .int (zI sd), .ref a3, .ref a4, .int (zI ((cD P m8 256 : Nat) : Int)), .int (zI ((cL P m8 256 : Nat) : Int)), .int (zI ((cH P m8 256 : Nat) : Int)), .ref a8, .ref a9, .ref a10, .int (zI uM), .int (zI uA), .ref a13, .ref a14, .ref a15, .ref a16])), (a0, .inl (kI, 17, .inl (aZ F))), (a3, .inl (kI, 256, .inl (aZ NU))), (a8, .inl (kI, 128, .inl (aZ DF))), (a9, .inl (kI, 128, .inl (aZ LF))), (a10, .inl (kI, 128, .inl (aZ HA)))] H → va_S (fun _ => False) xs.heap H locs → lv_has ls 8 [(6, .int (zI v)), (0, .ref h), (1, .int (zI (p : Int))), (2, .int (bI col)), (3, .int (bI gr)), (4, .int (zI b)), (5, .int (zI (i : Int)))] → W xp l xe ({ frames := 3, cells := 0, slots := 0, locals := 65 } : Room) xs xm (List.toArray [.ref h, .int (zI (p : Int)), .int (bI col), .int (bI gr)]) xbl xmt xc H locs 0 0 xQ (F0 xm 79 ls [.int (bI bt)]) := by
              intro bt hbt H locs ls wP wS wl
              refine lv_istore (lv' := [(7, .int (bI bt)), (6, .int (zI v)), (0, .ref h), (1, .int (zI (p : Int))), (2, .int (bI col)), (3, .int (bI gr)), (4, .int (zI b)), (5, .int (zI (i : Int)))]) xX xB dX6_edge_79 wl (by decide) rfl (fun ls wl => ?_)
              have J34 : ∀ (b2 : Int), (b2 = if bt then v else b) → ∀ (H : Heap) (locs : List Loc) (ls : Array Slot), va_P D gC [(h, .inr (6, [.ref a0, .ref a1, .int (zI sd), .ref a3, .ref a4, .int (zI ((cD P m8 256 : Nat) : Int)), .int (zI ((cL P m8 256 : Nat) : Int)), .int (zI ((cH P m8 256 : Nat) : Int)), .ref a8, .ref a9, .ref a10, .int (zI uM), .int (zI uA), .ref a13, .ref a14, .ref a15, .ref a16])), (a0, .inl (kI, 17, .inl (aZ F))), (a3, .inl (kI, 256, .inl (aZ NU))), (a8, .inl (kI, 128, .inl (aZ DF))), (a9, .inl (kI, 128, .inl (aZ LF))), (a10, .inl (kI, 128, .inl (aZ HA)))] H → va_S (fun _ => False) xs.heap H locs → lv_has ls 8 [(7, .int (bI bt)), (6, .int (zI v)), (0, .ref h), (1, .int (zI (p : Int))), (2, .int (bI col)), (3, .int (bI gr)), (4, .int (zI b)), (5, .int (zI (i : Int)))] → W xp l xe ({ frames := 3, cells := 0, slots := 0, locals := 65 } : Room) xs xm (List.toArray [.ref h, .int (zI (p : Int)), .int (bI col), .int (bI gr)]) xbl xmt xc H locs 0 0 xQ (F0 xm 93 ls [.int (zI b2)]) := by
                intro b2 hb2 H locs ls wP wS wl
                refine lv_istore (lv' := [(4, .int (zI b2)), (7, .int (bI bt)), (6, .int (zI v)), (0, .ref h), (1, .int (zI (p : Int))), (2, .int (bI col)), (3, .int (bI gr)), (5, .int (zI (i : Int)))]) xX xB dX6_edge_93 wl (by decide) rfl (fun ls wl => ?_)
                refine lv_iinc (v := zI ((i : Int) + 1)) (lv' := [(5, .int (zI ((i : Int) + 1))), (4, .int (zI b2)), (7, .int (bI bt)), (6, .int (zI v)), (0, .ref h), (1, .int (zI (p : Int))), (2, .int (bI col)), (3, .int (bI gr))]) xX xB dX6_edge_95 wl (k := 7) rfl (zI_add _ _) (by decide) rfl (fun ls wl => ?_)
                refine lv_goto (tgt := 15) xX xB dX6_edge_98 (by decide) ?_
                exact ihK (i + 1) b2 (by omega) (by omega) (by rw [hb2, hbt, hv, hb]; rfl) _ _ _ wP wS (lv_sub wl [4, 5, 6, 7, 1, 0] rfl)
              refine lv_iload xX xB dX6_edge_81 (lv_at wl 0 rfl) ?_
              refine b_if_eq (tgt := 91) xX xB dX6_edge_83 (by decide) (fun h83 => ?_) (fun h83 => ?_)
              · skip
                refine lv_iload xX xB dX6_edge_91 (lv_at wl 6 rfl) ?_
                exact J34 b (by rw [h83]; rfl) _ _ _ wP wS (lv_sub wl [0, 1, 2, 3, 4, 5, 6, 7] rfl)
              · skip
                refine lv_iload xX xB dX6_edge_86 (lv_at wl 1 rfl) ?_
                refine lv_goto (tgt := 93) xX xB dX6_edge_88 (by decide) ?_
                exact J34 v (by rw [h83]; rfl) _ _ _ wP wS (lv_sub wl [0, 1, 2, 3, 4, 5, 6, 7] rfl)
            refine lv_aload_n xX xB dX6_edge_42 rfl (lv_at wl 1 rfl) ?_
            refine lv_iload xX xB dX6_edge_43 (lv_at wl 6 rfl) ?_
            refine z_iconst xX xB dX6_edge_45 ?_
            refine lv_iload_n xX xB dX6_edge_46 rfl (lv_at wl 2 rfl) ?_
            refine g_pure (va_runV (As := [.int (zI (i : Int)), .int (zI 1), .int (zI (p : Int))]) (rest := []) ⟨xX, xB, xM, xO, xT⟩ (c_X6_isOf l D kI kB h a0 a1 a3 a4 a8 a9 a10 a13 a14 a15 a16 sd uM uA F P m8 NU DF LF HA i (selD P m8 p) true p hF hL (by omega) hR hD.1 hD.2 (by rw [hcD]; rfl)) (cwV 3 xT gX6_edge_X6_isOf rfl rfl rfl hd_X6_isOf ⟨Nat.le_of_ble_eq_true rfl, Nat.le_of_ble_eq_true rfl⟩) (g_preV (ci := 6) (q0 := 0) wP wD wK [0, 1, 2, 3, 4, 5] (by decide) rfl rfl rfl) rfl rfl wl.1 rfl (lv_room (Nat.le_of_ble_eq_true rfl)) dX6_edge_47 ⟨Nat.le_of_ble_eq_true rfl, Nat.le_of_ble_eq_true rfl⟩) wP wS (fun H locs wP wS => ?_)
            refine b_if_eq (tgt := 78) xX xB dX6_edge_50 (by decide) (fun h50 => ?_) (fun h50 => ?_)
            · skip
              refine z_iconst xX xB dX6_edge_78 ?_
              refine lv_ri (y := bI false) rfl ?_
              exact J23 false (by first | (rw [h50]; rfl) | (rw [h54, if_pos rfl, decide_eq_false (by omega), Bool.and_false]) | (rw [h54, if_neg (by decide), decide_eq_false (by omega), Bool.and_false])) _ _ _ wP wS (lv_sub wl [0, 1, 2, 3, 4, 5, 6] rfl)
            · skip
              refine lv_iload_n xX xB dX6_edge_53 rfl (lv_at wl 4 rfl) ?_
              refine b_if_eq (tgt := 67) xX xB dX6_edge_54 (by decide) (fun h54 => ?_) (fun h54 => ?_)
              · skip
                refine lv_iload xX xB dX6_edge_67 (lv_at wl 0 rfl) ?_
                refine lv_iload xX xB dX6_edge_69 (lv_at wl 5 rfl) ?_
                refine z_icmp_ge (tgt := 78) xX xB dX6_edge_71 (by decide) (by omega) (by omega) (fun h71 => ?_) (fun h71 => ?_)
                · skip
                  refine z_iconst xX xB dX6_edge_78 ?_
                  refine lv_ri (y := bI false) rfl ?_
                  exact J23 false (by first | (rw [h50]; rfl) | (rw [h54, if_pos rfl, decide_eq_false (by omega), Bool.and_false]) | (rw [h54, if_neg (by decide), decide_eq_false (by omega), Bool.and_false])) _ _ _ wP wS (lv_sub wl [0, 1, 2, 3, 4, 5, 6] rfl)
                · skip
                  refine z_iconst xX xB dX6_edge_74 ?_
                  refine lv_goto (tgt := 79) xX xB dX6_edge_75 (by decide) ?_
                  refine lv_ri (y := bI true) rfl ?_
                  exact J23 true (by first | (rw [h50, h54, if_pos rfl, decide_eq_true (by omega)]; rfl) | (rw [h50, h54, if_neg (by decide), decide_eq_true (by omega)]; rfl)) _ _ _ wP wS (lv_sub wl [0, 1, 2, 3, 4, 5, 6] rfl)
              · skip
                refine lv_iload xX xB dX6_edge_57 (lv_at wl 0 rfl) ?_
                refine lv_iload xX xB dX6_edge_59 (lv_at wl 5 rfl) ?_
                refine z_icmp_le (tgt := 78) xX xB dX6_edge_61 (by decide) (by omega) (by omega) (fun h61 => ?_) (fun h61 => ?_)
                · skip
                  refine z_iconst xX xB dX6_edge_78 ?_
                  refine lv_ri (y := bI false) rfl ?_
                  exact J23 false (by first | (rw [h50]; rfl) | (rw [h54, if_pos rfl, decide_eq_false (by omega), Bool.and_false]) | (rw [h54, if_neg (by decide), decide_eq_false (by omega), Bool.and_false])) _ _ _ wP wS (lv_sub wl [0, 1, 2, 3, 4, 5, 6] rfl)
                · skip
                  refine lv_goto (tgt := 74) xX xB dX6_edge_64 (by decide) ?_
                  refine z_iconst xX xB dX6_edge_74 ?_
                  refine lv_goto (tgt := 79) xX xB dX6_edge_75 (by decide) ?_
                  refine lv_ri (y := bI true) rfl ?_
                  exact J23 true (by first | (rw [h50, h54, if_pos rfl, decide_eq_true (by omega)]; rfl) | (rw [h50, h54, if_neg (by decide), decide_eq_true (by omega)]; rfl)) _ _ _ wP wS (lv_sub wl [0, 1, 2, 3, 4, 5, 6] rfl)
          refine lv_iload_n xX xB dX6_edge_23 rfl (lv_at wl 2 rfl) ?_
          refine b_if_eq (tgt := 35) xX xB dX6_edge_24 (by decide) (fun h24 => ?_) (fun h24 => ?_)
          · skip
            refine lv_iload xX xB dX6_edge_35 (lv_at wl 5 rfl) ?_
            refine z_bipush xX xB dX6_edge_37 (by decide) ?_
            refine z_idiv xX xB dX6_edge_39 (by omega) (by decide) ?_
            exact J12 ((i : Int) / 16) (by rw [h24]; rfl) _ _ _ wP wS (lv_sub wl [0, 1, 2, 3, 4, 5] rfl)
          · skip
            refine lv_iload xX xB dX6_edge_27 (lv_at wl 5 rfl) ?_
            refine z_bipush xX xB dX6_edge_29 (by decide) ?_
            refine z_irem xX xB dX6_edge_31 (by omega) (by decide) ?_
            refine lv_goto (tgt := 40) xX xB dX6_edge_32 (by decide) ?_
            exact J12 ((i : Int) % 16) (by rw [h24]; rfl) _ _ _ wP wS (lv_sub wl [0, 1, 2, 3, 4, 5] rfl)
    exact K _ 0 b0 (Nat.lt_succ_self _) (by omega) hb0 _ _ _ wP wS (lv_sub wl [2, 3, 4, 5, 1, 0] rfl)
  refine lv_iload_n xX xB dX6_edge_0 rfl (lv_at wl 3 rfl) ?_
  refine b_if_eq (tgt := 8) xX xB dX6_edge_1 (by decide) (fun h1 => ?_) (fun h1 => ?_)
  · skip
    refine z_bipush xX xB dX6_edge_8 (by decide) ?_
    exact J01 16 (by rw [h1]; rfl) _ _ _ wP wS (lv_sub wl [0, 1, 2, 3] rfl)
  · skip
    refine z_iconst xX xB dX6_edge_4 ?_
    refine lv_goto (tgt := 10) xX xB dX6_edge_5 (by decide) ?_
    exact J01 (-1) (by rw [h1]; rfl) _ _ _ wP wS (lv_sub wl [0, 1, 2, 3] rfl)

set_option maxHeartbeats 4000000 in
set_option maxRecDepth 100000 in
theorem c_X6_largest (l : Launch) (D : va_G) (kI kB : ClassId) (h : Nat) (a0 : Nat) (a1 : Nat) (a3 : Nat) (a4 : Nat) (a8 : Nat) (a9 : Nat) (a10 : Nat) (a13 : Nat) (a14 : Nat) (a15 : Nat) (a16 : Nat) (sd : Int) (uM : Int) (uA : Int) (F : Nat → Int) (P : Nat → Nat) (m8 : Bool) (NU : Nat → Int) (DF : Nat → Int) (LF : Nat → Int) (HA : Nat → Int) (hF : Pic F P) (hL : Lab P m8 NU DF LF HA) : gI l yX6_largest wsX6_largest ({ frames := 4, cells := 0, slots := 0, locals := 89 } : Room) D kI kB [.ref h] [(h, .inr (6, [.ref a0, .ref a1, .int (zI sd), .ref a3, .ref a4, .int (zI ((cD P m8 256 : Nat) : Int)), .int (zI ((cL P m8 256 : Nat) : Int)), .int (zI ((cH P m8 256 : Nat) : Int)), .ref a8, .ref a9, .ref a10, .int (zI uM), .int (zI uA), .ref a13, .ref a14, .ref a15, .ref a16])), (a0, .inl (kI, 17, .inl (aZ F))), (a3, .inl (kI, 256, .inl (aZ NU))), (a8, .inl (kI, 128, .inl (aZ DF))), (a9, .inl (kI, 128, .inl (aZ LF))), (a10, .inl (kI, 128, .inl (aZ HA)))] (zI (lgB P m8 (cD P m8 256))) := by
  refine g_start (cc := cX6_largest) (maxL := 5) (ret := (some .int)) (by decide) rfl (Nat.le_of_ble_eq_true rfl) ?_
  intro xp xe xs xm xbl xmt xc xX xB xR xM xT xO xL xN wP wD wK ls wl
  have wS : va_S (fun _ => False) xs.heap xs.heap [] := va_S.rf
  have wl : lv_has ls 5 [(0, .ref h)] := wl
  generalize hQ : MQ xbl _ _ xs 0 0 _ = xQ
  have hpb := cD_128 (P := P) (m8 := m8)
  refine z_iconst xX xB dX6_largest_0 ?_
  refine lv_istore_n (lv' := [(1, .int (zI (-1))), (0, .ref h)]) xX xB dX6_largest_1 rfl wl (by decide) rfl (fun ls wl => ?_)
  refine z_iconst xX xB dX6_largest_2 ?_
  refine lv_istore_n (lv' := [(2, .int (zI 0)), (1, .int (zI (-1))), (0, .ref h)]) xX xB dX6_largest_3 rfl wl (by decide) rfl (fun ls wl => ?_)
  refine z_iconst xX xB dX6_largest_4 ?_
  refine lv_istore_n (lv' := [(3, .int (zI 0)), (2, .int (zI 0)), (1, .int (zI (-1))), (0, .ref h)]) xX xB dX6_largest_5 rfl wl (by decide) rfl (fun ls wl => ?_)
  have K : ∀ n_ : Nat, ∀ (i : Nat) (b : Int) (m : Nat), cD P m8 256 - i < n_ → (i ≤ cD P m8 256) → (b = lgB P m8 i) → (m = lgM P m8 i) → ∀ (H : Heap) (locs : List Loc) (ls : Array Slot), va_P D gC [(h, .inr (6, [.ref a0, .ref a1, .int (zI sd), .ref a3, .ref a4, .int (zI ((cD P m8 256 : Nat) : Int)), .int (zI ((cL P m8 256 : Nat) : Int)), .int (zI ((cH P m8 256 : Nat) : Int)), .ref a8, .ref a9, .ref a10, .int (zI uM), .int (zI uA), .ref a13, .ref a14, .ref a15, .ref a16])), (a0, .inl (kI, 17, .inl (aZ F))), (a3, .inl (kI, 256, .inl (aZ NU))), (a8, .inl (kI, 128, .inl (aZ DF))), (a9, .inl (kI, 128, .inl (aZ LF))), (a10, .inl (kI, 128, .inl (aZ HA)))] H → va_S (fun _ => False) xs.heap H locs → lv_has ls 5 [(0, .ref h), (1, .int (zI b)), (2, .int (zI (m : Int))), (3, .int (zI (i : Int)))] → W xp l xe ({ frames := 4, cells := 0, slots := 0, locals := 89 } : Room) xs xm (List.toArray [.ref h]) xbl xmt xc H locs 0 0 xQ (F0 xm 6 ls []) := by
    intro n_
    induction n_ with
    | zero =>
      intro i b m hme
      exact absurd hme (Nat.not_lt_zero _)
    | succ n_ ihK =>
      intro i b m hme hi hb hm H locs ls wP wS wl
      have hmr := lgM_le (P := P) (m8 := m8) i
      refine lv_iload_n xX xB dX6_largest_6 rfl (lv_at wl 3 rfl) ?_
      refine lv_aload_n xX xB dX6_largest_7 rfl (lv_at wl 0 rfl) ?_
      refine va_get (D := D) (ci := 6) (v := .int (zI ((cD P m8 256 : Nat) : Int))) (C := RX6) (T := TX6) (N := 17) xX xB xT in_X6_largest_X6 xO wK.1 wP 0 rfl rfl 5 (by decide) (xT _ (List.mem_of_getElem? (i := 1) rfl)) (fun _ h9 => h9) rfl dX6_largest_8 ?_
      refine z_icmp_ge (tgt := 53) xX xB dX6_largest_11 (by decide) (by omega) (by omega) (fun h11 => ?_) (fun h11 => ?_)
      · skip
        refine lv_iload_n xX xB dX6_largest_53 rfl (lv_at wl 1 rfl) ?_
        subst hQ
        exact g_iret xX xB xR xL wS dX6_largest_54 (congrArg zI (by rw [hb, show i = cD P m8 256 by omega]))
      · skip
        obtain ⟨hR, hD, hcD⟩ := selD_spec (P := P) (m8 := m8) (k := i) (by omega)
        have hsz := szR_le (P := P) (m8 := m8) (selD P m8 i)
        refine lv_aload_n xX xB dX6_largest_14 rfl (lv_at wl 0 rfl) ?_
        refine z_iconst xX xB dX6_largest_15 ?_
        refine lv_iload_n xX xB dX6_largest_16 rfl (lv_at wl 3 rfl) ?_
        refine g_pure (va_runV (As := [.int (zI 1), .int (zI (i : Int))]) (rest := []) ⟨xX, xB, xM, xO, xT⟩ (c_X6_sizeOf l D kI kB h a0 a1 a3 a4 a8 a9 a10 a13 a14 a15 a16 sd uM uA F P m8 NU DF LF HA (selD P m8 i) true i hF hL hR hD.1 hD.2 (by rw [hcD]; rfl)) (cwV 2 xT gX6_largest_X6_sizeOf rfl rfl rfl hd_X6_sizeOf ⟨Nat.le_of_ble_eq_true rfl, Nat.le_of_ble_eq_true rfl⟩) (g_preV (ci := 6) (q0 := 0) wP wD wK [0, 1, 2, 3, 4, 5] (by decide) rfl rfl rfl) rfl rfl wl.1 rfl (lv_room (Nat.le_of_ble_eq_true rfl)) dX6_largest_17 ⟨Nat.le_of_ble_eq_true rfl, Nat.le_of_ble_eq_true rfl⟩) wP wS (fun H locs wP wS => ?_)
        refine lv_istore (lv' := [(4, .int (zI ((szR P m8 (selD P m8 i) : Nat) : Int))), (0, .ref h), (1, .int (zI b)), (2, .int (zI (m : Int))), (3, .int (zI (i : Int)))]) xX xB dX6_largest_20 wl (by decide) rfl (fun ls wl => ?_)
        have J11 : ∀ (b2 : Int), (b2 = if m < szR P m8 (selD P m8 i) then (i : Int) else b) → ∀ (H : Heap) (locs : List Loc) (ls : Array Slot), va_P D gC [(h, .inr (6, [.ref a0, .ref a1, .int (zI sd), .ref a3, .ref a4, .int (zI ((cD P m8 256 : Nat) : Int)), .int (zI ((cL P m8 256 : Nat) : Int)), .int (zI ((cH P m8 256 : Nat) : Int)), .ref a8, .ref a9, .ref a10, .int (zI uM), .int (zI uA), .ref a13, .ref a14, .ref a15, .ref a16])), (a0, .inl (kI, 17, .inl (aZ F))), (a3, .inl (kI, 256, .inl (aZ NU))), (a8, .inl (kI, 128, .inl (aZ DF))), (a9, .inl (kI, 128, .inl (aZ LF))), (a10, .inl (kI, 128, .inl (aZ HA)))] H → va_S (fun _ => False) xs.heap H locs → lv_has ls 5 [(4, .int (zI ((szR P m8 (selD P m8 i) : Nat) : Int))), (0, .ref h), (1, .int (zI b)), (2, .int (zI (m : Int))), (3, .int (zI (i : Int)))] → W xp l xe ({ frames := 4, cells := 0, slots := 0, locals := 89 } : Room) xs xm (List.toArray [.ref h]) xbl xmt xc H locs 0 0 xQ (F0 xm 33 ls [.int (zI b2)]) := by
          intro b2 hb2 H locs ls wP wS wl
          refine lv_istore_n (lv' := [(1, .int (zI b2)), (4, .int (zI ((szR P m8 (selD P m8 i) : Nat) : Int))), (0, .ref h), (2, .int (zI (m : Int))), (3, .int (zI (i : Int)))]) xX xB dX6_largest_33 rfl wl (by decide) rfl (fun ls wl => ?_)
          have J22 : ∀ (m2 : Nat), (m2 = if m < szR P m8 (selD P m8 i) then szR P m8 (selD P m8 i) else m) → ∀ (H : Heap) (locs : List Loc) (ls : Array Slot), va_P D gC [(h, .inr (6, [.ref a0, .ref a1, .int (zI sd), .ref a3, .ref a4, .int (zI ((cD P m8 256 : Nat) : Int)), .int (zI ((cL P m8 256 : Nat) : Int)), .int (zI ((cH P m8 256 : Nat) : Int)), .ref a8, .ref a9, .ref a10, .int (zI uM), .int (zI uA), .ref a13, .ref a14, .ref a15, .ref a16])), (a0, .inl (kI, 17, .inl (aZ F))), (a3, .inl (kI, 256, .inl (aZ NU))), (a8, .inl (kI, 128, .inl (aZ DF))), (a9, .inl (kI, 128, .inl (aZ LF))), (a10, .inl (kI, 128, .inl (aZ HA)))] H → va_S (fun _ => False) xs.heap H locs → lv_has ls 5 [(1, .int (zI b2)), (4, .int (zI ((szR P m8 (selD P m8 i) : Nat) : Int))), (0, .ref h), (2, .int (zI (m : Int))), (3, .int (zI (i : Int)))] → W xp l xe ({ frames := 4, cells := 0, slots := 0, locals := 89 } : Room) xs xm (List.toArray [.ref h]) xbl xmt xc H locs 0 0 xQ (F0 xm 46 ls [.int (zI (m2 : Int))]) := by
            intro m2 hm2 H locs ls wP wS wl
            refine lv_istore_n (lv' := [(2, .int (zI (m2 : Int))), (1, .int (zI b2)), (4, .int (zI ((szR P m8 (selD P m8 i) : Nat) : Int))), (0, .ref h), (3, .int (zI (i : Int)))]) xX xB dX6_largest_46 rfl wl (by decide) rfl (fun ls wl => ?_)
            refine lv_iinc (v := zI ((i : Int) + 1)) (lv' := [(3, .int (zI ((i : Int) + 1))), (2, .int (zI (m2 : Int))), (1, .int (zI b2)), (4, .int (zI ((szR P m8 (selD P m8 i) : Nat) : Int))), (0, .ref h)]) xX xB dX6_largest_47 wl (k := 4) rfl (zI_add _ _) (by decide) rfl (fun ls wl => ?_)
            refine lv_goto (tgt := 6) xX xB dX6_largest_50 (by decide) ?_
            exact ihK (i + 1) b2 m2 (by omega) (by omega) (by rw [hb2, hb, hm]; rfl) (by rw [hm2, hm]; rfl) _ _ _ wP wS (lv_sub wl [4, 2, 1, 0] rfl)
          refine lv_iload xX xB dX6_largest_34 (lv_at wl 1 rfl) ?_
          refine lv_iload_n xX xB dX6_largest_36 rfl (lv_at wl 3 rfl) ?_
          refine z_icmp_le (tgt := 45) xX xB dX6_largest_37 (by decide) (by omega) (by omega) (fun h37 => ?_) (fun h37 => ?_)
          · skip
            refine lv_iload_n xX xB dX6_largest_45 rfl (lv_at wl 3 rfl) ?_
            exact J22 m (by first | rw [if_pos (by omega)] | rw [if_neg (by omega)]) _ _ _ wP wS (lv_sub wl [0, 1, 2, 3, 4] rfl)
          · skip
            refine lv_iload xX xB dX6_largest_40 (lv_at wl 1 rfl) ?_
            refine lv_goto (tgt := 46) xX xB dX6_largest_42 (by decide) ?_
            exact J22 (szR P m8 (selD P m8 i)) (by first | rw [if_pos (by omega)] | rw [if_neg (by omega)]) _ _ _ wP wS (lv_sub wl [0, 1, 2, 3, 4] rfl)
        refine lv_iload xX xB dX6_largest_22 (lv_at wl 0 rfl) ?_
        refine lv_iload_n xX xB dX6_largest_24 rfl (lv_at wl 3 rfl) ?_
        refine z_icmp_le (tgt := 32) xX xB dX6_largest_25 (by decide) (by omega) (by omega) (fun h25 => ?_) (fun h25 => ?_)
        · skip
          refine lv_iload_n xX xB dX6_largest_32 rfl (lv_at wl 2 rfl) ?_
          exact J11 b (by first | rw [if_pos (by omega)] | rw [if_neg (by omega)]) _ _ _ wP wS (lv_sub wl [0, 1, 2, 3, 4] rfl)
        · skip
          refine lv_iload_n xX xB dX6_largest_28 rfl (lv_at wl 4 rfl) ?_
          refine lv_goto (tgt := 33) xX xB dX6_largest_29 (by decide) ?_
          exact J11 (i : Int) (by first | rw [if_pos (by omega)] | rw [if_neg (by omega)]) _ _ _ wP wS (lv_sub wl [0, 1, 2, 3, 4] rfl)
  exact K _ 0 (-1) 0 (Nat.lt_succ_self _) (by omega) rfl rfl _ _ _ wP wS (lv_sub wl [3, 2, 1, 0] rfl)

set_option maxHeartbeats 4000000 in
set_option maxRecDepth 100000 in
theorem c_X6_partsOf (l : Launch) (D : va_G) (kI kB : ClassId) (h : Nat) (a0 : Nat) (a1 : Nat) (a3 : Nat) (a4 : Nat) (a8 : Nat) (a9 : Nat) (a10 : Nat) (a13 : Nat) (a14 : Nat) (a15 : Nat) (a16 : Nat) (sd : Int) (dM : Int) (lM : Int) (hM : Int) (uM : Int) (uA : Int) (a : Nat) (F : Nat → Int) (P : Nat → Nat) (m8 : Bool) (NU : Nat → Int) (QU : Nat → Int) (DF : Nat → Int) (LF : Nat → Int) (HA : Nat → Int) (hF : Pic F P) (rm16 : -2147483648 ≤ F 16 ∧ F 16 ≤ 2147483647) (hm : m8 = decide (F 16 = 8)) : gM l yX6_partsOf wsX6_partsOf ({ frames := 4, cells := 0, slots := 0, locals := 101 } : Room) D kI kB [.ref h, .ref a] [(h, .inr (6, [.ref a0, .ref a1, .int (zI sd), .ref a3, .ref a4, .int (zI dM), .int (zI lM), .int (zI hM), .ref a8, .ref a9, .ref a10, .int (zI uM), .int (zI uA), .ref a13, .ref a14, .ref a15, .ref a16])), (a, .inl (kI, 17, .inl (aZ F))), (a3, .inl (kI, 256, .inl (aZ NU))), (a4, .inl (kI, 256, .inl (aZ QU))), (a8, .inl (kI, 128, .inl (aZ DF))), (a9, .inl (kI, 128, .inl (aZ LF))), (a10, .inl (kI, 128, .inl (aZ HA)))] (fun (w_ : (Nat → Int) × (Nat → Int) × (Nat → Int) × (Nat → Int) × (Nat → Int)) => [(h, .inr (6, [.ref a0, .ref a1, .int (zI sd), .ref a3, .ref a4, .int (zI ((cD P m8 256 : Nat) : Int)), .int (zI ((cL P m8 256 : Nat) : Int)), .int (zI ((cH P m8 256 : Nat) : Int)), .ref a8, .ref a9, .ref a10, .int (zI uM), .int (zI uA), .ref a13, .ref a14, .ref a15, .ref a16])), (a, .inl (kI, 17, .inl (aZ F))), (a3, .inl (kI, 256, .inl (aZ (w_.1)))), (a4, .inl (kI, 256, .inl (aZ (w_.2.1)))), (a8, .inl (kI, 128, .inl (aZ (w_.2.2.1)))), (a9, .inl (kI, 128, .inl (aZ (w_.2.2.2.1)))), (a10, .inl (kI, 128, .inl (aZ (w_.2.2.2.2))))]) (fun (r : Int32) (w_ : (Nat → Int) × (Nat → Int) × (Nat → Int) × (Nat → Int) × (Nat → Int)) => r = zI ((cD P m8 256 : Nat) : Int) ∧ Lab P m8 (w_.1) (w_.2.2.1) (w_.2.2.2.1) (w_.2.2.2.2)) := by
  refine g_start (cc := cX6_partsOf) (maxL := 2) (ret := (some .int)) (by decide) rfl (Nat.le_of_ble_eq_true rfl) ?_
  intro xp xe xs xm xbl xmt xc xX xB xR xM xT xO xL xN wP wD wK ls wl
  have wS : va_S (gA [(h, .inr (6, [.ref a0, .ref a1, .int (zI sd), .ref a3, .ref a4, .int (zI dM), .int (zI lM), .int (zI hM), .ref a8, .ref a9, .ref a10, .int (zI uM), .int (zI uA), .ref a13, .ref a14, .ref a15, .ref a16])), (a, .inl (kI, 17, .inl (aZ F))), (a3, .inl (kI, 256, .inl (aZ NU))), (a4, .inl (kI, 256, .inl (aZ QU))), (a8, .inl (kI, 128, .inl (aZ DF))), (a9, .inl (kI, 128, .inl (aZ LF))), (a10, .inl (kI, 128, .inl (aZ HA)))]) xs.heap xs.heap [] := va_S.rf
  have wl : lv_has ls 2 [(0, .ref h), (1, .ref a)] := wl
  refine lv_aload_n xX xB dX6_partsOf_0 rfl (lv_at wl 0 rfl) ?_
  refine lv_aload_n xX xB dX6_partsOf_1 rfl (lv_at wl 1 rfl) ?_
  refine g_modv (va_runV (As := [.ref a]) (rest := []) ⟨xX, xB, xM, xO, xT⟩ (c_X6_parts l D kI kB h a0 a1 a3 a4 a8 a9 a10 a13 a14 a15 a16 sd dM lM hM uM uA a F P m8 NU QU DF LF HA hF rm16 hm) (cwV 1 xT gX6_partsOf_X6_parts rfl rfl rfl hd_X6_parts ⟨Nat.le_of_ble_eq_true rfl, Nat.le_of_ble_eq_true rfl⟩) (g_preV (ci := 6) (q0 := 0) wP wD wK [0, 1, 2, 3, 4, 5, 6] (by decide) rfl rfl rfl) rfl rfl wl.1 rfl (lv_room (Nat.le_of_ble_eq_true rfl)) dX6_partsOf_2 ⟨Nat.le_of_ble_eq_true rfl, Nat.le_of_ble_eq_true rfl⟩) wP wD wS [0, 1, 2, 3, 4, 5, 6] rfl (fun _ => rfl) (fun u_ H locs hc2 wP wD wS => ?_)
  obtain ⟨NU1_1, QU1_2, DF1_3, LF1_4, HA1_5⟩ := u_
  try dsimp only at hc2
  have wP : va_P D gC [(h, .inr (6, [.ref a0, .ref a1, .int (zI sd), .ref a3, .ref a4, .int (zI ((cD P m8 256 : Nat) : Int)), .int (zI ((cL P m8 256 : Nat) : Int)), .int (zI ((cH P m8 256 : Nat) : Int)), .ref a8, .ref a9, .ref a10, .int (zI uM), .int (zI uA), .ref a13, .ref a14, .ref a15, .ref a16])), (a, .inl (kI, 17, .inl (aZ F))), (a3, .inl (kI, 256, .inl (aZ NU1_1))), (a4, .inl (kI, 256, .inl (aZ QU1_2))), (a8, .inl (kI, 128, .inl (aZ DF1_3))), (a9, .inl (kI, 128, .inl (aZ LF1_4))), (a10, .inl (kI, 128, .inl (aZ HA1_5)))] H := wP
  have wD : va_D (gA [(h, .inr (6, [.ref a0, .ref a1, .int (zI sd), .ref a3, .ref a4, .int (zI dM), .int (zI lM), .int (zI hM), .ref a8, .ref a9, .ref a10, .int (zI uM), .int (zI uA), .ref a13, .ref a14, .ref a15, .ref a16])), (a, .inl (kI, 17, .inl (aZ F))), (a3, .inl (kI, 256, .inl (aZ NU))), (a4, .inl (kI, 256, .inl (aZ QU))), (a8, .inl (kI, 128, .inl (aZ DF))), (a9, .inl (kI, 128, .inl (aZ LF))), (a10, .inl (kI, 128, .inl (aZ HA)))]) [(h, .inr (6, [.ref a0, .ref a1, .int (zI sd), .ref a3, .ref a4, .int (zI ((cD P m8 256 : Nat) : Int)), .int (zI ((cL P m8 256 : Nat) : Int)), .int (zI ((cH P m8 256 : Nat) : Int)), .ref a8, .ref a9, .ref a10, .int (zI uM), .int (zI uA), .ref a13, .ref a14, .ref a15, .ref a16])), (a, .inl (kI, 17, .inl (aZ F))), (a3, .inl (kI, 256, .inl (aZ NU1_1))), (a4, .inl (kI, 256, .inl (aZ QU1_2))), (a8, .inl (kI, 128, .inl (aZ DF1_3))), (a9, .inl (kI, 128, .inl (aZ LF1_4))), (a10, .inl (kI, 128, .inl (aZ HA1_5)))] := wD
  refine lv_aload_n xX xB dX6_partsOf_5 rfl (lv_at wl 0 rfl) ?_
  refine va_get (D := D) (ci := 6) (v := .int (zI ((cD P m8 256 : Nat) : Int))) (C := RX6) (T := TX6) (N := 17) xX xB xT in_X6_partsOf_X6 xO wK.1 wP 0 rfl rfl 5 (by decide) (xT _ (List.mem_of_getElem? (i := 1) rfl)) (fun _ h9 => h9) rfl dX6_partsOf_6 ?_
  exact g_mret (NU1_1, QU1_2, DF1_3, LF1_4, HA1_5) xX xB xR xL wP wS dX6_partsOf_9 ⟨rfl, hc2⟩
