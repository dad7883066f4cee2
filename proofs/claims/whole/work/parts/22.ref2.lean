set_option maxRecDepth 20000 in
theorem in_X6_floods_X6 : ∀ w ∈ u_ws RX6 TX6 17, w ∈ wsX6_floods := by decide +kernel
theorem hdn_X6_isDark : yX6_isDark.cls ≠ "java/lang/invoke/MethodHandle" ∧ yX6_isDark.cls ≠ "java/lang/invoke/VarHandle" ∧ (parseMethodDescriptor yX6_isDark.desc).map (fun d => d.parameters.length) = some 2 := by decide +kernel
set_option maxHeartbeats 4000000 in
set_option maxRecDepth 100000 in
theorem c_X6_floods (l : Launch) (D : va_G) (kI kB : ClassId) (h : Nat) (a0 : Nat) (a1 : Nat) (a3 : Nat) (a4 : Nat) (a8 : Nat) (a9 : Nat) (a10 : Nat) (a13 : Nat) (a14 : Nat) (a15 : Nat) (a16 : Nat) (sd : Int) (dM : Int) (lM : Int) (hM : Int) (uM : Int) (uA : Int) (a : Nat) (F : Nat → Int) (P : Nat → Nat) (m8 : Bool) (NU : Nat → Int) (QU : Nat → Int) (x : Nat) (num : Nat) (hF : Pic F P) (rm16 : -2147483648 ≤ F 16 ∧ F 16 ≤ 2147483647) (hm : m8 = decide (F 16 = 8)) (hx : x < 256) (hnum : num < 1000) (hfree : FreeI P m8 x NU) : gM l yX6_floods wsX6_floods ({ frames := 2, cells := 0, slots := 0, locals := 43 } : Room) D kI kB [.ref h, .ref a, .int (zI (x : Int)), .int (zI (num : Int))] [(h, .inr (6, [.ref a0, .ref a1, .int (zI sd), .ref a3, .ref a4, .int (zI dM), .int (zI lM), .int (zI hM), .ref a8, .ref a9, .ref a10, .int (zI uM), .int (zI uA), .ref a13, .ref a14, .ref a15, .ref a16])), (a, .inl (kI, 17, .inl (aZ F))), (a3, .inl (kI, 256, .inl (aZ NU))), (a4, .inl (kI, 256, .inl (aZ QU)))] (fun (w_ : (Nat → Int) × (Nat → Int)) => [(h, .inr (6, [.ref a0, .ref a1, .int (zI sd), .ref a3, .ref a4, .int (zI dM), .int (zI lM), .int (zI hM), .ref a8, .ref a9, .ref a10, .int (zI uM), .int (zI uA), .ref a13, .ref a14, .ref a15, .ref a16])), (a, .inl (kI, 17, .inl (aZ F))), (a3, .inl (kI, 256, .inl (aZ (w_.1)))), (a4, .inl (kI, 256, .inl (aZ (w_.2))))]) (fun (r : Int32) (w_ : (Nat → Int) × (Nat → Int)) => r = bI (cb (∃ y, y < 256 ∧ Cn P m8 x y ∧ onrim y)) ∧ (∀ y, y < 256 → (Cn P m8 x y → (w_.1) y = (num : Int)) ∧ (¬ Cn P m8 x y → (w_.1) y = NU y))) := by
  refine g_start (cc := cX6_floods) (maxL := 16) (ret := (some .boolean)) (by decide) rfl (Nat.le_of_ble_eq_true rfl) ?_
  intro xp xe xs xm xbl xmt xc xX xB xR xM xT xO xL xN wP wD wK ls wl
  have wS : va_S (gA [(h, .inr (6, [.ref a0, .ref a1, .int (zI sd), .ref a3, .ref a4, .int (zI dM), .int (zI lM), .int (zI hM), .ref a8, .ref a9, .ref a10, .int (zI uM), .int (zI uA), .ref a13, .ref a14, .ref a15, .ref a16])), (a, .inl (kI, 17, .inl (aZ F))), (a3, .inl (kI, 256, .inl (aZ NU))), (a4, .inl (kI, 256, .inl (aZ QU)))]) xs.heap xs.heap [] := va_S.rf
  have wl : lv_has ls 16 [(0, .ref h), (1, .ref a), (2, .int (zI (x : Int))), (3, .int (zI (num : Int)))] := wl
  generalize hQ : MQ xbl _ _ xs 0 0 _ = xQ
  refine lv_aload_n xX xB dX6_floods_0 rfl (lv_at wl 1 rfl) ?_
  refine lv_iload_n xX xB dX6_floods_1 rfl (lv_at wl 2 rfl) ?_
  refine g_pure (va_runS (As := [.ref a, .int (zI (x : Int))]) (rest := []) ⟨xX, xB, xM, xO, xT⟩ (c_X6_isDark l D kI kB a F P x hF hx) (va_cwS 2 xT gX6_floods_X6_isDark rfl rfl rfl hdn_X6_isDark ⟨Nat.le_of_ble_eq_true rfl, Nat.le_of_ble_eq_true rfl⟩) (g_preS wP wD wK [1] (by decide) rfl) rfl rfl wl.1 rfl (lv_room (Nat.le_of_ble_eq_true rfl)) dX6_floods_2 ⟨Nat.le_of_ble_eq_true rfl, Nat.le_of_ble_eq_true rfl⟩) wP wS (fun H locs wP wS => ?_)
  refine lv_istore (lv' := [(4, .int (bI (dk P x))), (0, .ref h), (1, .ref a), (2, .int (zI (x : Int))), (3, .int (zI (num : Int)))]) xX xB dX6_floods_5 wl (by decide) rfl (fun ls wl => ?_)
  refine lv_iload xX xB dX6_floods_7 (lv_at wl 0 rfl) ?_
  refine lv_aload_n xX xB dX6_floods_9 rfl (lv_at wl 2 rfl) ?_
  refine z_bipush xX xB dX6_floods_10 (by decide) ?_
  refine z_iald xX xB wK wP 1 rfl 16 rfl (by decide) (Nat.le_of_ble_eq_true rfl) dX6_floods_12 ?_
  refine z_bipush xX xB dX6_floods_13 (by decide) ?_
  refine t_icmp_ne xX xB dX6_floods_15 dX6_floods_18 dX6_floods_19 dX6_floods_22 (by omega) (by omega) ?_
  refine t_bicmp_ne xX xB dX6_floods_23 dX6_floods_26 dX6_floods_27 dX6_floods_30 ?_
  refine lv_ri (y := bI (dk P x == m8)) (by rw [hm]) ?_
  refine lv_istore (lv' := [(5, .int (bI (dk P x == m8))), (4, .int (bI (dk P x))), (0, .ref h), (1, .ref a), (2, .int (zI (x : Int))), (3, .int (zI (num : Int)))]) xX xB dX6_floods_31 wl (by decide) rfl (fun ls wl => ?_)
  refine z_iconst xX xB dX6_floods_33 ?_
  refine lv_istore (lv' := [(6, .int (zI 0)), (5, .int (bI (dk P x == m8))), (4, .int (bI (dk P x))), (0, .ref h), (1, .ref a), (2, .int (zI (x : Int))), (3, .int (zI (num : Int)))]) xX xB dX6_floods_34 wl (by decide) rfl (fun ls wl => ?_)
  refine z_iconst xX xB dX6_floods_36 ?_
  refine lv_istore (lv' := [(7, .int (zI 0)), (6, .int (zI 0)), (5, .int (bI (dk P x == m8))), (4, .int (bI (dk P x))), (0, .ref h), (1, .ref a), (2, .int (zI (x : Int))), (3, .int (zI (num : Int)))]) xX xB dX6_floods_37 wl (by decide) rfl (fun ls wl => ?_)
  refine z_iconst xX xB dX6_floods_39 ?_
  refine lv_istore (lv' := [(8, .int (zI 1)), (7, .int (zI 0)), (6, .int (zI 0)), (5, .int (bI (dk P x == m8))), (4, .int (bI (dk P x))), (0, .ref h), (1, .ref a), (2, .int (zI (x : Int))), (3, .int (zI (num : Int)))]) xX xB dX6_floods_40 wl (by decide) rfl (fun ls wl => ?_)
  refine lv_aload_n xX xB dX6_floods_42 rfl (lv_at wl 5 rfl) ?_
  refine va_get (D := D) (ci := 6) (v := .ref a4) (C := RX6) (T := TX6) (N := 17) xX xB xT in_X6_floods_X6 xO wK.1 wP 0 rfl rfl 4 (by decide) (xT _ (List.mem_of_getElem? (i := 1) rfl)) (fun _ h9 => h9) rfl dX6_floods_43 ?_
  refine z_iconst xX xB dX6_floods_46 ?_
  refine lv_iload_n xX xB dX6_floods_47 rfl (lv_at wl 7 rfl) ?_
  refine z_iast xX xB wK wP wD wS 3 rfl 0 rfl (by decide) (Nat.le_of_ble_eq_true rfl) dX6_floods_48 (fun H locs wP wD wS => ?_)
  have wP : va_P D gC [(h, .inr (6, [.ref a0, .ref a1, .int (zI sd), .ref a3, .ref a4, .int (zI dM), .int (zI lM), .int (zI hM), .ref a8, .ref a9, .ref a10, .int (zI uM), .int (zI uA), .ref a13, .ref a14, .ref a15, .ref a16])), (a, .inl (kI, 17, .inl (aZ F))), (a3, .inl (kI, 256, .inl (aZ NU))), (a4, .inl (kI, 256, .inl (aZ (uZ QU 0 (x : Int)))))] H := wP
  have wD : va_D (gA [(h, .inr (6, [.ref a0, .ref a1, .int (zI sd), .ref a3, .ref a4, .int (zI dM), .int (zI lM), .int (zI hM), .ref a8, .ref a9, .ref a10, .int (zI uM), .int (zI uA), .ref a13, .ref a14, .ref a15, .ref a16])), (a, .inl (kI, 17, .inl (aZ F))), (a3, .inl (kI, 256, .inl (aZ NU))), (a4, .inl (kI, 256, .inl (aZ QU)))]) [(h, .inr (6, [.ref a0, .ref a1, .int (zI sd), .ref a3, .ref a4, .int (zI dM), .int (zI lM), .int (zI hM), .ref a8, .ref a9, .ref a10, .int (zI uM), .int (zI uA), .ref a13, .ref a14, .ref a15, .ref a16])), (a, .inl (kI, 17, .inl (aZ F))), (a3, .inl (kI, 256, .inl (aZ NU))), (a4, .inl (kI, 256, .inl (aZ (uZ QU 0 (x : Int)))))] := wD
  refine lv_aload_n xX xB dX6_floods_49 rfl (lv_at wl 5 rfl) ?_
  refine va_get (D := D) (ci := 6) (v := .ref a3) (C := RX6) (T := TX6) (N := 17) xX xB xT in_X6_floods_X6 xO wK.1 wP 0 rfl rfl 3 (by decide) (xT _ (List.mem_of_getElem? (i := 2) rfl)) (fun _ h9 => h9) rfl dX6_floods_50 ?_
  refine lv_iload_n xX xB dX6_floods_53 rfl (lv_at wl 7 rfl) ?_
  refine lv_iload_n xX xB dX6_floods_54 rfl (lv_at wl 8 rfl) ?_
  refine z_iast xX xB wK wP wD wS 2 rfl x rfl (by omega) (Nat.le_of_ble_eq_true rfl) dX6_floods_55 (fun H locs wP wD wS => ?_)
  have wP : va_P D gC [(h, .inr (6, [.ref a0, .ref a1, .int (zI sd), .ref a3, .ref a4, .int (zI dM), .int (zI lM), .int (zI hM), .ref a8, .ref a9, .ref a10, .int (zI uM), .int (zI uA), .ref a13, .ref a14, .ref a15, .ref a16])), (a, .inl (kI, 17, .inl (aZ F))), (a3, .inl (kI, 256, .inl (aZ (uZ NU x (num : Int))))), (a4, .inl (kI, 256, .inl (aZ (uZ QU 0 (x : Int)))))] H := wP
  have wD : va_D (gA [(h, .inr (6, [.ref a0, .ref a1, .int (zI sd), .ref a3, .ref a4, .int (zI dM), .int (zI lM), .int (zI hM), .ref a8, .ref a9, .ref a10, .int (zI uM), .int (zI uA), .ref a13, .ref a14, .ref a15, .ref a16])), (a, .inl (kI, 17, .inl (aZ F))), (a3, .inl (kI, 256, .inl (aZ NU))), (a4, .inl (kI, 256, .inl (aZ QU)))]) [(h, .inr (6, [.ref a0, .ref a1, .int (zI sd), .ref a3, .ref a4, .int (zI dM), .int (zI lM), .int (zI hM), .ref a8, .ref a9, .ref a10, .int (zI uM), .int (zI uA), .ref a13, .ref a14, .ref a15, .ref a16])), (a, .inl (kI, 17, .inl (aZ F))), (a3, .inl (kI, 256, .inl (aZ (uZ NU x (num : Int))))), (a4, .inl (kI, 256, .inl (aZ (uZ QU 0 (x : Int)))))] := wD
  have K : ∀ n_ : Nat, ∀ (b : Bool) (fr : Nat) (to : Nat) (Q : Nat → Nat) (NU1 : Nat → Int) (QU1 : Nat → Int), 256 - fr < n_ → (FI P m8 x (num : Int) NU NU1 QU1 Q fr to) → (RimI b Q fr) → ∀ (H : Heap) (locs : List Loc) (ls : Array Slot), va_P D gC [(h, .inr (6, [.ref a0, .ref a1, .int (zI sd), .ref a3, .ref a4, .int (zI dM), .int (zI lM), .int (zI hM), .ref a8, .ref a9, .ref a10, .int (zI uM), .int (zI uA), .ref a13, .ref a14, .ref a15, .ref a16])), (a, .inl (kI, 17, .inl (aZ F))), (a3, .inl (kI, 256, .inl (aZ NU1))), (a4, .inl (kI, 256, .inl (aZ QU1)))] H → va_D (gA [(h, .inr (6, [.ref a0, .ref a1, .int (zI sd), .ref a3, .ref a4, .int (zI dM), .int (zI lM), .int (zI hM), .ref a8, .ref a9, .ref a10, .int (zI uM), .int (zI uA), .ref a13, .ref a14, .ref a15, .ref a16])), (a, .inl (kI, 17, .inl (aZ F))), (a3, .inl (kI, 256, .inl (aZ NU))), (a4, .inl (kI, 256, .inl (aZ QU)))]) [(h, .inr (6, [.ref a0, .ref a1, .int (zI sd), .ref a3, .ref a4, .int (zI dM), .int (zI lM), .int (zI hM), .ref a8, .ref a9, .ref a10, .int (zI uM), .int (zI uA), .ref a13, .ref a14, .ref a15, .ref a16])), (a, .inl (kI, 17, .inl (aZ F))), (a3, .inl (kI, 256, .inl (aZ NU1))), (a4, .inl (kI, 256, .inl (aZ QU1)))] → va_S (gA [(h, .inr (6, [.ref a0, .ref a1, .int (zI sd), .ref a3, .ref a4, .int (zI dM), .int (zI lM), .int (zI hM), .ref a8, .ref a9, .ref a10, .int (zI uM), .int (zI uA), .ref a13, .ref a14, .ref a15, .ref a16])), (a, .inl (kI, 17, .inl (aZ F))), (a3, .inl (kI, 256, .inl (aZ NU))), (a4, .inl (kI, 256, .inl (aZ QU)))]) xs.heap H locs → lv_has ls 16 [(0, .ref h), (1, .ref a), (2, .int (zI (x : Int))), (3, .int (zI (num : Int))), (4, .int (bI (dk P x))), (5, .int (bI (dk P x == m8))), (6, .int (bI b)), (7, .int (zI (fr : Int))), (8, .int (zI (to : Int)))] → W xp l xe ({ frames := 2, cells := 0, slots := 0, locals := 43 } : Room) xs xm (List.toArray [.ref h, .ref a, .int (zI (x : Int)), .int (zI (num : Int))]) xbl xmt xc H locs 0 0 xQ (F0 xm 56 ls []) := by
    intro n_
    induction n_ with
    | zero =>
      intro b fr to Q NU1 QU1 hme
      exact absurd hme (Nat.not_lt_zero _)
    | succ n_ ihK =>
      intro b fr to Q NU1 QU1 hme hI hbr H locs ls wP wD wS wl
      have hbd := hI.1
      refine lv_iload xX xB dX6_floods_56 (lv_at wl 7 rfl) ?_
      refine lv_iload xX xB dX6_floods_58 (lv_at wl 8 rfl) ?_
      refine z_icmp_ge (tgt := 254) xX xB dX6_floods_60 (by decide) (by omega) (by omega) (fun h60 => ?_) (fun h60 => ?_)
      · skip
        refine lv_iload xX xB dX6_floods_254 (lv_at wl 6 rfl) ?_
        subst hQ
        exact g_mzret (NU1, QU1) xX xB xR xL wP wS dX6_floods_256 ⟨congrArg bI (hI.rim (by omega) hfree.1 hx (by omega) hbr), hI.fin (by omega) hfree.1 hx (by omega)⟩
      · skip
        obtain ⟨u, hu0⟩ : ∃ u : Nat, Q fr = u := ⟨_, rfl⟩
        have hcb : u < 256 := by rw [← hu0]; exact (hI.2.1 fr (by omega)).2.1
        have hcx : Cn P m8 x u := by rw [← hu0]; exact (hI.2.1 fr (by omega)).2.2.1
        refine lv_aload_n xX xB dX6_floods_63 rfl (lv_at wl 0 rfl) ?_
        refine va_get (D := D) (ci := 6) (v := .ref a4) (C := RX6) (T := TX6) (N := 17) xX xB xT in_X6_floods_X6 xO wK.1 wP 0 rfl rfl 4 (by decide) (xT _ (List.mem_of_getElem? (i := 1) rfl)) (fun _ h9 => h9) rfl dX6_floods_64 ?_
        refine lv_iload xX xB dX6_floods_67 (lv_at wl 7 rfl) ?_
        refine z_iald xX xB wK wP 3 rfl fr rfl (by omega) (Nat.le_of_ble_eq_true rfl) dX6_floods_69 ?_
        refine lv_ri (y := zI (u : Int)) (congrArg zI (by rw [← hu0]; exact (hI.2.1 fr (by omega)).1)) ?_
        refine z_bipush xX xB dX6_floods_70 (by decide) ?_
        refine z_idiv xX xB dX6_floods_72 (by omega) (by decide) ?_
        refine lv_istore (lv' := [(9, .int (zI ((u : Int) / 16))), (0, .ref h), (1, .ref a), (2, .int (zI (x : Int))), (3, .int (zI (num : Int))), (4, .int (bI (dk P x))), (5, .int (bI (dk P x == m8))), (6, .int (bI b)), (7, .int (zI (fr : Int))), (8, .int (zI (to : Int)))]) xX xB dX6_floods_73 wl (by decide) rfl (fun ls wl => ?_)
        refine lv_aload_n xX xB dX6_floods_75 rfl (lv_at wl 1 rfl) ?_
        refine va_get (D := D) (ci := 6) (v := .ref a4) (C := RX6) (T := TX6) (N := 17) xX xB xT in_X6_floods_X6 xO wK.1 wP 0 rfl rfl 4 (by decide) (xT _ (List.mem_of_getElem? (i := 1) rfl)) (fun _ h9 => h9) rfl dX6_floods_76 ?_
        refine lv_iload xX xB dX6_floods_79 (lv_at wl 8 rfl) ?_
        refine z_iald xX xB wK wP 3 rfl fr rfl (by omega) (Nat.le_of_ble_eq_true rfl) dX6_floods_81 ?_
        refine lv_ri (y := zI (u : Int)) (congrArg zI (by rw [← hu0]; exact (hI.2.1 fr (by omega)).1)) ?_
        refine z_bipush xX xB dX6_floods_82 (by decide) ?_
        refine z_irem xX xB dX6_floods_84 (by omega) (by decide) ?_
        refine lv_istore (lv' := [(10, .int (zI ((u : Int) % 16))), (9, .int (zI ((u : Int) / 16))), (0, .ref h), (1, .ref a), (2, .int (zI (x : Int))), (3, .int (zI (num : Int))), (4, .int (bI (dk P x))), (5, .int (bI (dk P x == m8))), (6, .int (bI b)), (7, .int (zI (fr : Int))), (8, .int (zI (to : Int)))]) xX xB dX6_floods_85 wl (by decide) rfl (fun ls wl => ?_)
        refine lv_iinc (v := zI ((fr : Int) + 1)) (lv' := [(7, .int (zI ((fr : Int) + 1))), (10, .int (zI ((u : Int) % 16))), (9, .int (zI ((u : Int) / 16))), (0, .ref h), (1, .ref a), (2, .int (zI (x : Int))), (3, .int (zI (num : Int))), (4, .int (bI (dk P x))), (5, .int (bI (dk P x == m8))), (6, .int (bI b)), (8, .int (zI (to : Int)))]) xX xB dX6_floods_87 wl (k := 9) rfl (zI_add _ _) (by decide) rfl (fun ls wl => ?_)
        have J11 : ∀ (b2 : Bool), (b2 = true ↔ (b = true ∨ onrim u)) → ∀ (H : Heap) (locs : List Loc) (ls : Array Slot), va_P D gC [(h, .inr (6, [.ref a0, .ref a1, .int (zI sd), .ref a3, .ref a4, .int (zI dM), .int (zI lM), .int (zI hM), .ref a8, .ref a9, .ref a10, .int (zI uM), .int (zI uA), .ref a13, .ref a14, .ref a15, .ref a16])), (a, .inl (kI, 17, .inl (aZ F))), (a3, .inl (kI, 256, .inl (aZ NU1))), (a4, .inl (kI, 256, .inl (aZ QU1)))] H → va_D (gA [(h, .inr (6, [.ref a0, .ref a1, .int (zI sd), .ref a3, .ref a4, .int (zI dM), .int (zI lM), .int (zI hM), .ref a8, .ref a9, .ref a10, .int (zI uM), .int (zI uA), .ref a13, .ref a14, .ref a15, .ref a16])), (a, .inl (kI, 17, .inl (aZ F))), (a3, .inl (kI, 256, .inl (aZ NU))), (a4, .inl (kI, 256, .inl (aZ QU)))]) [(h, .inr (6, [.ref a0, .ref a1, .int (zI sd), .ref a3, .ref a4, .int (zI dM), .int (zI lM), .int (zI hM), .ref a8, .ref a9, .ref a10, .int (zI uM), .int (zI uA), .ref a13, .ref a14, .ref a15, .ref a16])), (a, .inl (kI, 17, .inl (aZ F))), (a3, .inl (kI, 256, .inl (aZ NU1))), (a4, .inl (kI, 256, .inl (aZ QU1)))] → va_S (gA [(h, .inr (6, [.ref a0, .ref a1, .int (zI sd), .ref a3, .ref a4, .int (zI dM), .int (zI lM), .int (zI hM), .ref a8, .ref a9, .ref a10, .int (zI uM), .int (zI uA), .ref a13, .ref a14, .ref a15, .ref a16])), (a, .inl (kI, 17, .inl (aZ F))), (a3, .inl (kI, 256, .inl (aZ NU))), (a4, .inl (kI, 256, .inl (aZ QU)))]) xs.heap H locs → lv_has ls 16 [(7, .int (zI ((fr : Int) + 1))), (10, .int (zI ((u : Int) % 16))), (9, .int (zI ((u : Int) / 16))), (0, .ref h), (1, .ref a), (2, .int (zI (x : Int))), (3, .int (zI (num : Int))), (4, .int (bI (dk P x))), (5, .int (bI (dk P x == m8))), (6, .int (bI b)), (8, .int (zI (to : Int)))] → W xp l xe ({ frames := 2, cells := 0, slots := 0, locals := 43 } : Room) xs xm (List.toArray [.ref h, .ref a, .int (zI (x : Int)), .int (zI (num : Int))]) xbl xmt xc H locs 0 0 xQ (F0 xm 124 ls [.int (bI b2)]) := by
          intro b2 hb2 H locs ls wP wD wS wl
          refine lv_istore (lv' := [(6, .int (bI b2)), (7, .int (zI ((fr : Int) + 1))), (10, .int (zI ((u : Int) % 16))), (9, .int (zI ((u : Int) / 16))), (0, .ref h), (1, .ref a), (2, .int (zI (x : Int))), (3, .int (zI (num : Int))), (4, .int (bI (dk P x))), (5, .int (bI (dk P x == m8))), (8, .int (zI (to : Int)))]) xX xB dX6_floods_124 wl (by decide) rfl (fun ls wl => ?_)
          refine z_iconst xX xB dX6_floods_126 ?_
          refine lv_istore (lv' := [(11, .int (zI 0)), (6, .int (bI b2)), (7, .int (zI ((fr : Int) + 1))), (10, .int (zI ((u : Int) % 16))), (9, .int (zI ((u : Int) / 16))), (0, .ref h), (1, .ref a), (2, .int (zI (x : Int))), (3, .int (zI (num : Int))), (4, .int (bI (dk P x))), (5, .int (bI (dk P x == m8))), (8, .int (zI (to : Int)))]) xX xB dX6_floods_127 wl (by decide) rfl (fun ls wl => ?_)
          have J : ∀ n_ : Nat, ∀ (k : Nat) (to : Nat) (Q : Nat → Nat) (NU1 : Nat → Int) (QU1 : Nat → Int), 9 - k < n_ → (k ≤ 9) → (FI P m8 x (num : Int) NU NU1 QU1 Q fr to) → (fr < to) → (Q fr = u) → (FJ P m8 (num : Int) NU1 u k) → (RimI b2 Q (fr + 1)) → ∀ (H : Heap) (locs : List Loc) (ls : Array Slot), va_P D gC [(h, .inr (6, [.ref a0, .ref a1, .int (zI sd), .ref a3, .ref a4, .int (zI dM), .int (zI lM), .int (zI hM), .ref a8, .ref a9, .ref a10, .int (zI uM), .int (zI uA), .ref a13, .ref a14, .ref a15, .ref a16])), (a, .inl (kI, 17, .inl (aZ F))), (a3, .inl (kI, 256, .inl (aZ NU1))), (a4, .inl (kI, 256, .inl (aZ QU1)))] H → va_D (gA [(h, .inr (6, [.ref a0, .ref a1, .int (zI sd), .ref a3, .ref a4, .int (zI dM), .int (zI lM), .int (zI hM), .ref a8, .ref a9, .ref a10, .int (zI uM), .int (zI uA), .ref a13, .ref a14, .ref a15, .ref a16])), (a, .inl (kI, 17, .inl (aZ F))), (a3, .inl (kI, 256, .inl (aZ NU))), (a4, .inl (kI, 256, .inl (aZ QU)))]) [(h, .inr (6, [.ref a0, .ref a1, .int (zI sd), .ref a3, .ref a4, .int (zI dM), .int (zI lM), .int (zI hM), .ref a8, .ref a9, .ref a10, .int (zI uM), .int (zI uA), .ref a13, .ref a14, .ref a15, .ref a16])), (a, .inl (kI, 17, .inl (aZ F))), (a3, .inl (kI, 256, .inl (aZ NU1))), (a4, .inl (kI, 256, .inl (aZ QU1)))] → va_S (gA [(h, .inr (6, [.ref a0, .ref a1, .int (zI sd), .ref a3, .ref a4, .int (zI dM), .int (zI lM), .int (zI hM), .ref a8, .ref a9, .ref a10, .int (zI uM), .int (zI uA), .ref a13, .ref a14, .ref a15, .ref a16])), (a, .inl (kI, 17, .inl (aZ F))), (a3, .inl (kI, 256, .inl (aZ NU))), (a4, .inl (kI, 256, .inl (aZ QU)))]) xs.heap H locs → lv_has ls 16 [(0, .ref h), (1, .ref a), (2, .int (zI (x : Int))), (3, .int (zI (num : Int))), (4, .int (bI (dk P x))), (5, .int (bI (dk P x == m8))), (6, .int (bI b2)), (7, .int (zI ((fr + 1 : Nat) : Int))), (8, .int (zI (to : Int))), (9, .int (zI ((u : Int) / 16))), (10, .int (zI ((u : Int) % 16))), (11, .int (zI (k : Int)))] → W xp l xe ({ frames := 2, cells := 0, slots := 0, locals := 43 } : Room) xs xm (List.toArray [.ref h, .ref a, .int (zI (x : Int)), .int (zI (num : Int))]) xbl xmt xc H locs 0 0 xQ (F0 xm 129 ls []) := by
            intro n_
            induction n_ with
            | zero =>
              intro k to Q NU1 QU1 hme
              exact absurd hme (Nat.not_lt_zero _)
            | succ n_ ihJ =>
              intro k to Q NU1 QU1 hme hk hI hlt hu hJ hb3 H locs ls wP wD wS wl
              have hbd := hI.1
              refine lv_iload xX xB dX6_floods_129 (lv_at wl 11 rfl) ?_
              refine z_bipush xX xB dX6_floods_131 (by decide) ?_
              refine z_icmp_ge (tgt := 251) xX xB dX6_floods_133 (by decide) (by omega) (by omega) (fun h133 => ?_) (fun h133 => ?_)
              · skip
                refine lv_goto (tgt := 56) xX xB dX6_floods_251 (by decide) ?_
                exact ihK b2 (fr + 1) to Q NU1 QU1 (by omega) (hI.step (by omega) (by rw [hu]; exact hJ.nine (by omega))) hb3 _ _ _ wP wD wS (lv_sub wl [0, 1, 2, 3, 4, 5, 6, 7, 8] rfl)
              · skip
                refine lv_iload xX xB dX6_floods_136 (lv_at wl 9 rfl) ?_
                refine lv_iload xX xB dX6_floods_138 (lv_at wl 11 rfl) ?_
                refine z_iconst xX xB dX6_floods_140 ?_
                refine z_idiv xX xB dX6_floods_141 (by omega) (by decide) ?_
                refine z_iadd xX xB dX6_floods_142 ?_
                refine z_iconst xX xB dX6_floods_143 ?_
                refine z_isub xX xB dX6_floods_144 ?_
                refine lv_istore (lv' := [(12, .int (zI ((((u : Int) / 16) + ((k : Int) / 3)) - 1))), (0, .ref h), (1, .ref a), (2, .int (zI (x : Int))), (3, .int (zI (num : Int))), (4, .int (bI (dk P x))), (5, .int (bI (dk P x == m8))), (6, .int (bI b2)), (7, .int (zI ((fr + 1 : Nat) : Int))), (8, .int (zI (to : Int))), (9, .int (zI ((u : Int) / 16))), (10, .int (zI ((u : Int) % 16))), (11, .int (zI (k : Int)))]) xX xB dX6_floods_145 wl (by decide) rfl (fun ls wl => ?_)
                refine lv_iload xX xB dX6_floods_147 (lv_at wl 11 rfl) ?_
                refine lv_iload xX xB dX6_floods_149 (lv_at wl 12 rfl) ?_
                refine z_iconst xX xB dX6_floods_151 ?_
                refine z_irem xX xB dX6_floods_152 (by omega) (by decide) ?_
                refine z_iadd xX xB dX6_floods_153 ?_
                refine z_iconst xX xB dX6_floods_154 ?_
                refine z_isub xX xB dX6_floods_155 ?_
                refine lv_istore (lv' := [(13, .int (zI ((((u : Int) % 16) + ((k : Int) % 3)) - 1))), (12, .int (zI ((((u : Int) / 16) + ((k : Int) / 3)) - 1))), (0, .ref h), (1, .ref a), (2, .int (zI (x : Int))), (3, .int (zI (num : Int))), (4, .int (bI (dk P x))), (5, .int (bI (dk P x == m8))), (6, .int (bI b2)), (7, .int (zI ((fr + 1 : Nat) : Int))), (8, .int (zI (to : Int))), (9, .int (zI ((u : Int) / 16))), (10, .int (zI ((u : Int) % 16))), (11, .int (zI (k : Int)))]) xX xB dX6_floods_156 wl (by decide) rfl (fun ls wl => ?_)
                have J22 : ∀ (nr : Bool), (NrI nr (dk P x == m8) u k) → ∀ (H : Heap) (locs : List Loc) (ls : Array Slot), va_P D gC [(h, .inr (6, [.ref a0, .ref a1, .int (zI sd), .ref a3, .ref a4, .int (zI dM), .int (zI lM), .int (zI hM), .ref a8, .ref a9, .ref a10, .int (zI uM), .int (zI uA), .ref a13, .ref a14, .ref a15, .ref a16])), (a, .inl (kI, 17, .inl (aZ F))), (a3, .inl (kI, 256, .inl (aZ NU1))), (a4, .inl (kI, 256, .inl (aZ QU1)))] H → va_D (gA [(h, .inr (6, [.ref a0, .ref a1, .int (zI sd), .ref a3, .ref a4, .int (zI dM), .int (zI lM), .int (zI hM), .ref a8, .ref a9, .ref a10, .int (zI uM), .int (zI uA), .ref a13, .ref a14, .ref a15, .ref a16])), (a, .inl (kI, 17, .inl (aZ F))), (a3, .inl (kI, 256, .inl (aZ NU))), (a4, .inl (kI, 256, .inl (aZ QU)))]) [(h, .inr (6, [.ref a0, .ref a1, .int (zI sd), .ref a3, .ref a4, .int (zI dM), .int (zI lM), .int (zI hM), .ref a8, .ref a9, .ref a10, .int (zI uM), .int (zI uA), .ref a13, .ref a14, .ref a15, .ref a16])), (a, .inl (kI, 17, .inl (aZ F))), (a3, .inl (kI, 256, .inl (aZ NU1))), (a4, .inl (kI, 256, .inl (aZ QU1)))] → va_S (gA [(h, .inr (6, [.ref a0, .ref a1, .int (zI sd), .ref a3, .ref a4, .int (zI dM), .int (zI lM), .int (zI hM), .ref a8, .ref a9, .ref a10, .int (zI uM), .int (zI uA), .ref a13, .ref a14, .ref a15, .ref a16])), (a, .inl (kI, 17, .inl (aZ F))), (a3, .inl (kI, 256, .inl (aZ NU))), (a4, .inl (kI, 256, .inl (aZ QU)))]) xs.heap H locs → lv_has ls 16 [(13, .int (zI ((((u : Int) % 16) + ((k : Int) % 3)) - 1))), (12, .int (zI ((((u : Int) / 16) + ((k : Int) / 3)) - 1))), (0, .ref h), (1, .ref a), (2, .int (zI (x : Int))), (3, .int (zI (num : Int))), (4, .int (bI (dk P x))), (5, .int (bI (dk P x == m8))), (6, .int (bI b2)), (7, .int (zI ((fr + 1 : Nat) : Int))), (8, .int (zI (to : Int))), (9, .int (zI ((u : Int) / 16))), (10, .int (zI ((u : Int) % 16))), (11, .int (zI (k : Int)))] → W xp l xe ({ frames := 2, cells := 0, slots := 0, locals := 43 } : Room) xs xm (List.toArray [.ref h, .ref a, .int (zI (x : Int)), .int (zI (num : Int))]) xbl xmt xc H locs 0 0 xQ (F0 xm 186 ls [.int (bI nr)]) := by
                  intro nr hnr H locs ls wP wD wS wl
                  refine lv_istore (lv' := [(14, .int (bI nr)), (13, .int (zI ((((u : Int) % 16) + ((k : Int) % 3)) - 1))), (12, .int (zI ((((u : Int) / 16) + ((k : Int) / 3)) - 1))), (0, .ref h), (1, .ref a), (2, .int (zI (x : Int))), (3, .int (zI (num : Int))), (4, .int (bI (dk P x))), (5, .int (bI (dk P x == m8))), (6, .int (bI b2)), (7, .int (zI ((fr + 1 : Nat) : Int))), (8, .int (zI (to : Int))), (9, .int (zI ((u : Int) / 16))), (10, .int (zI ((u : Int) % 16))), (11, .int (zI (k : Int)))]) xX xB dX6_floods_186 wl (by decide) rfl (fun ls wl => ?_)
                  refine z_bipush xX xB dX6_floods_188 (by decide) ?_
                  refine lv_iload xX xB dX6_floods_190 (lv_at wl 2 rfl) ?_
                  refine z_imul xX xB dX6_floods_192 ?_
                  refine lv_iload xX xB dX6_floods_193 (lv_at wl 1 rfl) ?_
                  refine z_iadd xX xB dX6_floods_195 ?_
                  refine lv_istore (lv' := [(15, .int (zI ((16 * ((((u : Int) / 16) + ((k : Int) / 3)) - 1)) + ((((u : Int) % 16) + ((k : Int) % 3)) - 1)))), (14, .int (bI nr)), (13, .int (zI ((((u : Int) % 16) + ((k : Int) % 3)) - 1))), (12, .int (zI ((((u : Int) / 16) + ((k : Int) / 3)) - 1))), (0, .ref h), (1, .ref a), (2, .int (zI (x : Int))), (3, .int (zI (num : Int))), (4, .int (bI (dk P x))), (5, .int (bI (dk P x == m8))), (6, .int (bI b2)), (7, .int (zI ((fr + 1 : Nat) : Int))), (8, .int (zI (to : Int))), (9, .int (zI ((u : Int) / 16))), (10, .int (zI ((u : Int) % 16))), (11, .int (zI (k : Int)))]) xX xB dX6_floods_196 wl (by decide) rfl (fun ls wl => ?_)
                  refine lv_iload xX xB dX6_floods_198 (lv_at wl 1 rfl) ?_
                  refine b_if_eq (tgt := 245) xX xB dX6_floods_200 (by decide) (fun h200 => ?_) (fun h200 => ?_)
                  · skip
                    refine lv_iinc (v := zI ((k : Int) + 1)) (lv' := [(11, .int (zI ((k : Int) + 1))), (15, .int (zI ((16 * ((((u : Int) / 16) + ((k : Int) / 3)) - 1)) + ((((u : Int) % 16) + ((k : Int) % 3)) - 1)))), (14, .int (bI nr)), (13, .int (zI ((((u : Int) % 16) + ((k : Int) % 3)) - 1))), (12, .int (zI ((((u : Int) / 16) + ((k : Int) / 3)) - 1))), (0, .ref h), (1, .ref a), (2, .int (zI (x : Int))), (3, .int (zI (num : Int))), (4, .int (bI (dk P x))), (5, .int (bI (dk P x == m8))), (6, .int (bI b2)), (7, .int (zI ((fr + 1 : Nat) : Int))), (8, .int (zI (to : Int))), (9, .int (zI ((u : Int) / 16))), (10, .int (zI ((u : Int) % 16)))]) xX xB dX6_floods_245 wl (k := 15) rfl (zI_add _ _) (by decide) rfl (fun ls wl => ?_)
                    refine lv_goto (tgt := 129) xX xB dX6_floods_248 (by decide) ?_
                    exact ihJ (k + 1) to Q NU1 QU1 (by omega) (by omega) hI hlt hu (by first | exact hJ.skip1 (by rw [← hu]; exact (hI.2.1 fr hlt).2.2.2) (by rw [← hcx.dkE]; exact hnr) h200 | exact hJ.next (fun y ha hk => by rw [FJ.at hth hon.2 ha hk]; exact hI.skip2 hfree.1 hcx h211 (by rw [← FJ.at hth hon.2 ha hk]; exact ha)) | exact hJ.next (fun y ha hk => absurd (hcx.dkE.trans ha.2.2.1) (fun z => h222 (by rw [← FJ.at hth hon.2 ha hk]; exact z.symm)))) hb3 _ _ _ wP wD wS (lv_sub wl [5, 6, 7, 8, 9, 10, 11, 12, 13, 14, 15, 0] rfl)
                  · skip
                    have hon := (hnr.mp h200).1
                    obtain ⟨th, hth⟩ : ∃ th : Nat, (16 * ((((u : Int) / 16) + ((k : Int) / 3)) - 1)) + ((((u : Int) % 16) + ((k : Int) % 3)) - 1) = (th : Int) := ⟨((16 * ((((u : Int) / 16) + ((k : Int) / 3)) - 1)) + ((((u : Int) % 16) + ((k : Int) % 3)) - 1)).toNat, by omega⟩
                    have hth2 : th < 256 := by omega
                    rw [hth] at wl
                    refine lv_aload_n xX xB dX6_floods_203 rfl (lv_at wl 4 rfl) ?_
                    refine va_get (D := D) (ci := 6) (v := .ref a3) (C := RX6) (T := TX6) (N := 17) xX xB xT in_X6_floods_X6 xO wK.1 wP 0 rfl rfl 3 (by decide) (xT _ (List.mem_of_getElem? (i := 2) rfl)) (fun _ h9 => h9) rfl dX6_floods_204 ?_
                    refine lv_iload xX xB dX6_floods_207 (lv_at wl 0 rfl) ?_
                    refine z_iald xX xB wK wP 2 rfl th rfl (by omega) (Nat.le_of_ble_eq_true rfl) dX6_floods_209 ?_
                    refine z_iconst xX xB dX6_floods_210 ?_
                    refine z_icmp_ne (tgt := 245) xX xB dX6_floods_211 (by decide) (by have := hI.bd hfree (by omega) hth2; omega) (by decide) (fun h211 => ?_) (fun h211 => ?_)
                    · skip
                      refine lv_iinc (v := zI ((k : Int) + 1)) (lv' := [(11, .int (zI ((k : Int) + 1))), (15, .int (zI (th : Int))), (14, .int (bI nr)), (13, .int (zI ((((u : Int) % 16) + ((k : Int) % 3)) - 1))), (12, .int (zI ((((u : Int) / 16) + ((k : Int) / 3)) - 1))), (0, .ref h), (1, .ref a), (2, .int (zI (x : Int))), (3, .int (zI (num : Int))), (4, .int (bI (dk P x))), (5, .int (bI (dk P x == m8))), (6, .int (bI b2)), (7, .int (zI ((fr + 1 : Nat) : Int))), (8, .int (zI (to : Int))), (9, .int (zI ((u : Int) / 16))), (10, .int (zI ((u : Int) % 16)))]) xX xB dX6_floods_245 wl (k := 15) rfl (zI_add _ _) (by decide) rfl (fun ls wl => ?_)
                      refine lv_goto (tgt := 129) xX xB dX6_floods_248 (by decide) ?_
                      exact ihJ (k + 1) to Q NU1 QU1 (by omega) (by omega) hI hlt hu (by first | exact hJ.skip1 (by rw [← hu]; exact (hI.2.1 fr hlt).2.2.2) (by rw [← hcx.dkE]; exact hnr) h200 | exact hJ.next (fun y ha hk => by rw [FJ.at hth hon.2 ha hk]; exact hI.skip2 hfree.1 hcx h211 (by rw [← FJ.at hth hon.2 ha hk]; exact ha)) | exact hJ.next (fun y ha hk => absurd (hcx.dkE.trans ha.2.2.1) (fun z => h222 (by rw [← FJ.at hth hon.2 ha hk]; exact z.symm)))) hb3 _ _ _ wP wD wS (lv_sub wl [5, 6, 7, 8, 9, 10, 11, 12, 13, 14, 15, 0] rfl)
                    · skip
                      refine lv_aload_n xX xB dX6_floods_214 rfl (lv_at wl 5 rfl) ?_
                      refine lv_iload xX xB dX6_floods_215 (lv_at wl 0 rfl) ?_
                      refine g_pure (va_runS (As := [.ref a, .int (zI (th : Int))]) (rest := []) ⟨xX, xB, xM, xO, xT⟩ (c_X6_isDark l D kI kB a F P th hF hth2) (va_cwS 2 xT gX6_floods_X6_isDark rfl rfl rfl hdn_X6_isDark ⟨Nat.le_of_ble_eq_true rfl, Nat.le_of_ble_eq_true rfl⟩) (g_preS wP wD wK [1] (by decide) rfl) rfl rfl wl.1 rfl (lv_room (Nat.le_of_ble_eq_true rfl)) dX6_floods_217 ⟨Nat.le_of_ble_eq_true rfl, Nat.le_of_ble_eq_true rfl⟩) wP wS (fun H locs wP wS => ?_)
                      refine lv_iload xX xB dX6_floods_220 (lv_at wl 8 rfl) ?_
                      refine b_icmp_ne (tgt := 245) xX xB dX6_floods_222 (by decide) (fun h222 => ?_) (fun h222 => ?_)
                      · skip
                        refine lv_iinc (v := zI ((k : Int) + 1)) (lv' := [(11, .int (zI ((k : Int) + 1))), (15, .int (zI (th : Int))), (14, .int (bI nr)), (13, .int (zI ((((u : Int) % 16) + ((k : Int) % 3)) - 1))), (12, .int (zI ((((u : Int) / 16) + ((k : Int) / 3)) - 1))), (0, .ref h), (1, .ref a), (2, .int (zI (x : Int))), (3, .int (zI (num : Int))), (4, .int (bI (dk P x))), (5, .int (bI (dk P x == m8))), (6, .int (bI b2)), (7, .int (zI ((fr + 1 : Nat) : Int))), (8, .int (zI (to : Int))), (9, .int (zI ((u : Int) / 16))), (10, .int (zI ((u : Int) % 16)))]) xX xB dX6_floods_245 wl (k := 15) rfl (zI_add _ _) (by decide) rfl (fun ls wl => ?_)
                        refine lv_goto (tgt := 129) xX xB dX6_floods_248 (by decide) ?_
                        exact ihJ (k + 1) to Q NU1 QU1 (by omega) (by omega) hI hlt hu (by first | exact hJ.skip1 (by rw [← hu]; exact (hI.2.1 fr hlt).2.2.2) (by rw [← hcx.dkE]; exact hnr) h200 | exact hJ.next (fun y ha hk => by rw [FJ.at hth hon.2 ha hk]; exact hI.skip2 hfree.1 hcx h211 (by rw [← FJ.at hth hon.2 ha hk]; exact ha)) | exact hJ.next (fun y ha hk => absurd (hcx.dkE.trans ha.2.2.1) (fun z => h222 (by rw [← FJ.at hth hon.2 ha hk]; exact z.symm)))) hb3 _ _ _ wP wD wS (lv_sub wl [5, 6, 7, 8, 9, 10, 11, 12, 13, 14, 15, 0] rfl)
                      · skip
                        have hadj : Adj P m8 u th := ⟨hcb, hth2, hcx.dkE.symm.trans h222.symm, by rw [← hcx.dkE]; exact near_nb (by omega) hcb hth hon.2 (hnr.mp h200).2⟩
                        obtain ⟨hto, hI2⟩ := hI.more (by omega) hcx h211 hadj
                        refine lv_aload_n xX xB dX6_floods_225 rfl (lv_at wl 4 rfl) ?_
                        refine va_get (D := D) (ci := 6) (v := .ref a3) (C := RX6) (T := TX6) (N := 17) xX xB xT in_X6_floods_X6 xO wK.1 wP 0 rfl rfl 3 (by decide) (xT _ (List.mem_of_getElem? (i := 2) rfl)) (fun _ h9 => h9) rfl dX6_floods_226 ?_
                        refine lv_iload xX xB dX6_floods_229 (lv_at wl 0 rfl) ?_
                        refine lv_iload_n xX xB dX6_floods_231 rfl (lv_at wl 7 rfl) ?_
                        refine z_iast xX xB wK wP wD wS 2 rfl th rfl (by omega) (Nat.le_of_ble_eq_true rfl) dX6_floods_232 (fun H locs wP wD wS => ?_)
                        have wP : va_P D gC [(h, .inr (6, [.ref a0, .ref a1, .int (zI sd), .ref a3, .ref a4, .int (zI dM), .int (zI lM), .int (zI hM), .ref a8, .ref a9, .ref a10, .int (zI uM), .int (zI uA), .ref a13, .ref a14, .ref a15, .ref a16])), (a, .inl (kI, 17, .inl (aZ F))), (a3, .inl (kI, 256, .inl (aZ (uZ NU1 th (num : Int))))), (a4, .inl (kI, 256, .inl (aZ QU1)))] H := wP
                        have wD : va_D (gA [(h, .inr (6, [.ref a0, .ref a1, .int (zI sd), .ref a3, .ref a4, .int (zI dM), .int (zI lM), .int (zI hM), .ref a8, .ref a9, .ref a10, .int (zI uM), .int (zI uA), .ref a13, .ref a14, .ref a15, .ref a16])), (a, .inl (kI, 17, .inl (aZ F))), (a3, .inl (kI, 256, .inl (aZ NU))), (a4, .inl (kI, 256, .inl (aZ QU)))]) [(h, .inr (6, [.ref a0, .ref a1, .int (zI sd), .ref a3, .ref a4, .int (zI dM), .int (zI lM), .int (zI hM), .ref a8, .ref a9, .ref a10, .int (zI uM), .int (zI uA), .ref a13, .ref a14, .ref a15, .ref a16])), (a, .inl (kI, 17, .inl (aZ F))), (a3, .inl (kI, 256, .inl (aZ (uZ NU1 th (num : Int))))), (a4, .inl (kI, 256, .inl (aZ QU1)))] := wD
                        refine lv_aload_n xX xB dX6_floods_233 rfl (lv_at wl 4 rfl) ?_
                        refine va_get (D := D) (ci := 6) (v := .ref a4) (C := RX6) (T := TX6) (N := 17) xX xB xT in_X6_floods_X6 xO wK.1 wP 0 rfl rfl 4 (by decide) (xT _ (List.mem_of_getElem? (i := 1) rfl)) (fun _ h9 => h9) rfl dX6_floods_234 ?_
                        refine lv_iload xX xB dX6_floods_237 (lv_at wl 12 rfl) ?_
                        refine lv_iload xX xB dX6_floods_239 (lv_at wl 0 rfl) ?_
                        refine z_iast xX xB wK wP wD wS 3 rfl to rfl (by omega) (Nat.le_of_ble_eq_true rfl) dX6_floods_241 (fun H locs wP wD wS => ?_)
                        have wP : va_P D gC [(h, .inr (6, [.ref a0, .ref a1, .int (zI sd), .ref a3, .ref a4, .int (zI dM), .int (zI lM), .int (zI hM), .ref a8, .ref a9, .ref a10, .int (zI uM), .int (zI uA), .ref a13, .ref a14, .ref a15, .ref a16])), (a, .inl (kI, 17, .inl (aZ F))), (a3, .inl (kI, 256, .inl (aZ (uZ NU1 th (num : Int))))), (a4, .inl (kI, 256, .inl (aZ (uZ QU1 to (th : Int)))))] H := wP
                        have wD : va_D (gA [(h, .inr (6, [.ref a0, .ref a1, .int (zI sd), .ref a3, .ref a4, .int (zI dM), .int (zI lM), .int (zI hM), .ref a8, .ref a9, .ref a10, .int (zI uM), .int (zI uA), .ref a13, .ref a14, .ref a15, .ref a16])), (a, .inl (kI, 17, .inl (aZ F))), (a3, .inl (kI, 256, .inl (aZ NU))), (a4, .inl (kI, 256, .inl (aZ QU)))]) [(h, .inr (6, [.ref a0, .ref a1, .int (zI sd), .ref a3, .ref a4, .int (zI dM), .int (zI lM), .int (zI hM), .ref a8, .ref a9, .ref a10, .int (zI uM), .int (zI uA), .ref a13, .ref a14, .ref a15, .ref a16])), (a, .inl (kI, 17, .inl (aZ F))), (a3, .inl (kI, 256, .inl (aZ (uZ NU1 th (num : Int))))), (a4, .inl (kI, 256, .inl (aZ (uZ QU1 to (th : Int)))))] := wD
                        refine lv_iinc (v := zI ((to : Int) + 1)) (lv' := [(8, .int (zI ((to : Int) + 1))), (15, .int (zI (th : Int))), (14, .int (bI nr)), (13, .int (zI ((((u : Int) % 16) + ((k : Int) % 3)) - 1))), (12, .int (zI ((((u : Int) / 16) + ((k : Int) / 3)) - 1))), (0, .ref h), (1, .ref a), (2, .int (zI (x : Int))), (3, .int (zI (num : Int))), (4, .int (bI (dk P x))), (5, .int (bI (dk P x == m8))), (6, .int (bI b2)), (7, .int (zI ((fr + 1 : Nat) : Int))), (9, .int (zI ((u : Int) / 16))), (10, .int (zI ((u : Int) % 16))), (11, .int (zI (k : Int)))]) xX xB dX6_floods_242 wl (k := 12) rfl (zI_add _ _) (by decide) rfl (fun ls wl => ?_)
                        refine lv_iinc (v := zI ((k : Int) + 1)) (lv' := [(11, .int (zI ((k : Int) + 1))), (8, .int (zI ((to : Int) + 1))), (15, .int (zI (th : Int))), (14, .int (bI nr)), (13, .int (zI ((((u : Int) % 16) + ((k : Int) % 3)) - 1))), (12, .int (zI ((((u : Int) / 16) + ((k : Int) / 3)) - 1))), (0, .ref h), (1, .ref a), (2, .int (zI (x : Int))), (3, .int (zI (num : Int))), (4, .int (bI (dk P x))), (5, .int (bI (dk P x == m8))), (6, .int (bI b2)), (7, .int (zI ((fr + 1 : Nat) : Int))), (9, .int (zI ((u : Int) / 16))), (10, .int (zI ((u : Int) % 16)))]) xX xB dX6_floods_245 wl (k := 15) rfl (zI_add _ _) (by decide) rfl (fun ls wl => ?_)
                        refine lv_goto (tgt := 129) xX xB dX6_floods_248 (by decide) ?_
                        exact ihJ (k + 1) (to + 1) (fun j => if j = to then th else Q j) (uZ NU1 th (num : Int)) (uZ QU1 to (th : Int)) (by omega) (by omega) hI2 (by omega) (by simp only [show fr ≠ to by omega, if_false]; exact hu) (hJ.more (fun y ha hk => FJ.at hth hon.2 ha hk)) (rim_more hb3 hlt) _ _ _ wP wD wS (lv_sub wl [6, 7, 8, 9, 10, 11, 12, 13, 1, 14, 15, 0] rfl)
                refine lv_iload xX xB dX6_floods_158 (lv_at wl 1 rfl) ?_
                refine lv_iload xX xB dX6_floods_160 (lv_at wl 0 rfl) ?_
                refine g_pure (va_runS (As := [.int (zI ((((u : Int) / 16) + ((k : Int) / 3)) - 1)), .int (zI ((((u : Int) % 16) + ((k : Int) % 3)) - 1))]) (rest := []) ⟨xX, xB, xM, xO, xT⟩ (c_X6_isOn l D kI kB ((((u : Int) / 16) + ((k : Int) / 3)) - 1) ((((u : Int) % 16) + ((k : Int) % 3)) - 1) (by omega) (by omega)) (va_cwS 2 xT gX6_floods_X6_isOn rfl rfl rfl hdn_X6_isOn ⟨Nat.le_of_ble_eq_true rfl, Nat.le_of_ble_eq_true rfl⟩) (g_preS wP wD wK [] (by decide) rfl) rfl rfl wl.1 rfl (lv_room (Nat.le_of_ble_eq_true rfl)) dX6_floods_162 ⟨Nat.le_of_ble_eq_true rfl, Nat.le_of_ble_eq_true rfl⟩) wP wS (fun H locs wP wS => ?_)
                refine b_if_eq (tgt := 185) xX xB dX6_floods_165 (by decide) (fun h165 => ?_) (fun h165 => ?_)
                · skip
                  refine z_iconst xX xB dX6_floods_185 ?_
                  refine lv_ri (y := bI false) rfl ?_
                  exact J22 false (iff_of_false (by decide) (fun z => by first | exact of_decide_eq_false h165 z.1 | exact z.2.elim (fun q => by rw [h170] at q; cases q) (fun q => h178 q))) _ _ _ wP wD wS (lv_sub wl [0, 1, 2, 3, 4, 5, 6, 7, 8, 9, 10, 11, 12, 13] rfl)
                · skip
                  refine lv_iload xX xB dX6_floods_168 (lv_at wl 7 rfl) ?_
                  refine b_if_ne (tgt := 181) xX xB dX6_floods_170 (by decide) (fun h170 => ?_) (fun h170 => ?_)
                  · skip
                    refine z_iconst xX xB dX6_floods_181 ?_
                    refine lv_goto (tgt := 186) xX xB dX6_floods_182 (by decide) ?_
                    refine lv_ri (y := bI true) rfl ?_
                    exact J22 true (iff_of_true rfl ⟨of_decide_eq_true h165, by first | exact Or.inl h170 | exact Or.inr h178⟩) _ _ _ wP wD wS (lv_sub wl [0, 1, 2, 3, 4, 5, 6, 7, 8, 9, 10, 11, 12, 13] rfl)
                  · skip
                    refine lv_iload xX xB dX6_floods_173 (lv_at wl 13 rfl) ?_
                    refine z_iconst xX xB dX6_floods_175 ?_
                    refine z_irem xX xB dX6_floods_176 (by omega) (by decide) ?_
                    refine z_iconst xX xB dX6_floods_177 ?_
                    refine z_icmp_ne (tgt := 185) xX xB dX6_floods_178 (by decide) (by omega) (by omega) (fun h178 => ?_) (fun h178 => ?_)
                    · skip
                      refine z_iconst xX xB dX6_floods_185 ?_
                      refine lv_ri (y := bI false) rfl ?_
                      exact J22 false (iff_of_false (by decide) (fun z => by first | exact of_decide_eq_false h165 z.1 | exact z.2.elim (fun q => by rw [h170] at q; cases q) (fun q => h178 q))) _ _ _ wP wD wS (lv_sub wl [0, 1, 2, 3, 4, 5, 6, 7, 8, 9, 10, 11, 12, 13] rfl)
                    · skip
                      refine z_iconst xX xB dX6_floods_181 ?_
                      refine lv_goto (tgt := 186) xX xB dX6_floods_182 (by decide) ?_
                      refine lv_ri (y := bI true) rfl ?_
                      exact J22 true (iff_of_true rfl ⟨of_decide_eq_true h165, by first | exact Or.inl h170 | exact Or.inr h178⟩) _ _ _ wP wD wS (lv_sub wl [0, 1, 2, 3, 4, 5, 6, 7, 8, 9, 10, 11, 12, 13] rfl)
          exact J _ 0 to Q NU1 QU1 (Nat.lt_succ_self _) (by omega) hI (by omega) hu0 (FJ.z _) (rim_step hbr (by rw [hu0]; exact hb2)) _ _ _ wP wD wS (lv_sub wl [5, 6, 7, 8, 9, 10, 1, 2, 11, 4, 3, 0] rfl)
        refine lv_iload xX xB dX6_floods_90 (lv_at wl 9 rfl) ?_
        refine b_if_ne (tgt := 119) xX xB dX6_floods_92 (by decide) (fun h92 => ?_) (fun h92 => ?_)
        · skip
          refine z_iconst xX xB dX6_floods_119 ?_
          refine lv_goto (tgt := 124) xX xB dX6_floods_120 (by decide) ?_
          refine lv_ri (y := bI true) rfl ?_
          exact J11 true (iff_of_true rfl (by first | exact Or.inl h92 | exact Or.inr (by unfold onrim; omega))) _ _ _ wP wD wS (lv_sub wl [0, 1, 2, 3, 4, 5, 6, 7, 8, 9, 10] rfl)
        · skip
          refine lv_iload xX xB dX6_floods_95 (lv_at wl 2 rfl) ?_
          refine z_if_eq (tgt := 119) xX xB dX6_floods_97 (by decide) (by omega) (fun h97 => ?_) (fun h97 => ?_)
          · skip
            refine z_iconst xX xB dX6_floods_119 ?_
            refine lv_goto (tgt := 124) xX xB dX6_floods_120 (by decide) ?_
            refine lv_ri (y := bI true) rfl ?_
            exact J11 true (iff_of_true rfl (by first | exact Or.inl h92 | exact Or.inr (by unfold onrim; omega))) _ _ _ wP wD wS (lv_sub wl [0, 1, 2, 3, 4, 5, 6, 7, 8, 9, 10] rfl)
          · skip
            refine lv_iload xX xB dX6_floods_100 (lv_at wl 1 rfl) ?_
            refine z_if_eq (tgt := 119) xX xB dX6_floods_102 (by decide) (by omega) (fun h102 => ?_) (fun h102 => ?_)
            · skip
              refine z_iconst xX xB dX6_floods_119 ?_
              refine lv_goto (tgt := 124) xX xB dX6_floods_120 (by decide) ?_
              refine lv_ri (y := bI true) rfl ?_
              exact J11 true (iff_of_true rfl (by first | exact Or.inl h92 | exact Or.inr (by unfold onrim; omega))) _ _ _ wP wD wS (lv_sub wl [0, 1, 2, 3, 4, 5, 6, 7, 8, 9, 10] rfl)
            · skip
              refine lv_iload xX xB dX6_floods_105 (lv_at wl 2 rfl) ?_
              refine z_bipush xX xB dX6_floods_107 (by decide) ?_
              refine z_icmp_eq (tgt := 119) xX xB dX6_floods_109 (by decide) (by omega) (by omega) (fun h109 => ?_) (fun h109 => ?_)
              · skip
                refine z_iconst xX xB dX6_floods_119 ?_
                refine lv_goto (tgt := 124) xX xB dX6_floods_120 (by decide) ?_
                refine lv_ri (y := bI true) rfl ?_
                exact J11 true (iff_of_true rfl (by first | exact Or.inl h92 | exact Or.inr (by unfold onrim; omega))) _ _ _ wP wD wS (lv_sub wl [0, 1, 2, 3, 4, 5, 6, 7, 8, 9, 10] rfl)
              · skip
                refine lv_iload xX xB dX6_floods_112 (lv_at wl 1 rfl) ?_
                refine z_bipush xX xB dX6_floods_114 (by decide) ?_
                refine z_icmp_ne (tgt := 123) xX xB dX6_floods_116 (by decide) (by omega) (by omega) (fun h116 => ?_) (fun h116 => ?_)
                · skip
                  refine z_iconst xX xB dX6_floods_123 ?_
                  refine lv_ri (y := bI false) rfl ?_
                  exact J11 false (iff_of_false (by decide) (not_or.mpr ⟨by rw [h92]; decide, by unfold onrim; omega⟩)) _ _ _ wP wD wS (lv_sub wl [0, 1, 2, 3, 4, 5, 6, 7, 8, 9, 10] rfl)
                · skip
                  refine z_iconst xX xB dX6_floods_119 ?_
                  refine lv_goto (tgt := 124) xX xB dX6_floods_120 (by decide) ?_
                  refine lv_ri (y := bI true) rfl ?_
                  exact J11 true (iff_of_true rfl (by first | exact Or.inl h92 | exact Or.inr (by unfold onrim; omega))) _ _ _ wP wD wS (lv_sub wl [0, 1, 2, 3, 4, 5, 6, 7, 8, 9, 10] rfl)
  exact K _ false 0 1 (fun _ => x) (uZ NU x (num : Int)) (uZ QU 0 (x : Int)) (Nat.lt_succ_self _) (FI.start hx QU) (RimI.z _) _ _ _ wP wD wS (lv_sub wl [5, 6, 7, 8, 4, 3, 2, 1, 0] rfl)
