set_option maxRecDepth 20000 in
theorem in_X1_holesOfPart_X1 : ∀ w ∈ u_ws RX1 TX1 14, w ∈ wsX1_holesOfPart := by decide +kernel
set_option maxRecDepth 20000 in
theorem in_X1_partsInHole_X1 : ∀ w ∈ u_ws RX1 TX1 14, w ∈ wsX1_partsInHole := by decide +kernel
set_option maxRecDepth 20000 in
theorem in_X1_allRims_X1 : ∀ w ∈ u_ws RX1 TX1 14, w ∈ wsX1_allRims := by decide +kernel
set_option maxRecDepth 20000 in
theorem in_X1_deepest_X1 : ∀ w ∈ u_ws RX1 TX1 14, w ∈ wsX1_deepest := by decide +kernel
set_option maxRecDepth 20000 in
theorem in_X1_largest_X1 : ∀ w ∈ u_ws RX1 TX1 14, w ∈ wsX1_largest := by decide +kernel
set_option maxRecDepth 20000 in
theorem in_X1_partsUpTo_X1 : ∀ w ∈ u_ws RX1 TX1 14, w ∈ wsX1_partsUpTo := by decide +kernel
theorem hd_X1_rimOf : yX1_rimOf.cls = RX1 ∧ yX1_rimOf.cls ≠ "java/lang/invoke/MethodHandle" ∧ yX1_rimOf.cls ≠ "java/lang/invoke/VarHandle" ∧ (parseMethodDescriptor yX1_rimOf.desc).map (fun d => d.parameters.length) = some 1 := by decide +kernel
theorem hd_X1_depthOf : yX1_depthOf.cls = RX1 ∧ yX1_depthOf.cls ≠ "java/lang/invoke/MethodHandle" ∧ yX1_depthOf.cls ≠ "java/lang/invoke/VarHandle" ∧ (parseMethodDescriptor yX1_depthOf.desc).map (fun d => d.parameters.length) = some 1 := by decide +kernel
theorem hd_X1_sizeOf : yX1_sizeOf.cls = RX1 ∧ yX1_sizeOf.cls ≠ "java/lang/invoke/MethodHandle" ∧ yX1_sizeOf.cls ≠ "java/lang/invoke/VarHandle" ∧ (parseMethodDescriptor yX1_sizeOf.desc).map (fun d => d.parameters.length) = some 1 := by decide +kernel
set_option maxHeartbeats 4000000 in
set_option maxRecDepth 100000 in
theorem c_X1_holesOfPart (l : Launch) (D : va_G) (kI kB : ClassId) (o : Nat) (h : Nat) (a0 : Nat) (a1 : Nat) (a2 : Nat) (a3 : Nat) (a4 : Nat) (a5 : Nat) (a6 : Nat) (a7 : Nat) (a8 : Nat) (a9 : Nat) (pc : Nat) (hc : Nat) (lc : Nat) (b0 : Nat) (b1 : Nat) (b2 : Nat) (b3 : Nat) (b4 : Nat) (b5 : Nat) (b6 : Nat) (cn : Nat) (FI_ : Nat → Int) (CH_ : Nat → Int) (SO : Nat → Int) (EO : Nat → Int) (RO : Nat → Int) (DA : Nat → Bool) (TW : Nat → Int) (NU : Nat → Int) (PG : Nat → Int) (HG : Nat → Int) (P : Nat → Nat) (m8 : Bool) (p : Nat) (hO : RunsOK P m8 FI_ CH_ SO EO RO DA TW) (hN : NuI P m8 256 NU PG HG pc hc lc) (hp : p < pc) : gI l yX1_holesOfPart wsX1_holesOfPart ({ frames := 5, cells := 0, slots := 0, locals := 110 } : Room) D kI kB [.ref o, .int (zI (p : Int))] [(o, .inr (1, [.ref h, .ref a0, .ref a1, .ref a2, .ref a3, .ref a4, .ref a5, .ref a6, .ref a7, .ref a8, .ref a9, .int (zI (pc : Int)), .int (zI (hc : Int)), .int (zI (lc : Int))])), (h, .inr (4, [.ref b0, .ref b1, .ref b2, .ref b3, .ref b4, .ref b5, .ref b6, .int (zI (cn : Int))])), (b0, .inl (kI, 17, .inl (aZ FI_))), (b1, .inl (kI, 16, .inl (aZ CH_))), (b2, .inl (kI, 256, .inl (aZ SO))), (b3, .inl (kI, 256, .inl (aZ EO))), (b4, .inl (kI, 256, .inl (aZ RO))), (b5, .inl (kB, 256, .inl (aB DA))), (b6, .inl (kI, 256, .inl (aZ TW))), (a6, .inl (kI, 256, .inl (aZ NU))), (a7, .inl (kI, 256, .inl (aZ PG))), (a8, .inl (kI, 256, .inl (aZ HG)))] (zI ((hoN P m8 p hc : Nat) : Int)) := by
  refine g_start (cc := cX1_holesOfPart) (maxL := 4) (ret := (some .int)) (by decide) rfl (Nat.le_of_ble_eq_true rfl) ?_
  intro xp xe xs xm xbl xmt xc xX xB xR xM xT xO xL xN wP wD wK ls wl
  have wS : va_S (fun _ => False) xs.heap xs.heap [] := va_S.rf
  have wl : lv_has ls 4 [(0, .ref o), (1, .int (zI (p : Int)))] := wl
  generalize hQ : MQ xbl _ _ xs 0 0 _ = xQ
  have hpc : pc ≤ 128 := by rw [hN.2.2.2.1]; exact cD_128
  have hhc : hc ≤ 128 := by rw [hN.2.2.2.2.1]; exact cH_le (Nat.le_refl _)
  refine z_iconst xX xB dX1_holesOfPart_0 ?_
  refine lv_istore_n (lv' := [(2, .int (zI 0)), (0, .ref o), (1, .int (zI (p : Int)))]) xX xB dX1_holesOfPart_1 rfl wl (by decide) rfl (fun ls wl => ?_)
  refine z_iconst xX xB dX1_holesOfPart_2 ?_
  refine lv_istore_n (lv' := [(3, .int (zI 0)), (2, .int (zI 0)), (0, .ref o), (1, .int (zI (p : Int)))]) xX xB dX1_holesOfPart_3 rfl wl (by decide) rfl (fun ls wl => ?_)
  have K : ∀ n_ : Nat, ∀ (i : Nat) (t : Nat), hc - i < n_ → (i ≤ hc) → (t = hoN P m8 p i) → ∀ (H : Heap) (locs : List Loc) (ls : Array Slot), va_P D gC [(o, .inr (1, [.ref h, .ref a0, .ref a1, .ref a2, .ref a3, .ref a4, .ref a5, .ref a6, .ref a7, .ref a8, .ref a9, .int (zI (pc : Int)), .int (zI (hc : Int)), .int (zI (lc : Int))])), (h, .inr (4, [.ref b0, .ref b1, .ref b2, .ref b3, .ref b4, .ref b5, .ref b6, .int (zI (cn : Int))])), (b0, .inl (kI, 17, .inl (aZ FI_))), (b1, .inl (kI, 16, .inl (aZ CH_))), (b2, .inl (kI, 256, .inl (aZ SO))), (b3, .inl (kI, 256, .inl (aZ EO))), (b4, .inl (kI, 256, .inl (aZ RO))), (b5, .inl (kB, 256, .inl (aB DA))), (b6, .inl (kI, 256, .inl (aZ TW))), (a6, .inl (kI, 256, .inl (aZ NU))), (a7, .inl (kI, 256, .inl (aZ PG))), (a8, .inl (kI, 256, .inl (aZ HG)))] H → va_S (fun _ => False) xs.heap H locs → lv_has ls 4 [(0, .ref o), (1, .int (zI (p : Int))), (2, .int (zI (t : Int))), (3, .int (zI (i : Int)))] → W xp l xe ({ frames := 5, cells := 0, slots := 0, locals := 110 } : Room) xs xm (List.toArray [.ref o, .int (zI (p : Int))]) xbl xmt xc H locs 0 0 xQ (F0 xm 4 ls []) := by
    intro n_
    induction n_ with
    | zero =>
      intro i t hme
      exact absurd hme (Nat.not_lt_zero _)
    | succ n_ ihK =>
      intro i t hme hi ht H locs ls wP wS wl
      have htb : t ≤ i := by rw [ht]; exact fb_ct_le _ _
      refine lv_iload_n xX xB dX1_holesOfPart_4 rfl (lv_at wl 3 rfl) ?_
      refine lv_aload_n xX xB dX1_holesOfPart_5 rfl (lv_at wl 0 rfl) ?_
      refine va_get (D := D) (ci := 1) (v := .int (zI (hc : Int))) (C := RX1) (T := TX1) (N := 14) xX xB xT in_X1_holesOfPart_X1 xO wK.1 wP 0 rfl rfl 12 (by decide) (xT _ (List.mem_of_getElem? (i := 1) rfl)) (fun _ h9 => h9) rfl dX1_holesOfPart_6 ?_
      refine z_icmp_ge (tgt := 35) xX xB dX1_holesOfPart_9 (by decide) (by omega) (by omega) (fun h9 => ?_) (fun h9 => ?_)
      · skip
        refine lv_iload_n xX xB dX1_holesOfPart_35 rfl (lv_at wl 2 rfl) ?_
        subst hQ
        exact g_iret xX xB xR xL wS dX1_holesOfPart_36 (congrArg (fun z : Nat => zI (z : Int)) (by rw [ht, show i = hc by omega]))
      · skip
        refine lv_iload_n xX xB dX1_holesOfPart_12 rfl (lv_at wl 2 rfl) ?_
        refine lv_aload_n xX xB dX1_holesOfPart_13 rfl (lv_at wl 0 rfl) ?_
        refine lv_iload_n xX xB dX1_holesOfPart_14 rfl (lv_at wl 3 rfl) ?_
        refine g_pure (va_runV (As := [.int (zI (i : Int))]) (rest := [.int (zI (t : Int))]) ⟨xX, xB, xM, xO, xT⟩ (c_X1_partAround l D kI kB o h a0 a1 a2 a3 a4 a5 a6 a7 a8 a9 pc hc lc b0 b1 b2 b3 b4 b5 b6 cn FI_ CH_ SO EO RO DA TW NU PG HG P m8 i hO hN (by omega)) (cwV 1 xT gX1_holesOfPart_X1_partAround rfl rfl rfl hd_X1_partAround ⟨Nat.le_of_ble_eq_true rfl, Nat.le_of_ble_eq_true rfl⟩) (g_preV (ci := 1) (q0 := 0) wP wD wK [0, 1, 2, 3, 4, 5, 6, 7, 8, 9, 10, 11] (by decide) rfl rfl rfl) rfl rfl wl.1 rfl (lv_room (Nat.le_of_ble_eq_true rfl)) dX1_holesOfPart_15 ⟨Nat.le_of_ble_eq_true rfl, Nat.le_of_ble_eq_true rfl⟩) wP wS (fun H locs wP wS => ?_)
        refine lv_iload_n xX xB dX1_holesOfPart_18 rfl (lv_at wl 1 rfl) ?_
        refine t_icmp_ne xX xB dX1_holesOfPart_19 dX1_holesOfPart_22 dX1_holesOfPart_23 dX1_holesOfPart_26 (by have := cD_le (P := P) (m8 := m8) (n := rp P m8 (selH P m8 i - 16)) (Nat.le_of_lt (rp_lt (by have := (selH_spec (P := P) (m8 := m8) (k := i) (by rw [← hN.2.2.2.2.1]; omega)).1; omega))); omega) (by omega) ?_
        refine lv_ri (bI_Z _) ?_
        refine z_iadd xX xB dX1_holesOfPart_27 ?_
        refine lv_istore_n (lv' := [(2, .int (zI ((t : Int) + ((bZ (decide (((cD P m8 (rp P m8 (selH P m8 i - 16)) : Nat) : Int) = (p : Int))) : Nat) : Int)))), (0, .ref o), (1, .int (zI (p : Int))), (3, .int (zI (i : Int)))]) xX xB dX1_holesOfPart_28 rfl wl (by decide) rfl (fun ls wl => ?_)
        refine lv_iinc (v := zI ((i : Int) + 1)) (lv' := [(3, .int (zI ((i : Int) + 1))), (2, .int (zI ((t : Int) + ((bZ (decide (((cD P m8 (rp P m8 (selH P m8 i - 16)) : Nat) : Int) = (p : Int))) : Nat) : Int)))), (0, .ref o), (1, .int (zI (p : Int)))]) xX xB dX1_holesOfPart_29 wl (k := 3) rfl (zI_add _ _) (by decide) rfl (fun ls wl => ?_)
        refine lv_goto (tgt := 4) xX xB dX1_holesOfPart_32 (by decide) ?_
        exact ihK (i + 1) (t + (bZ (decide (((cD P m8 (rp P m8 (selH P m8 i - 16)) : Nat) : Int) = (p : Int))))) (by omega) (by omega) (ct_step ht (decide_eq_true_iff.trans ⟨fun z => by omega, fun z => by omega⟩)) _ _ _ wP wS (lv_sub wl [2, 3, 1, 0] rfl)
  exact K _ 0 0 (Nat.lt_succ_self _) (by omega) rfl _ _ _ wP wS (lv_sub wl [2, 3, 1, 0] rfl)

set_option maxHeartbeats 4000000 in
set_option maxRecDepth 100000 in
theorem c_X1_partsInHole (l : Launch) (D : va_G) (kI kB : ClassId) (o : Nat) (h : Nat) (a0 : Nat) (a1 : Nat) (a2 : Nat) (a3 : Nat) (a4 : Nat) (a5 : Nat) (a6 : Nat) (a7 : Nat) (a8 : Nat) (a9 : Nat) (pc : Nat) (hc : Nat) (lc : Nat) (b0 : Nat) (b1 : Nat) (b2 : Nat) (b3 : Nat) (b4 : Nat) (b5 : Nat) (b6 : Nat) (cn : Nat) (FI_ : Nat → Int) (CH_ : Nat → Int) (SO : Nat → Int) (EO : Nat → Int) (RO : Nat → Int) (DA : Nat → Bool) (TW : Nat → Int) (NU : Nat → Int) (PG : Nat → Int) (HG : Nat → Int) (P : Nat → Nat) (m8 : Bool) (p : Nat) (hO : RunsOK P m8 FI_ CH_ SO EO RO DA TW) (hN : NuI P m8 256 NU PG HG pc hc lc) (hp : p < hc) : gI l yX1_partsInHole wsX1_partsInHole ({ frames := 5, cells := 0, slots := 0, locals := 110 } : Room) D kI kB [.ref o, .int (zI (p : Int))] [(o, .inr (1, [.ref h, .ref a0, .ref a1, .ref a2, .ref a3, .ref a4, .ref a5, .ref a6, .ref a7, .ref a8, .ref a9, .int (zI (pc : Int)), .int (zI (hc : Int)), .int (zI (lc : Int))])), (h, .inr (4, [.ref b0, .ref b1, .ref b2, .ref b3, .ref b4, .ref b5, .ref b6, .int (zI (cn : Int))])), (b0, .inl (kI, 17, .inl (aZ FI_))), (b1, .inl (kI, 16, .inl (aZ CH_))), (b2, .inl (kI, 256, .inl (aZ SO))), (b3, .inl (kI, 256, .inl (aZ EO))), (b4, .inl (kI, 256, .inl (aZ RO))), (b5, .inl (kB, 256, .inl (aB DA))), (b6, .inl (kI, 256, .inl (aZ TW))), (a6, .inl (kI, 256, .inl (aZ NU))), (a7, .inl (kI, 256, .inl (aZ PG))), (a8, .inl (kI, 256, .inl (aZ HG)))] (zI ((inN P m8 p pc : Nat) : Int)) := by
  refine g_start (cc := cX1_partsInHole) (maxL := 4) (ret := (some .int)) (by decide) rfl (Nat.le_of_ble_eq_true rfl) ?_
  intro xp xe xs xm xbl xmt xc xX xB xR xM xT xO xL xN wP wD wK ls wl
  have wS : va_S (fun _ => False) xs.heap xs.heap [] := va_S.rf
  have wl : lv_has ls 4 [(0, .ref o), (1, .int (zI (p : Int)))] := wl
  generalize hQ : MQ xbl _ _ xs 0 0 _ = xQ
  have hpc : pc ≤ 128 := by rw [hN.2.2.2.1]; exact cD_128
  have hhc : hc ≤ 128 := by rw [hN.2.2.2.2.1]; exact cH_le (Nat.le_refl _)
  refine z_iconst xX xB dX1_partsInHole_0 ?_
  refine lv_istore_n (lv' := [(2, .int (zI 0)), (0, .ref o), (1, .int (zI (p : Int)))]) xX xB dX1_partsInHole_1 rfl wl (by decide) rfl (fun ls wl => ?_)
  refine z_iconst xX xB dX1_partsInHole_2 ?_
  refine lv_istore_n (lv' := [(3, .int (zI 0)), (2, .int (zI 0)), (0, .ref o), (1, .int (zI (p : Int)))]) xX xB dX1_partsInHole_3 rfl wl (by decide) rfl (fun ls wl => ?_)
  have K : ∀ n_ : Nat, ∀ (i : Nat) (t : Nat), pc - i < n_ → (i ≤ pc) → (t = inN P m8 p i) → ∀ (H : Heap) (locs : List Loc) (ls : Array Slot), va_P D gC [(o, .inr (1, [.ref h, .ref a0, .ref a1, .ref a2, .ref a3, .ref a4, .ref a5, .ref a6, .ref a7, .ref a8, .ref a9, .int (zI (pc : Int)), .int (zI (hc : Int)), .int (zI (lc : Int))])), (h, .inr (4, [.ref b0, .ref b1, .ref b2, .ref b3, .ref b4, .ref b5, .ref b6, .int (zI (cn : Int))])), (b0, .inl (kI, 17, .inl (aZ FI_))), (b1, .inl (kI, 16, .inl (aZ CH_))), (b2, .inl (kI, 256, .inl (aZ SO))), (b3, .inl (kI, 256, .inl (aZ EO))), (b4, .inl (kI, 256, .inl (aZ RO))), (b5, .inl (kB, 256, .inl (aB DA))), (b6, .inl (kI, 256, .inl (aZ TW))), (a6, .inl (kI, 256, .inl (aZ NU))), (a7, .inl (kI, 256, .inl (aZ PG))), (a8, .inl (kI, 256, .inl (aZ HG)))] H → va_S (fun _ => False) xs.heap H locs → lv_has ls 4 [(0, .ref o), (1, .int (zI (p : Int))), (2, .int (zI (t : Int))), (3, .int (zI (i : Int)))] → W xp l xe ({ frames := 5, cells := 0, slots := 0, locals := 110 } : Room) xs xm (List.toArray [.ref o, .int (zI (p : Int))]) xbl xmt xc H locs 0 0 xQ (F0 xm 4 ls []) := by
    intro n_
    induction n_ with
    | zero =>
      intro i t hme
      exact absurd hme (Nat.not_lt_zero _)
    | succ n_ ihK =>
      intro i t hme hi ht H locs ls wP wS wl
      have htb : t ≤ i := by rw [ht]; exact fb_ct_le _ _
      refine lv_iload_n xX xB dX1_partsInHole_4 rfl (lv_at wl 3 rfl) ?_
      refine lv_aload_n xX xB dX1_partsInHole_5 rfl (lv_at wl 0 rfl) ?_
      refine va_get (D := D) (ci := 1) (v := .int (zI (pc : Int))) (C := RX1) (T := TX1) (N := 14) xX xB xT in_X1_partsInHole_X1 xO wK.1 wP 0 rfl rfl 11 (by decide) (xT _ (List.mem_of_getElem? (i := 1) rfl)) (fun _ h9 => h9) rfl dX1_partsInHole_6 ?_
      refine z_icmp_ge (tgt := 35) xX xB dX1_partsInHole_9 (by decide) (by omega) (by omega) (fun h9 => ?_) (fun h9 => ?_)
      · skip
        refine lv_iload_n xX xB dX1_partsInHole_35 rfl (lv_at wl 2 rfl) ?_
        subst hQ
        exact g_iret xX xB xR xL wS dX1_partsInHole_36 (congrArg (fun z : Nat => zI (z : Int)) (by rw [ht, show i = pc by omega]))
      · skip
        refine lv_iload_n xX xB dX1_partsInHole_12 rfl (lv_at wl 2 rfl) ?_
        refine lv_aload_n xX xB dX1_partsInHole_13 rfl (lv_at wl 0 rfl) ?_
        refine lv_iload_n xX xB dX1_partsInHole_14 rfl (lv_at wl 3 rfl) ?_
        refine g_pure (va_runV (As := [.int (zI (i : Int))]) (rest := [.int (zI (t : Int))]) ⟨xX, xB, xM, xO, xT⟩ (c_X1_holeAround l D kI kB o h a0 a1 a2 a3 a4 a5 a6 a7 a8 a9 pc hc lc b0 b1 b2 b3 b4 b5 b6 cn FI_ CH_ SO EO RO DA TW NU PG HG P m8 i hO hN (by omega)) (cwV 1 xT gX1_partsInHole_X1_holeAround rfl rfl rfl hd_X1_holeAround ⟨Nat.le_of_ble_eq_true rfl, Nat.le_of_ble_eq_true rfl⟩) (g_preV (ci := 1) (q0 := 0) wP wD wK [0, 1, 2, 3, 4, 5, 6, 7, 8, 9, 10, 11] (by decide) rfl rfl rfl) rfl rfl wl.1 rfl (lv_room (Nat.le_of_ble_eq_true rfl)) dX1_partsInHole_15 ⟨Nat.le_of_ble_eq_true rfl, Nat.le_of_ble_eq_true rfl⟩) wP wS (fun H locs wP wS => ?_)
        refine lv_iload_n xX xB dX1_partsInHole_18 rfl (lv_at wl 1 rfl) ?_
        refine t_icmp_ne xX xB dX1_partsInHole_19 dX1_partsInHole_22 dX1_partsInHole_23 dX1_partsInHole_26 (by have := lieR_rng (P := P) (m8 := m8) (selD_spec (P := P) (m8 := m8) (k := i) (by rw [← hN.2.2.2.1]; omega)).1; omega) (by omega) ?_
        refine lv_ri (bI_Z _) ?_
        refine z_iadd xX xB dX1_partsInHole_27 ?_
        refine lv_istore_n (lv' := [(2, .int (zI ((t : Int) + ((bZ (decide (lieR P m8 (selD P m8 i) = (p : Int))) : Nat) : Int)))), (0, .ref o), (1, .int (zI (p : Int))), (3, .int (zI (i : Int)))]) xX xB dX1_partsInHole_28 rfl wl (by decide) rfl (fun ls wl => ?_)
        refine lv_iinc (v := zI ((i : Int) + 1)) (lv' := [(3, .int (zI ((i : Int) + 1))), (2, .int (zI ((t : Int) + ((bZ (decide (lieR P m8 (selD P m8 i) = (p : Int))) : Nat) : Int)))), (0, .ref o), (1, .int (zI (p : Int)))]) xX xB dX1_partsInHole_29 wl (k := 3) rfl (zI_add _ _) (by decide) rfl (fun ls wl => ?_)
        refine lv_goto (tgt := 4) xX xB dX1_partsInHole_32 (by decide) ?_
        exact ihK (i + 1) (t + (bZ (decide (lieR P m8 (selD P m8 i) = (p : Int))))) (by omega) (by omega) (ct_step ht decide_eq_true_iff) _ _ _ wP wS (lv_sub wl [2, 3, 1, 0] rfl)
  exact K _ 0 0 (Nat.lt_succ_self _) (by omega) rfl _ _ _ wP wS (lv_sub wl [2, 3, 1, 0] rfl)

set_option maxHeartbeats 4000000 in
set_option maxRecDepth 100000 in
theorem c_X1_allRims (l : Launch) (D : va_G) (kI kB : ClassId) (o : Nat) (h : Nat) (a0 : Nat) (a1 : Nat) (a2 : Nat) (a3 : Nat) (a4 : Nat) (a5 : Nat) (a6 : Nat) (a7 : Nat) (a8 : Nat) (a9 : Nat) (pc : Nat) (hc : Nat) (lc : Nat) (b0 : Nat) (b1 : Nat) (b2 : Nat) (b3 : Nat) (b4 : Nat) (b5 : Nat) (b6 : Nat) (cn : Nat) (FI_ : Nat → Int) (CH_ : Nat → Int) (SO : Nat → Int) (EO : Nat → Int) (RO : Nat → Int) (DA : Nat → Bool) (TW : Nat → Int) (NU : Nat → Int) (PG : Nat → Int) (HG : Nat → Int) (P : Nat → Nat) (m8 : Bool) (SZ : Nat → Int) (RM : Nat → Int) (BT : Nat → Int) (LT : Nat → Int) (RT : Nat → Int) (RR : Nat → Bool) (hO : RunsOK P m8 FI_ CH_ SO EO RO DA TW) (hN : NuI P m8 256 NU PG HG pc hc lc) (hM : MeI P m8 SZ RM BT LT RT RR 256) : gI l yX1_allRims wsX1_allRims ({ frames := 1, cells := 0, slots := 0, locals := 21 } : Room) D kI kB [.ref o] [(o, .inr (1, [.ref h, .ref a0, .ref a1, .ref a2, .ref a3, .ref a4, .ref a5, .ref a6, .ref a7, .ref a8, .ref a9, .int (zI (pc : Int)), .int (zI (hc : Int)), .int (zI (lc : Int))])), (h, .inr (4, [.ref b0, .ref b1, .ref b2, .ref b3, .ref b4, .ref b5, .ref b6, .int (zI (cn : Int))])), (b0, .inl (kI, 17, .inl (aZ FI_))), (b1, .inl (kI, 16, .inl (aZ CH_))), (b2, .inl (kI, 256, .inl (aZ SO))), (b3, .inl (kI, 256, .inl (aZ EO))), (b4, .inl (kI, 256, .inl (aZ RO))), (b5, .inl (kB, 256, .inl (aB DA))), (b6, .inl (kI, 256, .inl (aZ TW))), (a6, .inl (kI, 256, .inl (aZ NU))), (a7, .inl (kI, 256, .inl (aZ PG))), (a8, .inl (kI, 256, .inl (aZ HG))), (a0, .inl (kI, 256, .inl (aZ SZ))), (a1, .inl (kI, 256, .inl (aZ RM))), (a2, .inl (kI, 256, .inl (aZ BT))), (a3, .inl (kI, 256, .inl (aZ LT))), (a4, .inl (kI, 256, .inl (aZ RT))), (a5, .inl (kB, 256, .inl (aB RR)))] (zI ((rimT P 256 : Nat) : Int)) := by
  refine g_start (cc := cX1_allRims) (maxL := 3) (ret := (some .int)) (by decide) rfl (Nat.le_of_ble_eq_true rfl) ?_
  intro xp xe xs xm xbl xmt xc xX xB xR xM xT xO xL xN wP wD wK ls wl
  have wS : va_S (fun _ => False) xs.heap xs.heap [] := va_S.rf
  have wl : lv_has ls 3 [(0, .ref o)] := wl
  generalize hQ : MQ xbl _ _ xs 0 0 _ = xQ
  have hpc : pc ≤ 128 := by rw [hN.2.2.2.1]; exact cD_128
  refine z_iconst xX xB dX1_allRims_0 ?_
  refine lv_istore_n (lv' := [(1, .int (zI 0)), (0, .ref o)]) xX xB dX1_allRims_1 rfl wl (by decide) rfl (fun ls wl => ?_)
  refine z_iconst xX xB dX1_allRims_2 ?_
  refine lv_istore_n (lv' := [(2, .int (zI 0)), (1, .int (zI 0)), (0, .ref o)]) xX xB dX1_allRims_3 rfl wl (by decide) rfl (fun ls wl => ?_)
  have K : ∀ n_ : Nat, ∀ (i : Nat) (t : Nat), pc - i < n_ → (i ≤ pc) → (t = fb_sm (fun k => rimR P m8 (selD P m8 k)) i) → ∀ (H : Heap) (locs : List Loc) (ls : Array Slot), va_P D gC [(o, .inr (1, [.ref h, .ref a0, .ref a1, .ref a2, .ref a3, .ref a4, .ref a5, .ref a6, .ref a7, .ref a8, .ref a9, .int (zI (pc : Int)), .int (zI (hc : Int)), .int (zI (lc : Int))])), (h, .inr (4, [.ref b0, .ref b1, .ref b2, .ref b3, .ref b4, .ref b5, .ref b6, .int (zI (cn : Int))])), (b0, .inl (kI, 17, .inl (aZ FI_))), (b1, .inl (kI, 16, .inl (aZ CH_))), (b2, .inl (kI, 256, .inl (aZ SO))), (b3, .inl (kI, 256, .inl (aZ EO))), (b4, .inl (kI, 256, .inl (aZ RO))), (b5, .inl (kB, 256, .inl (aB DA))), (b6, .inl (kI, 256, .inl (aZ TW))), (a6, .inl (kI, 256, .inl (aZ NU))), (a7, .inl (kI, 256, .inl (aZ PG))), (a8, .inl (kI, 256, .inl (aZ HG))), (a0, .inl (kI, 256, .inl (aZ SZ))), (a1, .inl (kI, 256, .inl (aZ RM))), (a2, .inl (kI, 256, .inl (aZ BT))), (a3, .inl (kI, 256, .inl (aZ LT))), (a4, .inl (kI, 256, .inl (aZ RT))), (a5, .inl (kB, 256, .inl (aB RR)))] H → va_S (fun _ => False) xs.heap H locs → lv_has ls 3 [(0, .ref o), (1, .int (zI (t : Int))), (2, .int (zI (i : Int)))] → W xp l xe ({ frames := 1, cells := 0, slots := 0, locals := 21 } : Room) xs xm (List.toArray [.ref o]) xbl xmt xc H locs 0 0 xQ (F0 xm 4 ls []) := by
    intro n_
    induction n_ with
    | zero =>
      intro i t hme
      exact absurd hme (Nat.not_lt_zero _)
    | succ n_ ihK =>
      intro i t hme hi ht H locs ls wP wS wl
      refine lv_iload_n xX xB dX1_allRims_4 rfl (lv_at wl 2 rfl) ?_
      refine lv_aload_n xX xB dX1_allRims_5 rfl (lv_at wl 0 rfl) ?_
      refine va_get (D := D) (ci := 1) (v := .int (zI (pc : Int))) (C := RX1) (T := TX1) (N := 14) xX xB xT in_X1_allRims_X1 xO wK.1 wP 0 rfl rfl 11 (by decide) (xT _ (List.mem_of_getElem? (i := 1) rfl)) (fun _ h9 => h9) rfl dX1_allRims_6 ?_
      refine z_icmp_ge (tgt := 30) xX xB dX1_allRims_9 (by decide) (by omega) (by omega) (fun h9 => ?_) (fun h9 => ?_)
      · skip
        refine lv_iload_n xX xB dX1_allRims_30 rfl (lv_at wl 1 rfl) ?_
        subst hQ
        exact g_iret xX xB xR xL wS dX1_allRims_31 (congrArg (fun z : Nat => zI (z : Int)) (by rw [ht, show i = pc by omega, hN.2.2.2.1]; exact rims_all))
      · skip
        refine lv_iload_n xX xB dX1_allRims_12 rfl (lv_at wl 1 rfl) ?_
        refine lv_aload_n xX xB dX1_allRims_13 rfl (lv_at wl 0 rfl) ?_
        refine lv_aload_n xX xB dX1_allRims_14 rfl (lv_at wl 0 rfl) ?_
        refine lv_iload_n xX xB dX1_allRims_15 rfl (lv_at wl 2 rfl) ?_
        refine g_pure (va_runV (As := [.int (zI (i : Int))]) (rest := [.ref o, .int (zI (t : Int))]) ⟨xX, xB, xM, xO, xT⟩ (c_X1_groupOfPart l D kI kB o h a0 a1 a2 a3 a4 a5 a6 a7 a8 a9 pc hc lc PG i (by omega)) (cwV 1 xT gX1_allRims_X1_groupOfPart rfl rfl rfl hd_X1_groupOfPart ⟨Nat.le_of_ble_eq_true rfl, Nat.le_of_ble_eq_true rfl⟩) (g_preV (ci := 1) (q0 := 0) wP wD wK [0, 10] (by decide) rfl rfl rfl) rfl rfl wl.1 rfl (lv_room (Nat.le_of_ble_eq_true rfl)) dX1_allRims_16 ⟨Nat.le_of_ble_eq_true rfl, Nat.le_of_ble_eq_true rfl⟩) wP wS (fun H locs wP wS => ?_)
        have hS := selD_spec (P := P) (m8 := m8) (k := i) (by rw [← hN.2.2.2.1]; omega)
        have hg := rix_256 (P := P) hS.1
        refine lv_ri (y := zI ((rix P (selD P m8 i) : Nat) : Int)) (congrArg zI (hN.pg (by omega))) ?_
        refine g_pure (va_runV (As := [.int (zI ((rix P (selD P m8 i) : Nat) : Int))]) (rest := [.int (zI (t : Int))]) ⟨xX, xB, xM, xO, xT⟩ (c_X1_rimOf l D kI kB o h a0 a1 a2 a3 a4 a5 a6 a7 a8 a9 pc hc lc RM (rix P (selD P m8 i)) (by omega)) (cwV 1 xT gX1_allRims_X1_rimOf rfl rfl rfl hd_X1_rimOf ⟨Nat.le_of_ble_eq_true rfl, Nat.le_of_ble_eq_true rfl⟩) (g_preV (ci := 1) (q0 := 0) wP wD wK [0, 13] (by decide) rfl rfl rfl) rfl rfl wl.1 rfl (lv_room (Nat.le_of_ble_eq_true rfl)) dX1_allRims_19 ⟨Nat.le_of_ble_eq_true rfl, Nat.le_of_ble_eq_true rfl⟩) wP wS (fun H locs wP wS => ?_)
        refine lv_ri (y := zI ((rimR P m8 (selD P m8 i) : Nat) : Int)) (congrArg zI (hM.rm hS.1 hS.2.1)) ?_
        refine z_iadd xX xB dX1_allRims_22 ?_
        refine lv_istore_n (lv' := [(1, .int (zI ((t : Int) + ((rimR P m8 (selD P m8 i) : Nat) : Int)))), (0, .ref o), (2, .int (zI (i : Int)))]) xX xB dX1_allRims_23 rfl wl (by decide) rfl (fun ls wl => ?_)
        refine lv_iinc (v := zI ((i : Int) + 1)) (lv' := [(2, .int (zI ((i : Int) + 1))), (1, .int (zI ((t : Int) + ((rimR P m8 (selD P m8 i) : Nat) : Int)))), (0, .ref o)]) xX xB dX1_allRims_24 wl (k := 2) rfl (zI_add _ _) (by decide) rfl (fun ls wl => ?_)
        refine lv_goto (tgt := 4) xX xB dX1_allRims_27 (by decide) ?_
        exact ihK (i + 1) (t + (rimR P m8 (selD P m8 i))) (by omega) (by omega) (by rw [ht]; rfl) _ _ _ wP wS (lv_sub wl [2, 1, 0] rfl)
  exact K _ 0 0 (Nat.lt_succ_self _) (by omega) rfl _ _ _ wP wS (lv_sub wl [2, 1, 0] rfl)

set_option maxHeartbeats 4000000 in
set_option maxRecDepth 100000 in
theorem c_X1_deepest (l : Launch) (D : va_G) (kI kB : ClassId) (o : Nat) (h : Nat) (a0 : Nat) (a1 : Nat) (a2 : Nat) (a3 : Nat) (a4 : Nat) (a5 : Nat) (a6 : Nat) (a7 : Nat) (a8 : Nat) (a9 : Nat) (pc : Nat) (hc : Nat) (lc : Nat) (b0 : Nat) (b1 : Nat) (b2 : Nat) (b3 : Nat) (b4 : Nat) (b5 : Nat) (b6 : Nat) (cn : Nat) (FI_ : Nat → Int) (CH_ : Nat → Int) (SO : Nat → Int) (EO : Nat → Int) (RO : Nat → Int) (DA : Nat → Bool) (TW : Nat → Int) (NU : Nat → Int) (PG : Nat → Int) (HG : Nat → Int) (P : Nat → Nat) (m8 : Bool) (hO : RunsOK P m8 FI_ CH_ SO EO RO DA TW) (hN : NuI P m8 256 NU PG HG pc hc lc) : gI l yX1_deepest wsX1_deepest ({ frames := 6, cells := 0, slots := 0, locals := 133 } : Room) D kI kB [.ref o] [(o, .inr (1, [.ref h, .ref a0, .ref a1, .ref a2, .ref a3, .ref a4, .ref a5, .ref a6, .ref a7, .ref a8, .ref a9, .int (zI (pc : Int)), .int (zI (hc : Int)), .int (zI (lc : Int))])), (h, .inr (4, [.ref b0, .ref b1, .ref b2, .ref b3, .ref b4, .ref b5, .ref b6, .int (zI (cn : Int))])), (b0, .inl (kI, 17, .inl (aZ FI_))), (b1, .inl (kI, 16, .inl (aZ CH_))), (b2, .inl (kI, 256, .inl (aZ SO))), (b3, .inl (kI, 256, .inl (aZ EO))), (b4, .inl (kI, 256, .inl (aZ RO))), (b5, .inl (kB, 256, .inl (aB DA))), (b6, .inl (kI, 256, .inl (aZ TW))), (a6, .inl (kI, 256, .inl (aZ NU))), (a7, .inl (kI, 256, .inl (aZ PG))), (a8, .inl (kI, 256, .inl (aZ HG)))] (zI (mxD P m8 pc)) := by
  refine g_start (cc := cX1_deepest) (maxL := 3) (ret := (some .int)) (by decide) rfl (Nat.le_of_ble_eq_true rfl) ?_
  intro xp xe xs xm xbl xmt xc xX xB xR xM xT xO xL xN wP wD wK ls wl
  have wS : va_S (fun _ => False) xs.heap xs.heap [] := va_S.rf
  have wl : lv_has ls 3 [(0, .ref o)] := wl
  generalize hQ : MQ xbl _ _ xs 0 0 _ = xQ
  have hpc : pc ≤ 128 := by rw [hN.2.2.2.1]; exact cD_128
  refine z_iconst xX xB dX1_deepest_0 ?_
  refine lv_istore_n (lv' := [(1, .int (zI (-1))), (0, .ref o)]) xX xB dX1_deepest_1 rfl wl (by decide) rfl (fun ls wl => ?_)
  refine z_iconst xX xB dX1_deepest_2 ?_
  refine lv_istore_n (lv' := [(2, .int (zI 0)), (1, .int (zI (-1))), (0, .ref o)]) xX xB dX1_deepest_3 rfl wl (by decide) rfl (fun ls wl => ?_)
  have K : ∀ n_ : Nat, ∀ (i : Nat) (t : Int), pc - i < n_ → (i ≤ pc) → (t = mxD P m8 i) → ∀ (H : Heap) (locs : List Loc) (ls : Array Slot), va_P D gC [(o, .inr (1, [.ref h, .ref a0, .ref a1, .ref a2, .ref a3, .ref a4, .ref a5, .ref a6, .ref a7, .ref a8, .ref a9, .int (zI (pc : Int)), .int (zI (hc : Int)), .int (zI (lc : Int))])), (h, .inr (4, [.ref b0, .ref b1, .ref b2, .ref b3, .ref b4, .ref b5, .ref b6, .int (zI (cn : Int))])), (b0, .inl (kI, 17, .inl (aZ FI_))), (b1, .inl (kI, 16, .inl (aZ CH_))), (b2, .inl (kI, 256, .inl (aZ SO))), (b3, .inl (kI, 256, .inl (aZ EO))), (b4, .inl (kI, 256, .inl (aZ RO))), (b5, .inl (kB, 256, .inl (aB DA))), (b6, .inl (kI, 256, .inl (aZ TW))), (a6, .inl (kI, 256, .inl (aZ NU))), (a7, .inl (kI, 256, .inl (aZ PG))), (a8, .inl (kI, 256, .inl (aZ HG)))] H → va_S (fun _ => False) xs.heap H locs → lv_has ls 3 [(0, .ref o), (1, .int (zI t)), (2, .int (zI (i : Int)))] → W xp l xe ({ frames := 6, cells := 0, slots := 0, locals := 133 } : Room) xs xm (List.toArray [.ref o]) xbl xmt xc H locs 0 0 xQ (F0 xm 4 ls []) := by
    intro n_
    induction n_ with
    | zero =>
      intro i t hme
      exact absurd hme (Nat.not_lt_zero _)
    | succ n_ ihK =>
      intro i t hme hi ht H locs ls wP wS wl
      refine lv_iload_n xX xB dX1_deepest_4 rfl (lv_at wl 2 rfl) ?_
      refine lv_aload_n xX xB dX1_deepest_5 rfl (lv_at wl 0 rfl) ?_
      refine va_get (D := D) (ci := 1) (v := .int (zI (pc : Int))) (C := RX1) (T := TX1) (N := 14) xX xB xT in_X1_deepest_X1 xO wK.1 wP 0 rfl rfl 11 (by decide) (xT _ (List.mem_of_getElem? (i := 1) rfl)) (fun _ h9 => h9) rfl dX1_deepest_6 ?_
      refine z_icmp_ge (tgt := 28) xX xB dX1_deepest_9 (by decide) (by omega) (by omega) (fun h9 => ?_) (fun h9 => ?_)
      · skip
        refine lv_iload_n xX xB dX1_deepest_28 rfl (lv_at wl 1 rfl) ?_
        subst hQ
        exact g_iret xX xB xR xL wS dX1_deepest_29 (congrArg zI (by rw [ht, show i = pc by omega]))
      · skip
        refine lv_iload_n xX xB dX1_deepest_12 rfl (lv_at wl 1 rfl) ?_
        refine lv_aload_n xX xB dX1_deepest_13 rfl (lv_at wl 0 rfl) ?_
        refine lv_iload_n xX xB dX1_deepest_14 rfl (lv_at wl 2 rfl) ?_
        refine g_pure (va_runV (As := [.int (zI (i : Int))]) (rest := [.int (zI t)]) ⟨xX, xB, xM, xO, xT⟩ (c_X1_depthOf l D kI kB o h a0 a1 a2 a3 a4 a5 a6 a7 a8 a9 pc hc lc b0 b1 b2 b3 b4 b5 b6 cn FI_ CH_ SO EO RO DA TW NU PG HG P m8 i hO hN (by omega)) (cwV 1 xT gX1_deepest_X1_depthOf rfl rfl rfl hd_X1_depthOf ⟨Nat.le_of_ble_eq_true rfl, Nat.le_of_ble_eq_true rfl⟩) (g_preV (ci := 1) (q0 := 0) wP wD wK [0, 1, 2, 3, 4, 5, 6, 7, 8, 9, 10, 11] (by decide) rfl rfl rfl) rfl rfl wl.1 rfl (lv_room (Nat.le_of_ble_eq_true rfl)) dX1_deepest_15 ⟨Nat.le_of_ble_eq_true rfl, Nat.le_of_ble_eq_true rfl⟩) wP wS (fun H locs wP wS => ?_)
        refine va_mmax xX xB (xM.trans wl.1.symm) xO (xT _ (List.mem_of_getElem? (i := 2) rfl)) (xT _ (List.mem_of_getElem? (i := 3) rfl)) (xT _ (List.mem_of_getElem? (i := 4) rfl)) (xT _ (List.mem_of_getElem? (i := 5) rfl)) (Nat.le_of_ble_eq_true rfl) (Nat.le_of_ble_eq_true rfl) (Nat.zero_le _) (Nat.zero_le _) dX1_deepest_18 ?_
        refine lv_ri (zI_max (by have := mxD_rng (P := P) (m8 := m8) i; omega) (by have : deepR P m8 (selD P m8 i) ≤ 256 := dpN_le _ _; omega)) ?_
        refine lv_istore_n (lv' := [(1, .int (zI (max t ((deepR P m8 (selD P m8 i) : Nat) : Int)))), (0, .ref o), (2, .int (zI (i : Int)))]) xX xB dX1_deepest_21 rfl wl (by decide) rfl (fun ls wl => ?_)
        refine lv_iinc (v := zI ((i : Int) + 1)) (lv' := [(2, .int (zI ((i : Int) + 1))), (1, .int (zI (max t ((deepR P m8 (selD P m8 i) : Nat) : Int)))), (0, .ref o)]) xX xB dX1_deepest_22 wl (k := 2) rfl (zI_add _ _) (by decide) rfl (fun ls wl => ?_)
        refine lv_goto (tgt := 4) xX xB dX1_deepest_25 (by decide) ?_
        exact ihK (i + 1) (max t ((deepR P m8 (selD P m8 i) : Nat) : Int)) (by omega) (by omega) (by rw [ht]; rfl) _ _ _ wP wS (lv_sub wl [2, 1, 0] rfl)
  exact K _ 0 (-1) (Nat.lt_succ_self _) (by omega) rfl _ _ _ wP wS (lv_sub wl [2, 1, 0] rfl)

set_option maxHeartbeats 4000000 in
set_option maxRecDepth 100000 in
theorem c_X1_largest (l : Launch) (D : va_G) (kI kB : ClassId) (o : Nat) (h : Nat) (a0 : Nat) (a1 : Nat) (a2 : Nat) (a3 : Nat) (a4 : Nat) (a5 : Nat) (a6 : Nat) (a7 : Nat) (a8 : Nat) (a9 : Nat) (pc : Nat) (hc : Nat) (lc : Nat) (b0 : Nat) (b1 : Nat) (b2 : Nat) (b3 : Nat) (b4 : Nat) (b5 : Nat) (b6 : Nat) (cn : Nat) (FI_ : Nat → Int) (CH_ : Nat → Int) (SO : Nat → Int) (EO : Nat → Int) (RO : Nat → Int) (DA : Nat → Bool) (TW : Nat → Int) (NU : Nat → Int) (PG : Nat → Int) (HG : Nat → Int) (P : Nat → Nat) (m8 : Bool) (SZ : Nat → Int) (RM : Nat → Int) (BT : Nat → Int) (LT : Nat → Int) (RT : Nat → Int) (RR : Nat → Bool) (hO : RunsOK P m8 FI_ CH_ SO EO RO DA TW) (hN : NuI P m8 256 NU PG HG pc hc lc) (hM : MeI P m8 SZ RM BT LT RT RR 256) : gI l yX1_largest wsX1_largest ({ frames := 1, cells := 0, slots := 0, locals := 21 } : Room) D kI kB [.ref o] [(o, .inr (1, [.ref h, .ref a0, .ref a1, .ref a2, .ref a3, .ref a4, .ref a5, .ref a6, .ref a7, .ref a8, .ref a9, .int (zI (pc : Int)), .int (zI (hc : Int)), .int (zI (lc : Int))])), (h, .inr (4, [.ref b0, .ref b1, .ref b2, .ref b3, .ref b4, .ref b5, .ref b6, .int (zI (cn : Int))])), (b0, .inl (kI, 17, .inl (aZ FI_))), (b1, .inl (kI, 16, .inl (aZ CH_))), (b2, .inl (kI, 256, .inl (aZ SO))), (b3, .inl (kI, 256, .inl (aZ EO))), (b4, .inl (kI, 256, .inl (aZ RO))), (b5, .inl (kB, 256, .inl (aB DA))), (b6, .inl (kI, 256, .inl (aZ TW))), (a6, .inl (kI, 256, .inl (aZ NU))), (a7, .inl (kI, 256, .inl (aZ PG))), (a8, .inl (kI, 256, .inl (aZ HG))), (a0, .inl (kI, 256, .inl (aZ SZ))), (a1, .inl (kI, 256, .inl (aZ RM))), (a2, .inl (kI, 256, .inl (aZ BT))), (a3, .inl (kI, 256, .inl (aZ LT))), (a4, .inl (kI, 256, .inl (aZ RT))), (a5, .inl (kB, 256, .inl (aB RR)))] (zI (lgB P m8 pc)) := by
  refine g_start (cc := cX1_largest) (maxL := 5) (ret := (some .int)) (by decide) rfl (Nat.le_of_ble_eq_true rfl) ?_
  intro xp xe xs xm xbl xmt xc xX xB xR xM xT xO xL xN wP wD wK ls wl
  have wS : va_S (fun _ => False) xs.heap xs.heap [] := va_S.rf
  have wl : lv_has ls 5 [(0, .ref o)] := wl
  generalize hQ : MQ xbl _ _ xs 0 0 _ = xQ
  have hpc : pc ≤ 128 := by rw [hN.2.2.2.1]; exact cD_128
  refine z_iconst xX xB dX1_largest_0 ?_
  refine lv_istore_n (lv' := [(1, .int (zI (-1))), (0, .ref o)]) xX xB dX1_largest_1 rfl wl (by decide) rfl (fun ls wl => ?_)
  refine z_iconst xX xB dX1_largest_2 ?_
  refine lv_istore_n (lv' := [(2, .int (zI 0)), (1, .int (zI (-1))), (0, .ref o)]) xX xB dX1_largest_3 rfl wl (by decide) rfl (fun ls wl => ?_)
  refine z_iconst xX xB dX1_largest_4 ?_
  refine lv_istore_n (lv' := [(3, .int (zI 0)), (2, .int (zI 0)), (1, .int (zI (-1))), (0, .ref o)]) xX xB dX1_largest_5 rfl wl (by decide) rfl (fun ls wl => ?_)
  have K : ∀ n_ : Nat, ∀ (i : Nat) (m : Nat) (b : Int), pc - i < n_ → (i ≤ pc) → (m = lgM P m8 i) → (b = lgB P m8 i) → ∀ (H : Heap) (locs : List Loc) (ls : Array Slot), va_P D gC [(o, .inr (1, [.ref h, .ref a0, .ref a1, .ref a2, .ref a3, .ref a4, .ref a5, .ref a6, .ref a7, .ref a8, .ref a9, .int (zI (pc : Int)), .int (zI (hc : Int)), .int (zI (lc : Int))])), (h, .inr (4, [.ref b0, .ref b1, .ref b2, .ref b3, .ref b4, .ref b5, .ref b6, .int (zI (cn : Int))])), (b0, .inl (kI, 17, .inl (aZ FI_))), (b1, .inl (kI, 16, .inl (aZ CH_))), (b2, .inl (kI, 256, .inl (aZ SO))), (b3, .inl (kI, 256, .inl (aZ EO))), (b4, .inl (kI, 256, .inl (aZ RO))), (b5, .inl (kB, 256, .inl (aB DA))), (b6, .inl (kI, 256, .inl (aZ TW))), (a6, .inl (kI, 256, .inl (aZ NU))), (a7, .inl (kI, 256, .inl (aZ PG))), (a8, .inl (kI, 256, .inl (aZ HG))), (a0, .inl (kI, 256, .inl (aZ SZ))), (a1, .inl (kI, 256, .inl (aZ RM))), (a2, .inl (kI, 256, .inl (aZ BT))), (a3, .inl (kI, 256, .inl (aZ LT))), (a4, .inl (kI, 256, .inl (aZ RT))), (a5, .inl (kB, 256, .inl (aB RR)))] H → va_S (fun _ => False) xs.heap H locs → lv_has ls 5 [(0, .ref o), (1, .int (zI b)), (2, .int (zI (m : Int))), (3, .int (zI (i : Int)))] → W xp l xe ({ frames := 1, cells := 0, slots := 0, locals := 21 } : Room) xs xm (List.toArray [.ref o]) xbl xmt xc H locs 0 0 xQ (F0 xm 6 ls []) := by
    intro n_
    induction n_ with
    | zero =>
      intro i m b hme
      exact absurd hme (Nat.not_lt_zero _)
    | succ n_ ihK =>
      intro i m b hme hi hm hb H locs ls wP wS wl
      refine lv_iload_n xX xB dX1_largest_6 rfl (lv_at wl 3 rfl) ?_
      refine lv_aload_n xX xB dX1_largest_7 rfl (lv_at wl 0 rfl) ?_
      refine va_get (D := D) (ci := 1) (v := .int (zI (pc : Int))) (C := RX1) (T := TX1) (N := 14) xX xB xT in_X1_largest_X1 xO wK.1 wP 0 rfl rfl 11 (by decide) (xT _ (List.mem_of_getElem? (i := 1) rfl)) (fun _ h9 => h9) rfl dX1_largest_8 ?_
      refine z_icmp_ge (tgt := 42) xX xB dX1_largest_11 (by decide) (by omega) (by omega) (fun h11 => ?_) (fun h11 => ?_)
      · skip
        refine lv_iload_n xX xB dX1_largest_42 rfl (lv_at wl 1 rfl) ?_
        subst hQ
        exact g_iret xX xB xR xL wS dX1_largest_43 (congrArg zI (by rw [hb, show i = pc by omega]))
      · skip
        refine lv_aload_n xX xB dX1_largest_14 rfl (lv_at wl 0 rfl) ?_
        refine lv_aload_n xX xB dX1_largest_15 rfl (lv_at wl 0 rfl) ?_
        refine lv_iload_n xX xB dX1_largest_16 rfl (lv_at wl 3 rfl) ?_
        refine g_pure (va_runV (As := [.int (zI (i : Int))]) (rest := [.ref o]) ⟨xX, xB, xM, xO, xT⟩ (c_X1_groupOfPart l D kI kB o h a0 a1 a2 a3 a4 a5 a6 a7 a8 a9 pc hc lc PG i (by omega)) (cwV 1 xT gX1_largest_X1_groupOfPart rfl rfl rfl hd_X1_groupOfPart ⟨Nat.le_of_ble_eq_true rfl, Nat.le_of_ble_eq_true rfl⟩) (g_preV (ci := 1) (q0 := 0) wP wD wK [0, 10] (by decide) rfl rfl rfl) rfl rfl wl.1 rfl (lv_room (Nat.le_of_ble_eq_true rfl)) dX1_largest_17 ⟨Nat.le_of_ble_eq_true rfl, Nat.le_of_ble_eq_true rfl⟩) wP wS (fun H locs wP wS => ?_)
        have hS := selD_spec (P := P) (m8 := m8) (k := i) (by rw [← hN.2.2.2.1]; omega)
        have hg := rix_256 (P := P) hS.1
        refine lv_ri (y := zI ((rix P (selD P m8 i) : Nat) : Int)) (congrArg zI (hN.pg (by omega))) ?_
        refine g_pure (va_runV (As := [.int (zI ((rix P (selD P m8 i) : Nat) : Int))]) (rest := []) ⟨xX, xB, xM, xO, xT⟩ (c_X1_sizeOf l D kI kB o h a0 a1 a2 a3 a4 a5 a6 a7 a8 a9 pc hc lc SZ (rix P (selD P m8 i)) (by omega)) (cwV 1 xT gX1_largest_X1_sizeOf rfl rfl rfl hd_X1_sizeOf ⟨Nat.le_of_ble_eq_true rfl, Nat.le_of_ble_eq_true rfl⟩) (g_preV (ci := 1) (q0 := 0) wP wD wK [0, 12] (by decide) rfl rfl rfl) rfl rfl wl.1 rfl (lv_room (Nat.le_of_ble_eq_true rfl)) dX1_largest_20 ⟨Nat.le_of_ble_eq_true rfl, Nat.le_of_ble_eq_true rfl⟩) wP wS (fun H locs wP wS => ?_)
        refine lv_ri (y := zI ((szR P m8 (selD P m8 i) : Nat) : Int)) (congrArg zI (hM.sz hS.1 hS.2.1.1)) ?_
        refine lv_istore (lv' := [(4, .int (zI ((szR P m8 (selD P m8 i) : Nat) : Int))), (0, .ref o), (1, .int (zI b)), (2, .int (zI (m : Int))), (3, .int (zI (i : Int)))]) xX xB dX1_largest_23 wl (by decide) rfl (fun ls wl => ?_)
        refine lv_iload xX xB dX1_largest_25 (lv_at wl 0 rfl) ?_
        refine lv_iload_n xX xB dX1_largest_27 rfl (lv_at wl 3 rfl) ?_
        refine z_icmp_le (tgt := 36) xX xB dX1_largest_28 (by decide) (by have := szR_le (P := P) (m8 := m8) (selD P m8 i); omega) (by have := lgM_le (P := P) (m8 := m8) i; omega) (fun h28 => ?_) (fun h28 => ?_)
        · skip
          refine lv_iinc (v := zI ((i : Int) + 1)) (lv' := [(3, .int (zI ((i : Int) + 1))), (4, .int (zI ((szR P m8 (selD P m8 i) : Nat) : Int))), (0, .ref o), (1, .int (zI b)), (2, .int (zI (m : Int)))]) xX xB dX1_largest_36 wl (k := 4) rfl (zI_add _ _) (by decide) rfl (fun ls wl => ?_)
          refine lv_goto (tgt := 6) xX xB dX1_largest_39 (by decide) ?_
          exact ihK (i + 1) m b (by omega) (by omega) (by rw [hm]; show _ = if lgM P m8 i < szR P m8 (selD P m8 i) then _ else _; rw [if_neg (by omega)]) (by rw [hb]; show _ = if lgM P m8 i < szR P m8 (selD P m8 i) then _ else _; rw [if_neg (by omega)]) _ _ _ wP wS (lv_sub wl [2, 3, 4, 0] rfl)
        · skip
          refine lv_iload_n xX xB dX1_largest_31 rfl (lv_at wl 4 rfl) ?_
          refine lv_istore_n (lv' := [(1, .int (zI (i : Int))), (4, .int (zI ((szR P m8 (selD P m8 i) : Nat) : Int))), (0, .ref o), (2, .int (zI (m : Int))), (3, .int (zI (i : Int)))]) xX xB dX1_largest_32 rfl wl (by decide) rfl (fun ls wl => ?_)
          refine lv_iload xX xB dX1_largest_33 (lv_at wl 1 rfl) ?_
          refine lv_istore_n (lv' := [(2, .int (zI ((szR P m8 (selD P m8 i) : Nat) : Int))), (1, .int (zI (i : Int))), (4, .int (zI ((szR P m8 (selD P m8 i) : Nat) : Int))), (0, .ref o), (3, .int (zI (i : Int)))]) xX xB dX1_largest_35 rfl wl (by decide) rfl (fun ls wl => ?_)
          refine lv_iinc (v := zI ((i : Int) + 1)) (lv' := [(3, .int (zI ((i : Int) + 1))), (2, .int (zI ((szR P m8 (selD P m8 i) : Nat) : Int))), (1, .int (zI (i : Int))), (4, .int (zI ((szR P m8 (selD P m8 i) : Nat) : Int))), (0, .ref o)]) xX xB dX1_largest_36 wl (k := 4) rfl (zI_add _ _) (by decide) rfl (fun ls wl => ?_)
          refine lv_goto (tgt := 6) xX xB dX1_largest_39 (by decide) ?_
          exact ihK (i + 1) (szR P m8 (selD P m8 i)) (i : Int) (by omega) (by omega) (by show _ = if lgM P m8 i < szR P m8 (selD P m8 i) then _ else _; rw [if_pos (by omega)]) (by show _ = if lgM P m8 i < szR P m8 (selD P m8 i) then _ else _; rw [if_pos (by omega)]) _ _ _ wP wS (lv_sub wl [4, 2, 1, 0] rfl)
  exact K _ 0 0 (-1) (Nat.lt_succ_self _) (by omega) rfl rfl _ _ _ wP wS (lv_sub wl [3, 2, 1, 0] rfl)

set_option maxHeartbeats 4000000 in
set_option maxRecDepth 100000 in
theorem c_X1_partsUpTo (l : Launch) (D : va_G) (kI kB : ClassId) (o : Nat) (h : Nat) (a0 : Nat) (a1 : Nat) (a2 : Nat) (a3 : Nat) (a4 : Nat) (a5 : Nat) (a6 : Nat) (a7 : Nat) (a8 : Nat) (a9 : Nat) (pc : Nat) (hc : Nat) (lc : Nat) (b0 : Nat) (b1 : Nat) (b2 : Nat) (b3 : Nat) (b4 : Nat) (b5 : Nat) (b6 : Nat) (cn : Nat) (FI_ : Nat → Int) (CH_ : Nat → Int) (SO : Nat → Int) (EO : Nat → Int) (RO : Nat → Int) (DA : Nat → Bool) (TW : Nat → Int) (NU : Nat → Int) (PG : Nat → Int) (HG : Nat → Int) (P : Nat → Nat) (m8 : Bool) (SZ : Nat → Int) (RM : Nat → Int) (BT : Nat → Int) (LT : Nat → Int) (RT : Nat → Int) (RR : Nat → Bool) (n : Int) (hO : RunsOK P m8 FI_ CH_ SO EO RO DA TW) (hN : NuI P m8 256 NU PG HG pc hc lc) (hM : MeI P m8 SZ RM BT LT RT RR 256) (rn : -2147483648 ≤ n ∧ n ≤ 2147483647) : gI l yX1_partsUpTo wsX1_partsUpTo ({ frames := 1, cells := 0, slots := 0, locals := 21 } : Room) D kI kB [.ref o, .int (zI n)] [(o, .inr (1, [.ref h, .ref a0, .ref a1, .ref a2, .ref a3, .ref a4, .ref a5, .ref a6, .ref a7, .ref a8, .ref a9, .int (zI (pc : Int)), .int (zI (hc : Int)), .int (zI (lc : Int))])), (h, .inr (4, [.ref b0, .ref b1, .ref b2, .ref b3, .ref b4, .ref b5, .ref b6, .int (zI (cn : Int))])), (b0, .inl (kI, 17, .inl (aZ FI_))), (b1, .inl (kI, 16, .inl (aZ CH_))), (b2, .inl (kI, 256, .inl (aZ SO))), (b3, .inl (kI, 256, .inl (aZ EO))), (b4, .inl (kI, 256, .inl (aZ RO))), (b5, .inl (kB, 256, .inl (aB DA))), (b6, .inl (kI, 256, .inl (aZ TW))), (a6, .inl (kI, 256, .inl (aZ NU))), (a7, .inl (kI, 256, .inl (aZ PG))), (a8, .inl (kI, 256, .inl (aZ HG))), (a0, .inl (kI, 256, .inl (aZ SZ))), (a1, .inl (kI, 256, .inl (aZ RM))), (a2, .inl (kI, 256, .inl (aZ BT))), (a3, .inl (kI, 256, .inl (aZ LT))), (a4, .inl (kI, 256, .inl (aZ RT))), (a5, .inl (kB, 256, .inl (aB RR)))] (zI ((smN P m8 n pc : Nat) : Int)) := by
  refine g_start (cc := cX1_partsUpTo) (maxL := 4) (ret := (some .int)) (by decide) rfl (Nat.le_of_ble_eq_true rfl) ?_
  intro xp xe xs xm xbl xmt xc xX xB xR xM xT xO xL xN wP wD wK ls wl
  have wS : va_S (fun _ => False) xs.heap xs.heap [] := va_S.rf
  have wl : lv_has ls 4 [(0, .ref o), (1, .int (zI n))] := wl
  generalize hQ : MQ xbl _ _ xs 0 0 _ = xQ
  have hpc : pc ≤ 128 := by rw [hN.2.2.2.1]; exact cD_128
  refine z_iconst xX xB dX1_partsUpTo_0 ?_
  refine lv_istore_n (lv' := [(2, .int (zI 0)), (0, .ref o), (1, .int (zI n))]) xX xB dX1_partsUpTo_1 rfl wl (by decide) rfl (fun ls wl => ?_)
  refine z_iconst xX xB dX1_partsUpTo_2 ?_
  refine lv_istore_n (lv' := [(3, .int (zI 0)), (2, .int (zI 0)), (0, .ref o), (1, .int (zI n))]) xX xB dX1_partsUpTo_3 rfl wl (by decide) rfl (fun ls wl => ?_)
  have K : ∀ n_ : Nat, ∀ (i : Nat) (t : Nat), pc - i < n_ → (i ≤ pc) → (t = smN P m8 n i) → ∀ (H : Heap) (locs : List Loc) (ls : Array Slot), va_P D gC [(o, .inr (1, [.ref h, .ref a0, .ref a1, .ref a2, .ref a3, .ref a4, .ref a5, .ref a6, .ref a7, .ref a8, .ref a9, .int (zI (pc : Int)), .int (zI (hc : Int)), .int (zI (lc : Int))])), (h, .inr (4, [.ref b0, .ref b1, .ref b2, .ref b3, .ref b4, .ref b5, .ref b6, .int (zI (cn : Int))])), (b0, .inl (kI, 17, .inl (aZ FI_))), (b1, .inl (kI, 16, .inl (aZ CH_))), (b2, .inl (kI, 256, .inl (aZ SO))), (b3, .inl (kI, 256, .inl (aZ EO))), (b4, .inl (kI, 256, .inl (aZ RO))), (b5, .inl (kB, 256, .inl (aB DA))), (b6, .inl (kI, 256, .inl (aZ TW))), (a6, .inl (kI, 256, .inl (aZ NU))), (a7, .inl (kI, 256, .inl (aZ PG))), (a8, .inl (kI, 256, .inl (aZ HG))), (a0, .inl (kI, 256, .inl (aZ SZ))), (a1, .inl (kI, 256, .inl (aZ RM))), (a2, .inl (kI, 256, .inl (aZ BT))), (a3, .inl (kI, 256, .inl (aZ LT))), (a4, .inl (kI, 256, .inl (aZ RT))), (a5, .inl (kB, 256, .inl (aB RR)))] H → va_S (fun _ => False) xs.heap H locs → lv_has ls 4 [(0, .ref o), (1, .int (zI n)), (2, .int (zI (t : Int))), (3, .int (zI (i : Int)))] → W xp l xe ({ frames := 1, cells := 0, slots := 0, locals := 21 } : Room) xs xm (List.toArray [.ref o, .int (zI n)]) xbl xmt xc H locs 0 0 xQ (F0 xm 4 ls []) := by
    intro n_
    induction n_ with
    | zero =>
      intro i t hme
      exact absurd hme (Nat.not_lt_zero _)
    | succ n_ ihK =>
      intro i t hme hi ht H locs ls wP wS wl
      have htb : t ≤ i := by rw [ht]; exact fb_ct_le _ _
      refine lv_iload_n xX xB dX1_partsUpTo_4 rfl (lv_at wl 3 rfl) ?_
      refine lv_aload_n xX xB dX1_partsUpTo_5 rfl (lv_at wl 0 rfl) ?_
      refine va_get (D := D) (ci := 1) (v := .int (zI (pc : Int))) (C := RX1) (T := TX1) (N := 14) xX xB xT in_X1_partsUpTo_X1 xO wK.1 wP 0 rfl rfl 11 (by decide) (xT _ (List.mem_of_getElem? (i := 1) rfl)) (fun _ h9 => h9) rfl dX1_partsUpTo_6 ?_
      refine z_icmp_ge (tgt := 39) xX xB dX1_partsUpTo_9 (by decide) (by omega) (by omega) (fun h9 => ?_) (fun h9 => ?_)
      · skip
        refine lv_iload_n xX xB dX1_partsUpTo_39 rfl (lv_at wl 2 rfl) ?_
        subst hQ
        exact g_iret xX xB xR xL wS dX1_partsUpTo_40 (congrArg (fun z : Nat => zI (z : Int)) (by rw [ht, show i = pc by omega]))
      · skip
        refine lv_iload_n xX xB dX1_partsUpTo_12 rfl (lv_at wl 2 rfl) ?_
        refine lv_aload_n xX xB dX1_partsUpTo_13 rfl (lv_at wl 0 rfl) ?_
        refine lv_aload_n xX xB dX1_partsUpTo_14 rfl (lv_at wl 0 rfl) ?_
        refine lv_iload_n xX xB dX1_partsUpTo_15 rfl (lv_at wl 3 rfl) ?_
        refine g_pure (va_runV (As := [.int (zI (i : Int))]) (rest := [.ref o, .int (zI (t : Int))]) ⟨xX, xB, xM, xO, xT⟩ (c_X1_groupOfPart l D kI kB o h a0 a1 a2 a3 a4 a5 a6 a7 a8 a9 pc hc lc PG i (by omega)) (cwV 1 xT gX1_partsUpTo_X1_groupOfPart rfl rfl rfl hd_X1_groupOfPart ⟨Nat.le_of_ble_eq_true rfl, Nat.le_of_ble_eq_true rfl⟩) (g_preV (ci := 1) (q0 := 0) wP wD wK [0, 10] (by decide) rfl rfl rfl) rfl rfl wl.1 rfl (lv_room (Nat.le_of_ble_eq_true rfl)) dX1_partsUpTo_16 ⟨Nat.le_of_ble_eq_true rfl, Nat.le_of_ble_eq_true rfl⟩) wP wS (fun H locs wP wS => ?_)
        have hS := selD_spec (P := P) (m8 := m8) (k := i) (by rw [← hN.2.2.2.1]; omega)
        have hg := rix_256 (P := P) hS.1
        refine lv_ri (y := zI ((rix P (selD P m8 i) : Nat) : Int)) (congrArg zI (hN.pg (by omega))) ?_
        refine g_pure (va_runV (As := [.int (zI ((rix P (selD P m8 i) : Nat) : Int))]) (rest := [.int (zI (t : Int))]) ⟨xX, xB, xM, xO, xT⟩ (c_X1_sizeOf l D kI kB o h a0 a1 a2 a3 a4 a5 a6 a7 a8 a9 pc hc lc SZ (rix P (selD P m8 i)) (by omega)) (cwV 1 xT gX1_partsUpTo_X1_sizeOf rfl rfl rfl hd_X1_sizeOf ⟨Nat.le_of_ble_eq_true rfl, Nat.le_of_ble_eq_true rfl⟩) (g_preV (ci := 1) (q0 := 0) wP wD wK [0, 12] (by decide) rfl rfl rfl) rfl rfl wl.1 rfl (lv_room (Nat.le_of_ble_eq_true rfl)) dX1_partsUpTo_19 ⟨Nat.le_of_ble_eq_true rfl, Nat.le_of_ble_eq_true rfl⟩) wP wS (fun H locs wP wS => ?_)
        refine lv_ri (y := zI ((szR P m8 (selD P m8 i) : Nat) : Int)) (congrArg zI (hM.sz hS.1 hS.2.1.1)) ?_
        refine lv_iload_n xX xB dX1_partsUpTo_22 rfl (lv_at wl 1 rfl) ?_
        refine t_icmp_gt xX xB dX1_partsUpTo_23 dX1_partsUpTo_26 dX1_partsUpTo_27 dX1_partsUpTo_30 (by have := szR_le (P := P) (m8 := m8) (selD P m8 i); omega) (by omega) ?_
        refine lv_ri (bI_Z _) ?_
        refine z_iadd xX xB dX1_partsUpTo_31 ?_
        refine lv_istore_n (lv' := [(2, .int (zI ((t : Int) + ((bZ (decide (¬ n < ((szR P m8 (selD P m8 i) : Nat) : Int))) : Nat) : Int)))), (0, .ref o), (1, .int (zI n)), (3, .int (zI (i : Int)))]) xX xB dX1_partsUpTo_32 rfl wl (by decide) rfl (fun ls wl => ?_)
        refine lv_iinc (v := zI ((i : Int) + 1)) (lv' := [(3, .int (zI ((i : Int) + 1))), (2, .int (zI ((t : Int) + ((bZ (decide (¬ n < ((szR P m8 (selD P m8 i) : Nat) : Int))) : Nat) : Int)))), (0, .ref o), (1, .int (zI n))]) xX xB dX1_partsUpTo_33 wl (k := 3) rfl (zI_add _ _) (by decide) rfl (fun ls wl => ?_)
        refine lv_goto (tgt := 4) xX xB dX1_partsUpTo_36 (by decide) ?_
        exact ihK (i + 1) (t + (bZ (decide (¬ n < ((szR P m8 (selD P m8 i) : Nat) : Int))))) (by omega) (by omega) (by rw [ht]; show _ = fb_ct _ i + (if decide ((szR P m8 (selD P m8 i) : Int) ≤ n) = true then 1 else 0); rw [show decide (¬ n < ((szR P m8 (selD P m8 i) : Nat) : Int)) = decide (((szR P m8 (selD P m8 i) : Nat) : Int) ≤ n) from decide_eq_decide.mpr (by omega)]; rfl) _ _ _ wP wS (lv_sub wl [2, 3, 1, 0] rfl)
  exact K _ 0 0 (Nat.lt_succ_self _) (by omega) rfl _ _ _ wP wS (lv_sub wl [2, 3, 1, 0] rfl)
