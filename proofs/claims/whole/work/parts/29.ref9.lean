set_option maxRecDepth 20000 in
theorem in_X6_move_X6 : ∀ w ∈ u_ws RX6 TX6 17, w ∈ wsX6_move := by decide +kernel
set_option maxRecDepth 20000 in
theorem in_X6_over_X6 : ∀ w ∈ u_ws RX6 TX6 17, w ∈ wsX6_over := by decide +kernel
set_option maxRecDepth 20000 in
theorem in_X6_mode_X6 : ∀ w ∈ u_ws RX6 TX6 17, w ∈ wsX6_mode := by decide +kernel
set_option maxRecDepth 20000 in
theorem in_X6_draw_X6 : ∀ w ∈ u_ws RX6 TX6 17, w ∈ wsX6_draw := by decide +kernel
set_option maxHeartbeats 4000000 in
set_option maxRecDepth 100000 in
theorem c_X6_move_o (l : Launch) (D : va_G) (kI kB : ClassId) (h : Nat) (a0 : Nat) (a1 : Nat) (a3 : Nat) (a4 : Nat) (a8 : Nat) (a9 : Nat) (a10 : Nat) (a13 : Nat) (a14 : Nat) (a15 : Nat) (a16 : Nat) (sd : Int) (dM : Int) (lM : Int) (hM : Int) (um : Nat) (ua : Nat) (dn : Int) (rt : Int) (rd : -2147483648 ≤ dn ∧ dn ≤ 2147483647) (rr : -2147483648 ≤ rt ∧ rt ≤ 2147483647) (hb : ¬ ((-15 ≤ dn ∧ dn ≤ 15) ∧ (-15 ≤ rt ∧ rt ≤ 15))) : gI l yX6_move wsX6_move ({ frames := 1, cells := 0, slots := 0, locals := 22 } : Room) D kI kB [.ref h, .int (zI dn), .int (zI rt)] [(h, .inr (6, [.ref a0, .ref a1, .int (zI sd), .ref a3, .ref a4, .int (zI dM), .int (zI lM), .int (zI hM), .ref a8, .ref a9, .ref a10, .int (zI (um : Int)), .int (zI (ua : Int)), .ref a13, .ref a14, .ref a15, .ref a16]))] (zI (-1000000002)) := by
  refine g_start (cc := cX6_move) (maxL := 5) (ret := (some .int)) (by decide) rfl (Nat.le_of_ble_eq_true rfl) ?_
  intro xp xe xs xm xbl xmt xc xX xB xR xM xT xO xL xN wP wD wK ls wl
  have wS : va_S (fun _ => False) xs.heap xs.heap [] := va_S.rf
  have wl : lv_has ls 5 [(0, .ref h), (1, .int (zI dn)), (2, .int (zI rt))] := wl
  refine lv_iload_n xX xB dX6_move_0 rfl (lv_at wl 1 rfl) ?_
  refine z_bipush xX xB dX6_move_1 (by decide) ?_
  refine z_bipush xX xB dX6_move_3 (by decide) ?_
  refine g_pure (va_runS (As := [.int (zI dn), .int (zI (-15)), .int (zI 15)]) (rest := []) ⟨xX, xB, xM, xO, xT⟩ (c_X6_in l D kI kB dn (-15) 15 (by omega) (by omega) (by omega)) (va_cwS 3 xT gX6_move_X6_in rfl rfl rfl hdn_X6_in ⟨Nat.le_of_ble_eq_true rfl, Nat.le_of_ble_eq_true rfl⟩) (g_preS wP wD wK [] (by decide) rfl) rfl rfl wl.1 rfl (lv_room (Nat.le_of_ble_eq_true rfl)) dX6_move_5 ⟨Nat.le_of_ble_eq_true rfl, Nat.le_of_ble_eq_true rfl⟩) wP wS (fun H locs wP wS => ?_)
  refine b_if_eq (tgt := 22) xX xB dX6_move_8 (by decide) (fun h8 => ?_) (fun h8 => ?_)
  · skip
    refine z_ldc xX xB (-1000000002) (by decide) xO (xT _ (List.mem_of_getElem? (i := 1) rfl)) dX6_move_22 ?_
    exact g_iret xX xB xR xL wS dX6_move_24 rfl
  · skip
    refine lv_iload_n xX xB dX6_move_11 rfl (lv_at wl 2 rfl) ?_
    refine z_bipush xX xB dX6_move_12 (by decide) ?_
    refine z_bipush xX xB dX6_move_14 (by decide) ?_
    refine g_pure (va_runS (As := [.int (zI rt), .int (zI (-15)), .int (zI 15)]) (rest := []) ⟨xX, xB, xM, xO, xT⟩ (c_X6_in l D kI kB rt (-15) 15 (by omega) (by omega) (by omega)) (va_cwS 3 xT gX6_move_X6_in rfl rfl rfl hdn_X6_in ⟨Nat.le_of_ble_eq_true rfl, Nat.le_of_ble_eq_true rfl⟩) (g_preS wP wD wK [] (by decide) rfl) rfl rfl wl.1 rfl (lv_room (Nat.le_of_ble_eq_true rfl)) dX6_move_16 ⟨Nat.le_of_ble_eq_true rfl, Nat.le_of_ble_eq_true rfl⟩) wP wS (fun H locs wP wS => ?_)
    refine b_if_ne (tgt := 25) xX xB dX6_move_19 (by decide) (fun h19 => ?_) (fun h19 => ?_)
    · exact absurd h19 (fun z => hb ⟨of_decide_eq_true h8, of_decide_eq_true z⟩)
    · skip
      refine z_ldc xX xB (-1000000002) (by decide) xO (xT _ (List.mem_of_getElem? (i := 1) rfl)) dX6_move_22 ?_
      exact g_iret xX xB xR xL wS dX6_move_24 rfl

set_option maxHeartbeats 4000000 in
set_option maxRecDepth 100000 in
theorem c_X6_move (l : Launch) (D : va_G) (kI kB : ClassId) (h : Nat) (a0 : Nat) (a1 : Nat) (a3 : Nat) (a4 : Nat) (a8 : Nat) (a9 : Nat) (a10 : Nat) (a13 : Nat) (a14 : Nat) (a15 : Nat) (a16 : Nat) (sd : Int) (dM : Int) (lM : Int) (hM : Int) (um : Nat) (ua : Nat) (F : Nat → Int) (G : Nat → Int) (P : Nat → Nat) (U : Nat → Int) (dn : Int) (rt : Int) (hF : Pic F P) (hua : ua < 30) (hum : um ≤ 30) (hd : -15 ≤ dn ∧ dn ≤ 15) (hr2 : -15 ≤ rt ∧ rt ≤ 15) : gM l yX6_move wsX6_move ({ frames := 2, cells := 0, slots := 0, locals := 45 } : Room) D kI kB [.ref h, .int (zI dn), .int (zI rt)] [(h, .inr (6, [.ref a0, .ref a1, .int (zI sd), .ref a3, .ref a4, .int (zI dM), .int (zI lM), .int (zI hM), .ref a8, .ref a9, .ref a10, .int (zI (um : Int)), .int (zI (ua : Int)), .ref a13, .ref a14, .ref a15, .ref a16])), (a0, .inl (kI, 17, .inl (aZ F))), (a1, .inl (kI, 17, .inl (aZ G))), (a13, .inl (kI, 510, .inl (aZ U)))] (fun (w_ : (Nat → Int) × (Nat → Int) × (Nat → Int)) => [(h, .inr (6, [.ref a0, .ref a1, .int (zI sd), .ref a3, .ref a4, .int (zI dM), .int (zI lM), .int (zI hM), .ref a8, .ref a9, .ref a10, .int (zI ((if um < 30 then um + 1 else um : Nat) : Int)), .int (zI (((ua + 1) % 30 : Nat) : Int)), .ref a13, .ref a14, .ref a15, .ref a16])), (a0, .inl (kI, 17, .inl (aZ (w_.1)))), (a1, .inl (kI, 17, .inl (aZ (w_.2.1)))), (a13, .inl (kI, 510, .inl (aZ (w_.2.2))))]) (fun (r : Int32) (w_ : (Nat → Int) × (Nat → Int) × (Nat → Int)) => r = zI ((dots (mvN P dn rt) : Nat) : Int) ∧ Pic (w_.1) (mvN P dn rt) ∧ (w_.1) 16 = F 16 ∧ ∀ k, k < 510 → (w_.2.2) k = pushN U F ua 17 k) := by
  refine g_start (cc := cX6_move) (maxL := 5) (ret := (some .int)) (by decide) rfl (Nat.le_of_ble_eq_true rfl) ?_
  intro xp xe xs xm xbl xmt xc xX xB xR xM xT xO xL xN wP wD wK ls wl
  have wS : va_S (gA [(h, .inr (6, [.ref a0, .ref a1, .int (zI sd), .ref a3, .ref a4, .int (zI dM), .int (zI lM), .int (zI hM), .ref a8, .ref a9, .ref a10, .int (zI (um : Int)), .int (zI (ua : Int)), .ref a13, .ref a14, .ref a15, .ref a16])), (a0, .inl (kI, 17, .inl (aZ F))), (a1, .inl (kI, 17, .inl (aZ G))), (a13, .inl (kI, 510, .inl (aZ U)))]) xs.heap xs.heap [] := va_S.rf
  have wl : lv_has ls 5 [(0, .ref h), (1, .int (zI dn)), (2, .int (zI rt))] := wl
  generalize hQ : MQ xbl _ _ xs 0 0 _ = xQ
  refine lv_iload_n xX xB dX6_move_0 rfl (lv_at wl 1 rfl) ?_
  refine z_bipush xX xB dX6_move_1 (by decide) ?_
  refine z_bipush xX xB dX6_move_3 (by decide) ?_
  refine g_pure (va_runS (As := [.int (zI dn), .int (zI (-15)), .int (zI 15)]) (rest := []) ⟨xX, xB, xM, xO, xT⟩ (c_X6_in l D kI kB dn (-15) 15 (by omega) (by omega) (by omega)) (va_cwS 3 xT gX6_move_X6_in rfl rfl rfl hdn_X6_in ⟨Nat.le_of_ble_eq_true rfl, Nat.le_of_ble_eq_true rfl⟩) (g_preS wP wD wK [] (by decide) rfl) rfl rfl wl.1 rfl (lv_room (Nat.le_of_ble_eq_true rfl)) dX6_move_5 ⟨Nat.le_of_ble_eq_true rfl, Nat.le_of_ble_eq_true rfl⟩) wP wS (fun H locs wP wS => ?_)
  refine b_if_eq (tgt := 22) xX xB dX6_move_8 (by decide) (fun h8 => ?_) (fun h8 => ?_)
  · exact absurd h8 (by rw [decide_eq_true hd]; decide)
  · skip
    refine lv_iload_n xX xB dX6_move_11 rfl (lv_at wl 2 rfl) ?_
    refine z_bipush xX xB dX6_move_12 (by decide) ?_
    refine z_bipush xX xB dX6_move_14 (by decide) ?_
    refine g_pure (va_runS (As := [.int (zI rt), .int (zI (-15)), .int (zI 15)]) (rest := []) ⟨xX, xB, xM, xO, xT⟩ (c_X6_in l D kI kB rt (-15) 15 (by omega) (by omega) (by omega)) (va_cwS 3 xT gX6_move_X6_in rfl rfl rfl hdn_X6_in ⟨Nat.le_of_ble_eq_true rfl, Nat.le_of_ble_eq_true rfl⟩) (g_preS wP wD wK [] (by decide) rfl) rfl rfl wl.1 rfl (lv_room (Nat.le_of_ble_eq_true rfl)) dX6_move_16 ⟨Nat.le_of_ble_eq_true rfl, Nat.le_of_ble_eq_true rfl⟩) wP wS (fun H locs wP wS => ?_)
    refine b_if_ne (tgt := 25) xX xB dX6_move_19 (by decide) (fun h19 => ?_) (fun h19 => ?_)
    · skip
      refine lv_aload_n xX xB dX6_move_25 rfl (lv_at wl 0 rfl) ?_
      refine g_modv (va_runV (As := []) (rest := []) ⟨xX, xB, xM, xO, xT⟩ (c_X6_remember l D kI kB h a0 a1 a3 a4 a8 a9 a10 a13 a14 a15 a16 sd dM lM hM um ua F U hua hum) (cwV 0 xT gX6_move_X6_remember rfl rfl rfl hd_X6_remember ⟨Nat.le_of_ble_eq_true rfl, Nat.le_of_ble_eq_true rfl⟩) (g_preV (ci := 6) (q0 := 0) wP wD wK [0, 1, 3] (by decide) rfl rfl rfl) rfl rfl wl.1 rfl (lv_room (Nat.le_of_ble_eq_true rfl)) dX6_move_26 ⟨Nat.le_of_ble_eq_true rfl, Nat.le_of_ble_eq_true rfl⟩) wP wD wS [0, 1, 3] rfl (fun _ => rfl) (fun U1_1 H locs hc26 wP wD wS => ?_)
      try dsimp only at hc26
      have wP : va_P D gC [(h, .inr (6, [.ref a0, .ref a1, .int (zI sd), .ref a3, .ref a4, .int (zI dM), .int (zI lM), .int (zI hM), .ref a8, .ref a9, .ref a10, .int (zI ((if um < 30 then um + 1 else um : Nat) : Int)), .int (zI (((ua + 1) % 30 : Nat) : Int)), .ref a13, .ref a14, .ref a15, .ref a16])), (a0, .inl (kI, 17, .inl (aZ F))), (a1, .inl (kI, 17, .inl (aZ G))), (a13, .inl (kI, 510, .inl (aZ U1_1)))] H := wP
      have wD : va_D (gA [(h, .inr (6, [.ref a0, .ref a1, .int (zI sd), .ref a3, .ref a4, .int (zI dM), .int (zI lM), .int (zI hM), .ref a8, .ref a9, .ref a10, .int (zI (um : Int)), .int (zI (ua : Int)), .ref a13, .ref a14, .ref a15, .ref a16])), (a0, .inl (kI, 17, .inl (aZ F))), (a1, .inl (kI, 17, .inl (aZ G))), (a13, .inl (kI, 510, .inl (aZ U)))]) [(h, .inr (6, [.ref a0, .ref a1, .int (zI sd), .ref a3, .ref a4, .int (zI dM), .int (zI lM), .int (zI hM), .ref a8, .ref a9, .ref a10, .int (zI ((if um < 30 then um + 1 else um : Nat) : Int)), .int (zI (((ua + 1) % 30 : Nat) : Int)), .ref a13, .ref a14, .ref a15, .ref a16])), (a0, .inl (kI, 17, .inl (aZ F))), (a1, .inl (kI, 17, .inl (aZ G))), (a13, .inl (kI, 510, .inl (aZ U1_1)))] := wD
      refine lv_aload_n xX xB dX6_move_29 rfl (lv_at wl 0 rfl) ?_
      refine va_get (D := D) (ci := 6) (v := .ref a0) (C := RX6) (T := TX6) (N := 17) xX xB xT in_X6_move_X6 xO wK.1 wP 0 rfl rfl 0 (by decide) (xT _ (List.mem_of_getElem? (i := 2) rfl)) (fun _ h9 => h9) rfl dX6_move_30 ?_
      refine lv_aload_n xX xB dX6_move_33 rfl (lv_at wl 0 rfl) ?_
      refine va_get (D := D) (ci := 6) (v := .ref a1) (C := RX6) (T := TX6) (N := 17) xX xB xT in_X6_move_X6 xO wK.1 wP 0 rfl rfl 1 (by decide) (xT _ (List.mem_of_getElem? (i := 3) rfl)) (fun _ h9 => h9) rfl dX6_move_34 ?_
      refine g_modv (va_runS (As := [.ref a0, .ref a1]) (rest := []) ⟨xX, xB, xM, xO, xT⟩ (c_X6_copies l D kI kB a0 a1 F G) (va_cwS 2 xT gX6_move_X6_copies rfl rfl rfl hdn_X6_copies ⟨Nat.le_of_ble_eq_true rfl, Nat.le_of_ble_eq_true rfl⟩) (g_preS wP wD wK [1, 2] (by decide) rfl) rfl rfl wl.1 rfl (lv_room (Nat.le_of_ble_eq_true rfl)) dX6_move_37 ⟨Nat.le_of_ble_eq_true rfl, Nat.le_of_ble_eq_true rfl⟩) wP wD wS [1, 2] rfl (fun _ => rfl) (fun G1_2 H locs hc37 wP wD wS => ?_)
      try dsimp only at hc37
      have wP : va_P D gC [(h, .inr (6, [.ref a0, .ref a1, .int (zI sd), .ref a3, .ref a4, .int (zI dM), .int (zI lM), .int (zI hM), .ref a8, .ref a9, .ref a10, .int (zI ((if um < 30 then um + 1 else um : Nat) : Int)), .int (zI (((ua + 1) % 30 : Nat) : Int)), .ref a13, .ref a14, .ref a15, .ref a16])), (a0, .inl (kI, 17, .inl (aZ F))), (a1, .inl (kI, 17, .inl (aZ G1_2))), (a13, .inl (kI, 510, .inl (aZ U1_1)))] H := wP
      have wD : va_D (gA [(h, .inr (6, [.ref a0, .ref a1, .int (zI sd), .ref a3, .ref a4, .int (zI dM), .int (zI lM), .int (zI hM), .ref a8, .ref a9, .ref a10, .int (zI (um : Int)), .int (zI (ua : Int)), .ref a13, .ref a14, .ref a15, .ref a16])), (a0, .inl (kI, 17, .inl (aZ F))), (a1, .inl (kI, 17, .inl (aZ G))), (a13, .inl (kI, 510, .inl (aZ U)))]) [(h, .inr (6, [.ref a0, .ref a1, .int (zI sd), .ref a3, .ref a4, .int (zI dM), .int (zI lM), .int (zI hM), .ref a8, .ref a9, .ref a10, .int (zI ((if um < 30 then um + 1 else um : Nat) : Int)), .int (zI (((ua + 1) % 30 : Nat) : Int)), .ref a13, .ref a14, .ref a15, .ref a16])), (a0, .inl (kI, 17, .inl (aZ F))), (a1, .inl (kI, 17, .inl (aZ G1_2))), (a13, .inl (kI, 510, .inl (aZ U1_1)))] := wD
      refine z_iconst xX xB dX6_move_40 ?_
      refine lv_istore_n (lv' := [(3, .int (zI 0)), (0, .ref h), (1, .int (zI dn)), (2, .int (zI rt))]) xX xB dX6_move_41 rfl wl (by decide) rfl (fun ls wl => ?_)
      have K : ∀ n_ : Nat, ∀ (i : Nat) (F1 : Nat → Int), 16 - i < n_ → (i ≤ 16) → (∀ k, k < i → F1 k = (mvN P dn rt k : Int)) → (∀ k, i ≤ k → F1 k = F k) → ∀ (H : Heap) (locs : List Loc) (ls : Array Slot), va_P D gC [(h, .inr (6, [.ref a0, .ref a1, .int (zI sd), .ref a3, .ref a4, .int (zI dM), .int (zI lM), .int (zI hM), .ref a8, .ref a9, .ref a10, .int (zI ((if um < 30 then um + 1 else um : Nat) : Int)), .int (zI (((ua + 1) % 30 : Nat) : Int)), .ref a13, .ref a14, .ref a15, .ref a16])), (a0, .inl (kI, 17, .inl (aZ F1))), (a1, .inl (kI, 17, .inl (aZ G1_2))), (a13, .inl (kI, 510, .inl (aZ U1_1)))] H → va_D (gA [(h, .inr (6, [.ref a0, .ref a1, .int (zI sd), .ref a3, .ref a4, .int (zI dM), .int (zI lM), .int (zI hM), .ref a8, .ref a9, .ref a10, .int (zI (um : Int)), .int (zI (ua : Int)), .ref a13, .ref a14, .ref a15, .ref a16])), (a0, .inl (kI, 17, .inl (aZ F))), (a1, .inl (kI, 17, .inl (aZ G))), (a13, .inl (kI, 510, .inl (aZ U)))]) [(h, .inr (6, [.ref a0, .ref a1, .int (zI sd), .ref a3, .ref a4, .int (zI dM), .int (zI lM), .int (zI hM), .ref a8, .ref a9, .ref a10, .int (zI ((if um < 30 then um + 1 else um : Nat) : Int)), .int (zI (((ua + 1) % 30 : Nat) : Int)), .ref a13, .ref a14, .ref a15, .ref a16])), (a0, .inl (kI, 17, .inl (aZ F1))), (a1, .inl (kI, 17, .inl (aZ G1_2))), (a13, .inl (kI, 510, .inl (aZ U1_1)))] → va_S (gA [(h, .inr (6, [.ref a0, .ref a1, .int (zI sd), .ref a3, .ref a4, .int (zI dM), .int (zI lM), .int (zI hM), .ref a8, .ref a9, .ref a10, .int (zI (um : Int)), .int (zI (ua : Int)), .ref a13, .ref a14, .ref a15, .ref a16])), (a0, .inl (kI, 17, .inl (aZ F))), (a1, .inl (kI, 17, .inl (aZ G))), (a13, .inl (kI, 510, .inl (aZ U)))]) xs.heap H locs → lv_has ls 5 [(0, .ref h), (1, .int (zI dn)), (2, .int (zI rt)), (3, .int (zI (i : Int)))] → W xp l xe ({ frames := 2, cells := 0, slots := 0, locals := 45 } : Room) xs xm (List.toArray [.ref h, .int (zI dn), .int (zI rt)]) xbl xmt xc H locs 0 0 xQ (F0 xm 42 ls []) := by
        intro n_
        induction n_ with
        | zero =>
          intro i F1 hme
          exact absurd hme (Nat.not_lt_zero _)
        | succ n_ ihK =>
          intro i F1 hme hi hA hB2 H locs ls wP wD wS wl
          refine lv_iload_n xX xB dX6_move_42 rfl (lv_at wl 3 rfl) ?_
          refine z_bipush xX xB dX6_move_43 (by decide) ?_
          refine z_icmp_ge (tgt := 105) xX xB dX6_move_45 (by decide) (by omega) (by omega) (fun h45 => ?_) (fun h45 => ?_)
          · skip
            have hPic : Pic F1 (mvN P dn rt) := fun k hk => ⟨hA k (by omega), mvN_le hF _ _ k⟩
            have hF16 : F1 16 = F 16 := hB2 16 (by omega)
            refine lv_aload_n xX xB dX6_move_105 rfl (lv_at wl 0 rfl) ?_
            refine lv_aload_n xX xB dX6_move_106 rfl (lv_at wl 0 rfl) ?_
            refine va_get (D := D) (ci := 6) (v := .ref a0) (C := RX6) (T := TX6) (N := 17) xX xB xT in_X6_move_X6 xO wK.1 wP 0 rfl rfl 0 (by decide) (xT _ (List.mem_of_getElem? (i := 2) rfl)) (fun _ h9 => h9) rfl dX6_move_107 ?_
            refine g_pure (va_runV (As := [.ref a0]) (rest := []) ⟨xX, xB, xM, xO, xT⟩ (c_X6_darkOf l D kI kB h a0 a1 a3 a4 a8 a9 a10 a13 a14 a15 a16 sd dM lM hM ((if um < 30 then um + 1 else um : Nat) : Int) (((ua + 1) % 30 : Nat) : Int) a0 F1 (mvN P dn rt) hPic) (cwV 1 xT gX6_move_X6_darkOf rfl rfl rfl hd_X6_darkOf ⟨Nat.le_of_ble_eq_true rfl, Nat.le_of_ble_eq_true rfl⟩) (g_preV (ci := 6) (q0 := 0) wP wD wK [0, 1] (by decide) rfl rfl rfl) rfl rfl wl.1 rfl (lv_room (Nat.le_of_ble_eq_true rfl)) dX6_move_110 ⟨Nat.le_of_ble_eq_true rfl, Nat.le_of_ble_eq_true rfl⟩) wP wS (fun H locs wP wS => ?_)
            subst hQ
            exact g_mret (F1, G1_2, U1_1) xX xB xR xL wP wS dX6_move_113 ⟨rfl, hPic, hF16, hc26⟩
          · skip
            have J13 : ∀ (st : Nat), (st = lnN P ((i : Int) - dn)) → ∀ (H : Heap) (locs : List Loc) (ls : Array Slot), va_P D gC [(h, .inr (6, [.ref a0, .ref a1, .int (zI sd), .ref a3, .ref a4, .int (zI dM), .int (zI lM), .int (zI hM), .ref a8, .ref a9, .ref a10, .int (zI ((if um < 30 then um + 1 else um : Nat) : Int)), .int (zI (((ua + 1) % 30 : Nat) : Int)), .ref a13, .ref a14, .ref a15, .ref a16])), (a0, .inl (kI, 17, .inl (aZ F1))), (a1, .inl (kI, 17, .inl (aZ G1_2))), (a13, .inl (kI, 510, .inl (aZ U1_1)))] H → va_D (gA [(h, .inr (6, [.ref a0, .ref a1, .int (zI sd), .ref a3, .ref a4, .int (zI dM), .int (zI lM), .int (zI hM), .ref a8, .ref a9, .ref a10, .int (zI (um : Int)), .int (zI (ua : Int)), .ref a13, .ref a14, .ref a15, .ref a16])), (a0, .inl (kI, 17, .inl (aZ F))), (a1, .inl (kI, 17, .inl (aZ G))), (a13, .inl (kI, 510, .inl (aZ U)))]) [(h, .inr (6, [.ref a0, .ref a1, .int (zI sd), .ref a3, .ref a4, .int (zI dM), .int (zI lM), .int (zI hM), .ref a8, .ref a9, .ref a10, .int (zI ((if um < 30 then um + 1 else um : Nat) : Int)), .int (zI (((ua + 1) % 30 : Nat) : Int)), .ref a13, .ref a14, .ref a15, .ref a16])), (a0, .inl (kI, 17, .inl (aZ F1))), (a1, .inl (kI, 17, .inl (aZ G1_2))), (a13, .inl (kI, 510, .inl (aZ U1_1)))] → va_S (gA [(h, .inr (6, [.ref a0, .ref a1, .int (zI sd), .ref a3, .ref a4, .int (zI dM), .int (zI lM), .int (zI hM), .ref a8, .ref a9, .ref a10, .int (zI (um : Int)), .int (zI (ua : Int)), .ref a13, .ref a14, .ref a15, .ref a16])), (a0, .inl (kI, 17, .inl (aZ F))), (a1, .inl (kI, 17, .inl (aZ G))), (a13, .inl (kI, 510, .inl (aZ U)))]) xs.heap H locs → lv_has ls 5 [(0, .ref h), (1, .int (zI dn)), (2, .int (zI rt)), (3, .int (zI (i : Int)))] → W xp l xe ({ frames := 2, cells := 0, slots := 0, locals := 45 } : Room) xs xm (List.toArray [.ref h, .int (zI dn), .int (zI rt)]) xbl xmt xc H locs 0 0 xQ (F0 xm 72 ls [.int (zI (st : Int))]) := by
              intro st hst H locs ls wP wD wS wl
              have hsb : st < 65536 := by rw [hst]; exact hF.lnlt _
              refine lv_istore (lv' := [(4, .int (zI (st : Int))), (0, .ref h), (1, .int (zI dn)), (2, .int (zI rt)), (3, .int (zI (i : Int)))]) xX xB dX6_move_72 wl (by decide) rfl (fun ls wl => ?_)
              refine lv_aload_n xX xB dX6_move_74 rfl (lv_at wl 1 rfl) ?_
              refine va_get (D := D) (ci := 6) (v := .ref a0) (C := RX6) (T := TX6) (N := 17) xX xB xT in_X6_move_X6 xO wK.1 wP 0 rfl rfl 0 (by decide) (xT _ (List.mem_of_getElem? (i := 2) rfl)) (fun _ h9 => h9) rfl dX6_move_75 ?_
              refine lv_iload_n xX xB dX6_move_78 rfl (lv_at wl 4 rfl) ?_
              have J24 : ∀ (sq : Nat), (sq = sld st rt) → ∀ (H : Heap) (locs : List Loc) (ls : Array Slot), va_P D gC [(h, .inr (6, [.ref a0, .ref a1, .int (zI sd), .ref a3, .ref a4, .int (zI dM), .int (zI lM), .int (zI hM), .ref a8, .ref a9, .ref a10, .int (zI ((if um < 30 then um + 1 else um : Nat) : Int)), .int (zI (((ua + 1) % 30 : Nat) : Int)), .ref a13, .ref a14, .ref a15, .ref a16])), (a0, .inl (kI, 17, .inl (aZ F1))), (a1, .inl (kI, 17, .inl (aZ G1_2))), (a13, .inl (kI, 510, .inl (aZ U1_1)))] H → va_D (gA [(h, .inr (6, [.ref a0, .ref a1, .int (zI sd), .ref a3, .ref a4, .int (zI dM), .int (zI lM), .int (zI hM), .ref a8, .ref a9, .ref a10, .int (zI (um : Int)), .int (zI (ua : Int)), .ref a13, .ref a14, .ref a15, .ref a16])), (a0, .inl (kI, 17, .inl (aZ F))), (a1, .inl (kI, 17, .inl (aZ G))), (a13, .inl (kI, 510, .inl (aZ U)))]) [(h, .inr (6, [.ref a0, .ref a1, .int (zI sd), .ref a3, .ref a4, .int (zI dM), .int (zI lM), .int (zI hM), .ref a8, .ref a9, .ref a10, .int (zI ((if um < 30 then um + 1 else um : Nat) : Int)), .int (zI (((ua + 1) % 30 : Nat) : Int)), .ref a13, .ref a14, .ref a15, .ref a16])), (a0, .inl (kI, 17, .inl (aZ F1))), (a1, .inl (kI, 17, .inl (aZ G1_2))), (a13, .inl (kI, 510, .inl (aZ U1_1)))] → va_S (gA [(h, .inr (6, [.ref a0, .ref a1, .int (zI sd), .ref a3, .ref a4, .int (zI dM), .int (zI lM), .int (zI hM), .ref a8, .ref a9, .ref a10, .int (zI (um : Int)), .int (zI (ua : Int)), .ref a13, .ref a14, .ref a15, .ref a16])), (a0, .inl (kI, 17, .inl (aZ F))), (a1, .inl (kI, 17, .inl (aZ G))), (a13, .inl (kI, 510, .inl (aZ U)))]) xs.heap H locs → lv_has ls 5 [(4, .int (zI (st : Int))), (0, .ref h), (1, .int (zI dn)), (2, .int (zI rt)), (3, .int (zI (i : Int)))] → W xp l xe ({ frames := 2, cells := 0, slots := 0, locals := 45 } : Room) xs xm (List.toArray [.ref h, .int (zI dn), .int (zI rt)]) xbl xmt xc H locs 0 0 xQ (F0 xm 98 ls [.int (zI (sq : Int)), .int (zI (i : Int)), .ref a0]) := by
                intro sq hsq H locs ls wP wD wS wl
                refine z_iast xX xB wK wP wD wS 1 rfl i rfl (by omega) (Nat.le_of_ble_eq_true rfl) dX6_move_98 (fun H locs wP wD wS => ?_)
                have wP : va_P D gC [(h, .inr (6, [.ref a0, .ref a1, .int (zI sd), .ref a3, .ref a4, .int (zI dM), .int (zI lM), .int (zI hM), .ref a8, .ref a9, .ref a10, .int (zI ((if um < 30 then um + 1 else um : Nat) : Int)), .int (zI (((ua + 1) % 30 : Nat) : Int)), .ref a13, .ref a14, .ref a15, .ref a16])), (a0, .inl (kI, 17, .inl (aZ (uZ F1 i (sq : Int))))), (a1, .inl (kI, 17, .inl (aZ G1_2))), (a13, .inl (kI, 510, .inl (aZ U1_1)))] H := wP
                have wD : va_D (gA [(h, .inr (6, [.ref a0, .ref a1, .int (zI sd), .ref a3, .ref a4, .int (zI dM), .int (zI lM), .int (zI hM), .ref a8, .ref a9, .ref a10, .int (zI (um : Int)), .int (zI (ua : Int)), .ref a13, .ref a14, .ref a15, .ref a16])), (a0, .inl (kI, 17, .inl (aZ F))), (a1, .inl (kI, 17, .inl (aZ G))), (a13, .inl (kI, 510, .inl (aZ U)))]) [(h, .inr (6, [.ref a0, .ref a1, .int (zI sd), .ref a3, .ref a4, .int (zI dM), .int (zI lM), .int (zI hM), .ref a8, .ref a9, .ref a10, .int (zI ((if um < 30 then um + 1 else um : Nat) : Int)), .int (zI (((ua + 1) % 30 : Nat) : Int)), .ref a13, .ref a14, .ref a15, .ref a16])), (a0, .inl (kI, 17, .inl (aZ (uZ F1 i (sq : Int))))), (a1, .inl (kI, 17, .inl (aZ G1_2))), (a13, .inl (kI, 510, .inl (aZ U1_1)))] := wD
                refine lv_iinc (v := zI ((i : Int) + 1)) (lv' := [(3, .int (zI ((i : Int) + 1))), (4, .int (zI (st : Int))), (0, .ref h), (1, .int (zI dn)), (2, .int (zI rt))]) xX xB dX6_move_99 wl (k := 4) rfl (zI_add _ _) (by decide) rfl (fun ls wl => ?_)
                refine lv_goto (tgt := 42) xX xB dX6_move_102 (by decide) ?_
                exact ihK (i + 1) (uZ F1 i (sq : Int)) (by omega) (by omega) (ext_fill hA (by rw [hsq, hst]; rfl)) (fun k hk => by rw [uZ_n _ _ (by omega)]; exact hB2 k (by omega)) _ _ _ wP wD wS (lv_sub wl [2, 3, 4, 0] rfl)
              refine lv_iload_n xX xB dX6_move_79 rfl (lv_at wl 3 rfl) ?_
              refine z_if_ge (tgt := 91) xX xB dX6_move_80 (by decide) (by omega) (fun h80 => ?_) (fun h80 => ?_)
              · skip
                refine lv_iload xX xB dX6_move_91 (lv_at wl 0 rfl) ?_
                refine lv_iload_n xX xB dX6_move_93 rfl (lv_at wl 3 rfl) ?_
                refine lv_ishl xX xB dX6_move_94 ?_
                refine lv_ri (y := zI ((st <<< rt.toNat : Nat) : Int)) (zb_shlZ hsb (by omega)) ?_
                refine z_ldc xX xB (65535) (by decide) xO (xT _ (List.mem_of_getElem? (i := 4) rfl)) dX6_move_95 ?_
                refine lv_iand xX xB dX6_move_97 ?_
                refine lv_ri (y := zI (((st <<< rt.toNat) &&& 65535 : Nat) : Int)) (zb_and _ _) ?_
                exact J24 ((st <<< rt.toNat) &&& 65535) (by unfold sld; first | rw [if_pos (by omega)] | rw [if_neg (by omega)]) _ _ _ wP wD wS (lv_sub wl [0, 1, 2, 3, 4] rfl)
              · skip
                refine lv_iload xX xB dX6_move_83 (lv_at wl 0 rfl) ?_
                refine lv_iload_n xX xB dX6_move_85 rfl (lv_at wl 3 rfl) ?_
                refine z_ineg xX xB dX6_move_86 ?_
                refine lv_ishr xX xB dX6_move_87 ?_
                refine lv_ri (y := zI ((st >>> (-rt).toNat : Nat) : Int)) (zb_shrZ hsb (by omega)) ?_
                refine lv_goto (tgt := 98) xX xB dX6_move_88 (by decide) ?_
                exact J24 (st >>> (-rt).toNat) (by unfold sld; first | rw [if_pos (by omega)] | rw [if_neg (by omega)]) _ _ _ wP wD wS (lv_sub wl [0, 1, 2, 3, 4] rfl)
            refine lv_iload_n xX xB dX6_move_48 rfl (lv_at wl 3 rfl) ?_
            refine lv_iload_n xX xB dX6_move_49 rfl (lv_at wl 1 rfl) ?_
            refine z_isub xX xB dX6_move_50 ?_
            refine z_iconst xX xB dX6_move_51 ?_
            refine z_bipush xX xB dX6_move_52 (by decide) ?_
            refine g_pure (va_runS (As := [.int (zI ((i : Int) - dn)), .int (zI 0), .int (zI 15)]) (rest := []) ⟨xX, xB, xM, xO, xT⟩ (c_X6_in l D kI kB ((i : Int) - dn) 0 15 (by omega) (by omega) (by omega)) (va_cwS 3 xT gX6_move_X6_in rfl rfl rfl hdn_X6_in ⟨Nat.le_of_ble_eq_true rfl, Nat.le_of_ble_eq_true rfl⟩) (g_preS wP wD wK [] (by decide) rfl) rfl rfl wl.1 rfl (lv_room (Nat.le_of_ble_eq_true rfl)) dX6_move_54 ⟨Nat.le_of_ble_eq_true rfl, Nat.le_of_ble_eq_true rfl⟩) wP wS (fun H locs wP wS => ?_)
            refine b_if_eq (tgt := 71) xX xB dX6_move_57 (by decide) (fun h57 => ?_) (fun h57 => ?_)
            · skip
              refine z_iconst xX xB dX6_move_71 ?_
              exact J13 0 (by unfold lnN; rw [if_neg (fun z => of_decide_eq_false h57 (by omega))]) _ _ _ wP wD wS (lv_sub wl [0, 1, 2, 3] rfl)
            · skip
              refine lv_aload_n xX xB dX6_move_60 rfl (lv_at wl 0 rfl) ?_
              refine va_get (D := D) (ci := 6) (v := .ref a1) (C := RX6) (T := TX6) (N := 17) xX xB xT in_X6_move_X6 xO wK.1 wP 0 rfl rfl 1 (by decide) (xT _ (List.mem_of_getElem? (i := 3) rfl)) (fun _ h9 => h9) rfl dX6_move_61 ?_
              refine lv_iload_n xX xB dX6_move_64 rfl (lv_at wl 3 rfl) ?_
              refine lv_iload_n xX xB dX6_move_65 rfl (lv_at wl 1 rfl) ?_
              refine z_isub xX xB dX6_move_66 ?_
              refine z_iald xX xB wK wP 2 rfl (((i : Int) - dn).toNat) (by have := of_decide_eq_true h57; omega) (by have := of_decide_eq_true h57; omega) (Nat.le_of_ble_eq_true rfl) dX6_move_67 ?_
              have hon := of_decide_eq_true h57
              refine lv_ri (y := zI ((lnN P ((i : Int) - dn) : Nat) : Int)) (congrArg zI (by rw [← hF.ln, lnZ_in F (by omega)]; exact hc37 _ (by omega))) ?_
              refine lv_goto (tgt := 72) xX xB dX6_move_68 (by decide) ?_
              exact J13 (lnN P ((i : Int) - dn)) rfl _ _ _ wP wD wS (lv_sub wl [0, 1, 2, 3] rfl)
      exact K _ 0 F (Nat.lt_succ_self _) (by omega) (fun k hk => absurd hk (Nat.not_lt_zero k)) (fun _ _ => rfl) _ _ _ wP wD wS (lv_sub wl [1, 2, 3, 0] rfl)
    · exact absurd h19 (by rw [decide_eq_true hr2]; decide)

set_option maxHeartbeats 4000000 in
set_option maxRecDepth 100000 in
theorem c_X6_over (l : Launch) (D : va_G) (kI kB : ClassId) (h : Nat) (a0 : Nat) (a1 : Nat) (a3 : Nat) (a4 : Nat) (a8 : Nat) (a9 : Nat) (a10 : Nat) (a13 : Nat) (a14 : Nat) (a15 : Nat) (a16 : Nat) (sd : Int) (dM : Int) (lM : Int) (hM : Int) (um : Nat) (ua : Nat) (F : Nat → Int) (P : Nat → Nat) (U : Nat → Int) (hF : Pic F P) (hua : ua < 30) (hum : um ≤ 30) : gM l yX6_over wsX6_over ({ frames := 2, cells := 0, slots := 0, locals := 45 } : Room) D kI kB [.ref h] [(h, .inr (6, [.ref a0, .ref a1, .int (zI sd), .ref a3, .ref a4, .int (zI dM), .int (zI lM), .int (zI hM), .ref a8, .ref a9, .ref a10, .int (zI (um : Int)), .int (zI (ua : Int)), .ref a13, .ref a14, .ref a15, .ref a16])), (a0, .inl (kI, 17, .inl (aZ F))), (a13, .inl (kI, 510, .inl (aZ U)))] (fun (w_ : (Nat → Int) × (Nat → Int)) => [(h, .inr (6, [.ref a0, .ref a1, .int (zI sd), .ref a3, .ref a4, .int (zI dM), .int (zI lM), .int (zI hM), .ref a8, .ref a9, .ref a10, .int (zI ((if um < 30 then um + 1 else um : Nat) : Int)), .int (zI (((ua + 1) % 30 : Nat) : Int)), .ref a13, .ref a14, .ref a15, .ref a16])), (a0, .inl (kI, 17, .inl (aZ (w_.1)))), (a13, .inl (kI, 510, .inl (aZ (w_.2))))]) (fun (r : Int32) (w_ : (Nat → Int) × (Nat → Int)) => r = zI ((dots (ovN P) : Nat) : Int) ∧ Pic (w_.1) (ovN P) ∧ (w_.1) 16 = F 16 ∧ ∀ k, k < 510 → (w_.2) k = pushN U F ua 17 k) := by
  refine g_start (cc := cX6_over) (maxL := 2) (ret := (some .int)) (by decide) rfl (Nat.le_of_ble_eq_true rfl) ?_
  intro xp xe xs xm xbl xmt xc xX xB xR xM xT xO xL xN wP wD wK ls wl
  have wS : va_S (gA [(h, .inr (6, [.ref a0, .ref a1, .int (zI sd), .ref a3, .ref a4, .int (zI dM), .int (zI lM), .int (zI hM), .ref a8, .ref a9, .ref a10, .int (zI (um : Int)), .int (zI (ua : Int)), .ref a13, .ref a14, .ref a15, .ref a16])), (a0, .inl (kI, 17, .inl (aZ F))), (a13, .inl (kI, 510, .inl (aZ U)))]) xs.heap xs.heap [] := va_S.rf
  have wl : lv_has ls 2 [(0, .ref h)] := wl
  generalize hQ : MQ xbl _ _ xs 0 0 _ = xQ
  refine lv_aload_n xX xB dX6_over_0 rfl (lv_at wl 0 rfl) ?_
  refine g_modv (va_runV (As := []) (rest := []) ⟨xX, xB, xM, xO, xT⟩ (c_X6_remember l D kI kB h a0 a1 a3 a4 a8 a9 a10 a13 a14 a15 a16 sd dM lM hM um ua F U hua hum) (cwV 0 xT gX6_over_X6_remember rfl rfl rfl hd_X6_remember ⟨Nat.le_of_ble_eq_true rfl, Nat.le_of_ble_eq_true rfl⟩) (g_preV (ci := 6) (q0 := 0) wP wD wK [0, 1, 2] (by decide) rfl rfl rfl) rfl rfl wl.1 rfl (lv_room (Nat.le_of_ble_eq_true rfl)) dX6_over_1 ⟨Nat.le_of_ble_eq_true rfl, Nat.le_of_ble_eq_true rfl⟩) wP wD wS [0, 1, 2] rfl (fun _ => rfl) (fun U1_1 H locs hc1 wP wD wS => ?_)
  try dsimp only at hc1
  have wP : va_P D gC [(h, .inr (6, [.ref a0, .ref a1, .int (zI sd), .ref a3, .ref a4, .int (zI dM), .int (zI lM), .int (zI hM), .ref a8, .ref a9, .ref a10, .int (zI ((if um < 30 then um + 1 else um : Nat) : Int)), .int (zI (((ua + 1) % 30 : Nat) : Int)), .ref a13, .ref a14, .ref a15, .ref a16])), (a0, .inl (kI, 17, .inl (aZ F))), (a13, .inl (kI, 510, .inl (aZ U1_1)))] H := wP
  have wD : va_D (gA [(h, .inr (6, [.ref a0, .ref a1, .int (zI sd), .ref a3, .ref a4, .int (zI dM), .int (zI lM), .int (zI hM), .ref a8, .ref a9, .ref a10, .int (zI (um : Int)), .int (zI (ua : Int)), .ref a13, .ref a14, .ref a15, .ref a16])), (a0, .inl (kI, 17, .inl (aZ F))), (a13, .inl (kI, 510, .inl (aZ U)))]) [(h, .inr (6, [.ref a0, .ref a1, .int (zI sd), .ref a3, .ref a4, .int (zI dM), .int (zI lM), .int (zI hM), .ref a8, .ref a9, .ref a10, .int (zI ((if um < 30 then um + 1 else um : Nat) : Int)), .int (zI (((ua + 1) % 30 : Nat) : Int)), .ref a13, .ref a14, .ref a15, .ref a16])), (a0, .inl (kI, 17, .inl (aZ F))), (a13, .inl (kI, 510, .inl (aZ U1_1)))] := wD
  refine z_iconst xX xB dX6_over_4 ?_
  refine lv_istore_n (lv' := [(1, .int (zI 0)), (0, .ref h)]) xX xB dX6_over_5 rfl wl (by decide) rfl (fun ls wl => ?_)
  have K : ∀ n_ : Nat, ∀ (i : Nat) (F1 : Nat → Int), 16 - i < n_ → (i ≤ 16) → (∀ k, k < i → F1 k = (ovN P k : Int)) → (∀ k, i ≤ k → F1 k = F k) → ∀ (H : Heap) (locs : List Loc) (ls : Array Slot), va_P D gC [(h, .inr (6, [.ref a0, .ref a1, .int (zI sd), .ref a3, .ref a4, .int (zI dM), .int (zI lM), .int (zI hM), .ref a8, .ref a9, .ref a10, .int (zI ((if um < 30 then um + 1 else um : Nat) : Int)), .int (zI (((ua + 1) % 30 : Nat) : Int)), .ref a13, .ref a14, .ref a15, .ref a16])), (a0, .inl (kI, 17, .inl (aZ F1))), (a13, .inl (kI, 510, .inl (aZ U1_1)))] H → va_D (gA [(h, .inr (6, [.ref a0, .ref a1, .int (zI sd), .ref a3, .ref a4, .int (zI dM), .int (zI lM), .int (zI hM), .ref a8, .ref a9, .ref a10, .int (zI (um : Int)), .int (zI (ua : Int)), .ref a13, .ref a14, .ref a15, .ref a16])), (a0, .inl (kI, 17, .inl (aZ F))), (a13, .inl (kI, 510, .inl (aZ U)))]) [(h, .inr (6, [.ref a0, .ref a1, .int (zI sd), .ref a3, .ref a4, .int (zI dM), .int (zI lM), .int (zI hM), .ref a8, .ref a9, .ref a10, .int (zI ((if um < 30 then um + 1 else um : Nat) : Int)), .int (zI (((ua + 1) % 30 : Nat) : Int)), .ref a13, .ref a14, .ref a15, .ref a16])), (a0, .inl (kI, 17, .inl (aZ F1))), (a13, .inl (kI, 510, .inl (aZ U1_1)))] → va_S (gA [(h, .inr (6, [.ref a0, .ref a1, .int (zI sd), .ref a3, .ref a4, .int (zI dM), .int (zI lM), .int (zI hM), .ref a8, .ref a9, .ref a10, .int (zI (um : Int)), .int (zI (ua : Int)), .ref a13, .ref a14, .ref a15, .ref a16])), (a0, .inl (kI, 17, .inl (aZ F))), (a13, .inl (kI, 510, .inl (aZ U)))]) xs.heap H locs → lv_has ls 2 [(0, .ref h), (1, .int (zI (i : Int)))] → W xp l xe ({ frames := 2, cells := 0, slots := 0, locals := 45 } : Room) xs xm (List.toArray [.ref h]) xbl xmt xc H locs 0 0 xQ (F0 xm 6 ls []) := by
    intro n_
    induction n_ with
    | zero =>
      intro i F1 hme
      exact absurd hme (Nat.not_lt_zero _)
    | succ n_ ihK =>
      intro i F1 hme hi hA hB2 H locs ls wP wD wS wl
      refine lv_iload_n xX xB dX6_over_6 rfl (lv_at wl 1 rfl) ?_
      refine z_bipush xX xB dX6_over_7 (by decide) ?_
      refine z_icmp_ge (tgt := 33) xX xB dX6_over_9 (by decide) (by omega) (by omega) (fun h9 => ?_) (fun h9 => ?_)
      · skip
        have hPic : Pic F1 (ovN P) := fun k hk => ⟨hA k (by omega), ovN_le P k⟩
        have hF16 : F1 16 = F 16 := hB2 16 (by omega)
        refine lv_aload_n xX xB dX6_over_33 rfl (lv_at wl 0 rfl) ?_
        refine lv_aload_n xX xB dX6_over_34 rfl (lv_at wl 0 rfl) ?_
        refine va_get (D := D) (ci := 6) (v := .ref a0) (C := RX6) (T := TX6) (N := 17) xX xB xT in_X6_over_X6 xO wK.1 wP 0 rfl rfl 0 (by decide) (xT _ (List.mem_of_getElem? (i := 1) rfl)) (fun _ h9 => h9) rfl dX6_over_35 ?_
        refine g_pure (va_runV (As := [.ref a0]) (rest := []) ⟨xX, xB, xM, xO, xT⟩ (c_X6_darkOf l D kI kB h a0 a1 a3 a4 a8 a9 a10 a13 a14 a15 a16 sd dM lM hM ((if um < 30 then um + 1 else um : Nat) : Int) (((ua + 1) % 30 : Nat) : Int) a0 F1 (ovN P) hPic) (cwV 1 xT gX6_over_X6_darkOf rfl rfl rfl hd_X6_darkOf ⟨Nat.le_of_ble_eq_true rfl, Nat.le_of_ble_eq_true rfl⟩) (g_preV (ci := 6) (q0 := 0) wP wD wK [0, 1] (by decide) rfl rfl rfl) rfl rfl wl.1 rfl (lv_room (Nat.le_of_ble_eq_true rfl)) dX6_over_38 ⟨Nat.le_of_ble_eq_true rfl, Nat.le_of_ble_eq_true rfl⟩) wP wS (fun H locs wP wS => ?_)
        subst hQ
        exact g_mret (F1, U1_1) xX xB xR xL wP wS dX6_over_41 ⟨rfl, hPic, hF16, hc1⟩
      · skip
        refine lv_aload_n xX xB dX6_over_12 rfl (lv_at wl 0 rfl) ?_
        refine va_get (D := D) (ci := 6) (v := .ref a0) (C := RX6) (T := TX6) (N := 17) xX xB xT in_X6_over_X6 xO wK.1 wP 0 rfl rfl 0 (by decide) (xT _ (List.mem_of_getElem? (i := 1) rfl)) (fun _ h9 => h9) rfl dX6_over_13 ?_
        refine lv_iload_n xX xB dX6_over_16 rfl (lv_at wl 1 rfl) ?_
        refine z_ldc xX xB (65535) (by decide) xO (xT _ (List.mem_of_getElem? (i := 2) rfl)) dX6_over_17 ?_
        refine lv_aload_n xX xB dX6_over_19 rfl (lv_at wl 0 rfl) ?_
        refine va_get (D := D) (ci := 6) (v := .ref a0) (C := RX6) (T := TX6) (N := 17) xX xB xT in_X6_over_X6 xO wK.1 wP 0 rfl rfl 0 (by decide) (xT _ (List.mem_of_getElem? (i := 1) rfl)) (fun _ h9 => h9) rfl dX6_over_20 ?_
        refine lv_iload_n xX xB dX6_over_23 rfl (lv_at wl 1 rfl) ?_
        refine z_iald xX xB wK wP 1 rfl i rfl (by omega) (Nat.le_of_ble_eq_true rfl) dX6_over_24 ?_
        refine z_isub xX xB dX6_over_25 ?_
        refine lv_ri (y := zI ((ovN P i : Nat) : Int)) (congrArg zI (by rw [hB2 i (Nat.le_refl i), (hF i (by omega)).1]; unfold ovN; have := (hF i (by omega)).2; omega)) ?_
        refine z_iast xX xB wK wP wD wS 1 rfl i rfl (by omega) (Nat.le_of_ble_eq_true rfl) dX6_over_26 (fun H locs wP wD wS => ?_)
        have wP : va_P D gC [(h, .inr (6, [.ref a0, .ref a1, .int (zI sd), .ref a3, .ref a4, .int (zI dM), .int (zI lM), .int (zI hM), .ref a8, .ref a9, .ref a10, .int (zI ((if um < 30 then um + 1 else um : Nat) : Int)), .int (zI (((ua + 1) % 30 : Nat) : Int)), .ref a13, .ref a14, .ref a15, .ref a16])), (a0, .inl (kI, 17, .inl (aZ (uZ F1 i ((ovN P i : Nat) : Int))))), (a13, .inl (kI, 510, .inl (aZ U1_1)))] H := wP
        have wD : va_D (gA [(h, .inr (6, [.ref a0, .ref a1, .int (zI sd), .ref a3, .ref a4, .int (zI dM), .int (zI lM), .int (zI hM), .ref a8, .ref a9, .ref a10, .int (zI (um : Int)), .int (zI (ua : Int)), .ref a13, .ref a14, .ref a15, .ref a16])), (a0, .inl (kI, 17, .inl (aZ F))), (a13, .inl (kI, 510, .inl (aZ U)))]) [(h, .inr (6, [.ref a0, .ref a1, .int (zI sd), .ref a3, .ref a4, .int (zI dM), .int (zI lM), .int (zI hM), .ref a8, .ref a9, .ref a10, .int (zI ((if um < 30 then um + 1 else um : Nat) : Int)), .int (zI (((ua + 1) % 30 : Nat) : Int)), .ref a13, .ref a14, .ref a15, .ref a16])), (a0, .inl (kI, 17, .inl (aZ (uZ F1 i ((ovN P i : Nat) : Int))))), (a13, .inl (kI, 510, .inl (aZ U1_1)))] := wD
        refine lv_iinc (v := zI ((i : Int) + 1)) (lv' := [(1, .int (zI ((i : Int) + 1))), (0, .ref h)]) xX xB dX6_over_27 wl (k := 1) rfl (zI_add _ _) (by decide) rfl (fun ls wl => ?_)
        refine lv_goto (tgt := 6) xX xB dX6_over_30 (by decide) ?_
        exact ihK (i + 1) (uZ F1 i ((ovN P i : Nat) : Int)) (by omega) (by omega) (ext_fill hA rfl) (fun k hk => by rw [uZ_n _ _ (by omega)]; exact hB2 k (by omega)) _ _ _ wP wD wS (lv_sub wl [1, 0] rfl)
  exact K _ 0 F (Nat.lt_succ_self _) (by omega) (fun k hk => absurd hk (Nat.not_lt_zero k)) (fun _ _ => rfl) _ _ _ wP wD wS (lv_sub wl [1, 0] rfl)

set_option maxHeartbeats 4000000 in
set_option maxRecDepth 100000 in
theorem c_X6_mode_o (l : Launch) (D : va_G) (kI kB : ClassId) (h : Nat) (a0 : Nat) (a1 : Nat) (a3 : Nat) (a4 : Nat) (a8 : Nat) (a9 : Nat) (a10 : Nat) (a13 : Nat) (a14 : Nat) (a15 : Nat) (a16 : Nat) (sd : Int) (dM : Int) (lM : Int) (hM : Int) (um : Nat) (ua : Nat) (mo : Int) (rr : -2147483648 ≤ mo ∧ mo ≤ 2147483647) (hb : ¬ mo = 4 ∧ ¬ mo = 8) : gI l yX6_mode wsX6_mode ({ frames := 0, cells := 0, slots := 0, locals := 0 } : Room) D kI kB [.ref h, .int (zI mo)] [(h, .inr (6, [.ref a0, .ref a1, .int (zI sd), .ref a3, .ref a4, .int (zI dM), .int (zI lM), .int (zI hM), .ref a8, .ref a9, .ref a10, .int (zI (um : Int)), .int (zI (ua : Int)), .ref a13, .ref a14, .ref a15, .ref a16]))] (zI (-1000000002)) := by
  refine g_start (cc := cX6_mode) (maxL := 2) (ret := (some .int)) (by decide) rfl (Nat.le_of_ble_eq_true rfl) ?_
  intro xp xe xs xm xbl xmt xc xX xB xR xM xT xO xL xN wP wD wK ls wl
  have wS : va_S (fun _ => False) xs.heap xs.heap [] := va_S.rf
  have wl : lv_has ls 2 [(0, .ref h), (1, .int (zI mo))] := wl
  refine lv_iload_n xX xB dX6_mode_0 rfl (lv_at wl 1 rfl) ?_
  refine z_iconst xX xB dX6_mode_1 ?_
  refine z_icmp_eq (tgt := 14) xX xB dX6_mode_2 (by decide) (by omega) (by omega) (fun h2 => ?_) (fun h2 => ?_)
  · exact absurd h2 (hb.1)
  · skip
    refine lv_iload_n xX xB dX6_mode_5 rfl (lv_at wl 1 rfl) ?_
    refine z_bipush xX xB dX6_mode_6 (by decide) ?_
    refine z_icmp_eq (tgt := 14) xX xB dX6_mode_8 (by decide) (by omega) (by omega) (fun h8 => ?_) (fun h8 => ?_)
    · exact absurd h8 (hb.2)
    · skip
      refine z_ldc xX xB (-1000000002) (by decide) xO (xT _ (List.mem_of_getElem? (i := 1) rfl)) dX6_mode_11 ?_
      exact g_iret xX xB xR xL wS dX6_mode_13 rfl

set_option maxHeartbeats 4000000 in
set_option maxRecDepth 100000 in
theorem c_X6_mode_n (l : Launch) (D : va_G) (kI kB : ClassId) (h : Nat) (a0 : Nat) (a1 : Nat) (a3 : Nat) (a4 : Nat) (a8 : Nat) (a9 : Nat) (a10 : Nat) (a13 : Nat) (a14 : Nat) (a15 : Nat) (a16 : Nat) (sd : Int) (dM : Int) (lM : Int) (hM : Int) (um : Nat) (ua : Nat) (F : Nat → Int) (mo : Int) (hk : mo = 4 ∨ mo = 8) (hb : F 16 = mo) : gI l yX6_mode wsX6_mode ({ frames := 0, cells := 0, slots := 0, locals := 0 } : Room) D kI kB [.ref h, .int (zI mo)] [(h, .inr (6, [.ref a0, .ref a1, .int (zI sd), .ref a3, .ref a4, .int (zI dM), .int (zI lM), .int (zI hM), .ref a8, .ref a9, .ref a10, .int (zI (um : Int)), .int (zI (ua : Int)), .ref a13, .ref a14, .ref a15, .ref a16])), (a0, .inl (kI, 17, .inl (aZ F)))] (zI (-1000000003)) := by
  refine g_start (cc := cX6_mode) (maxL := 2) (ret := (some .int)) (by decide) rfl (Nat.le_of_ble_eq_true rfl) ?_
  intro xp xe xs xm xbl xmt xc xX xB xR xM xT xO xL xN wP wD wK ls wl
  have wS : va_S (fun _ => False) xs.heap xs.heap [] := va_S.rf
  have wl : lv_has ls 2 [(0, .ref h), (1, .int (zI mo))] := wl
  refine lv_iload_n xX xB dX6_mode_0 rfl (lv_at wl 1 rfl) ?_
  refine z_iconst xX xB dX6_mode_1 ?_
  refine z_icmp_eq (tgt := 14) xX xB dX6_mode_2 (by decide) (by omega) (by omega) (fun h2 => ?_) (fun h2 => ?_)
  · skip
    refine lv_aload_n xX xB dX6_mode_14 rfl (lv_at wl 0 rfl) ?_
    refine va_get (D := D) (ci := 6) (v := .ref a0) (C := RX6) (T := TX6) (N := 17) xX xB xT in_X6_mode_X6 xO wK.1 wP 0 rfl rfl 0 (by decide) (xT _ (List.mem_of_getElem? (i := 2) rfl)) (fun _ h9 => h9) rfl dX6_mode_15 ?_
    refine z_bipush xX xB dX6_mode_18 (by decide) ?_
    refine z_iald xX xB wK wP 1 rfl 16 rfl (by decide) (Nat.le_of_ble_eq_true rfl) dX6_mode_20 ?_
    refine lv_iload_n xX xB dX6_mode_21 rfl (lv_at wl 1 rfl) ?_
    refine z_icmp_ne (tgt := 28) xX xB dX6_mode_22 (by decide) (by omega) (by omega) (fun h22 => ?_) (fun h22 => ?_)
    · exact absurd h22 (by omega)
    · skip
      refine z_ldc xX xB (-1000000003) (by decide) xO (xT _ (List.mem_of_getElem? (i := 3) rfl)) dX6_mode_25 ?_
      exact g_iret xX xB xR xL wS dX6_mode_27 rfl
  · skip
    refine lv_iload_n xX xB dX6_mode_5 rfl (lv_at wl 1 rfl) ?_
    refine z_bipush xX xB dX6_mode_6 (by decide) ?_
    refine z_icmp_eq (tgt := 14) xX xB dX6_mode_8 (by decide) (by omega) (by omega) (fun h8 => ?_) (fun h8 => ?_)
    · skip
      refine lv_aload_n xX xB dX6_mode_14 rfl (lv_at wl 0 rfl) ?_
      refine va_get (D := D) (ci := 6) (v := .ref a0) (C := RX6) (T := TX6) (N := 17) xX xB xT in_X6_mode_X6 xO wK.1 wP 0 rfl rfl 0 (by decide) (xT _ (List.mem_of_getElem? (i := 2) rfl)) (fun _ h9 => h9) rfl dX6_mode_15 ?_
      refine z_bipush xX xB dX6_mode_18 (by decide) ?_
      refine z_iald xX xB wK wP 1 rfl 16 rfl (by decide) (Nat.le_of_ble_eq_true rfl) dX6_mode_20 ?_
      refine lv_iload_n xX xB dX6_mode_21 rfl (lv_at wl 1 rfl) ?_
      refine z_icmp_ne (tgt := 28) xX xB dX6_mode_22 (by decide) (by omega) (by omega) (fun h22 => ?_) (fun h22 => ?_)
      · exact absurd h22 (by omega)
      · skip
        refine z_ldc xX xB (-1000000003) (by decide) xO (xT _ (List.mem_of_getElem? (i := 3) rfl)) dX6_mode_25 ?_
        exact g_iret xX xB xR xL wS dX6_mode_27 rfl
    · exact absurd h8 (by omega)

set_option maxHeartbeats 4000000 in
set_option maxRecDepth 100000 in
theorem c_X6_mode (l : Launch) (D : va_G) (kI kB : ClassId) (h : Nat) (a0 : Nat) (a1 : Nat) (a3 : Nat) (a4 : Nat) (a8 : Nat) (a9 : Nat) (a10 : Nat) (a13 : Nat) (a14 : Nat) (a15 : Nat) (a16 : Nat) (sd : Int) (dM : Int) (lM : Int) (hM : Int) (um : Nat) (ua : Nat) (F : Nat → Int) (P : Nat → Nat) (m8 : Bool) (NU : Nat → Int) (QU : Nat → Int) (DF : Nat → Int) (LF : Nat → Int) (HA : Nat → Int) (U : Nat → Int) (mo : Int) (hF : Pic F P) (rm16 : -2147483648 ≤ F 16 ∧ F 16 ≤ 2147483647) (hua : ua < 30) (hum : um ≤ 30) (hk : mo = 4 ∨ mo = 8) (hb : ¬ F 16 = mo) : gM l yX6_mode wsX6_mode ({ frames := 5, cells := 0, slots := 0, locals := 122 } : Room) D kI kB [.ref h, .int (zI mo)] [(h, .inr (6, [.ref a0, .ref a1, .int (zI sd), .ref a3, .ref a4, .int (zI dM), .int (zI lM), .int (zI hM), .ref a8, .ref a9, .ref a10, .int (zI (um : Int)), .int (zI (ua : Int)), .ref a13, .ref a14, .ref a15, .ref a16])), (a0, .inl (kI, 17, .inl (aZ F))), (a3, .inl (kI, 256, .inl (aZ NU))), (a4, .inl (kI, 256, .inl (aZ QU))), (a8, .inl (kI, 128, .inl (aZ DF))), (a9, .inl (kI, 128, .inl (aZ LF))), (a10, .inl (kI, 128, .inl (aZ HA))), (a13, .inl (kI, 510, .inl (aZ U)))] (fun (w_ : Int × Int × Int × (Nat → Int) × (Nat → Int) × (Nat → Int) × (Nat → Int) × (Nat → Int) × (Nat → Int)) => [(h, .inr (6, [.ref a0, .ref a1, .int (zI sd), .ref a3, .ref a4, .int (zI (w_.1)), .int (zI (w_.2.1)), .int (zI (w_.2.2.1)), .ref a8, .ref a9, .ref a10, .int (zI ((if um < 30 then um + 1 else um : Nat) : Int)), .int (zI (((ua + 1) % 30 : Nat) : Int)), .ref a13, .ref a14, .ref a15, .ref a16])), (a0, .inl (kI, 17, .inl (aZ (uZ F 16 mo)))), (a3, .inl (kI, 256, .inl (aZ (w_.2.2.2.1)))), (a4, .inl (kI, 256, .inl (aZ (w_.2.2.2.2.1)))), (a8, .inl (kI, 128, .inl (aZ (w_.2.2.2.2.2.1)))), (a9, .inl (kI, 128, .inl (aZ (w_.2.2.2.2.2.2.1)))), (a10, .inl (kI, 128, .inl (aZ (w_.2.2.2.2.2.2.2.1)))), (a13, .inl (kI, 510, .inl (aZ (w_.2.2.2.2.2.2.2.2))))]) (fun (r : Int32) (w_ : Int × Int × Int × (Nat → Int) × (Nat → Int) × (Nat → Int) × (Nat → Int) × (Nat → Int) × (Nat → Int)) => r = zI ((cD P (decide (mo = 8)) 256 : Nat) : Int) ∧ ∀ k, k < 510 → (w_.2.2.2.2.2.2.2.2) k = pushN U F ua 17 k) := by
  refine g_start (cc := cX6_mode) (maxL := 2) (ret := (some .int)) (by decide) rfl (Nat.le_of_ble_eq_true rfl) ?_
  intro xp xe xs xm xbl xmt xc xX xB xR xM xT xO xL xN wP wD wK ls wl
  have wS : va_S (gA [(h, .inr (6, [.ref a0, .ref a1, .int (zI sd), .ref a3, .ref a4, .int (zI dM), .int (zI lM), .int (zI hM), .ref a8, .ref a9, .ref a10, .int (zI (um : Int)), .int (zI (ua : Int)), .ref a13, .ref a14, .ref a15, .ref a16])), (a0, .inl (kI, 17, .inl (aZ F))), (a3, .inl (kI, 256, .inl (aZ NU))), (a4, .inl (kI, 256, .inl (aZ QU))), (a8, .inl (kI, 128, .inl (aZ DF))), (a9, .inl (kI, 128, .inl (aZ LF))), (a10, .inl (kI, 128, .inl (aZ HA))), (a13, .inl (kI, 510, .inl (aZ U)))]) xs.heap xs.heap [] := va_S.rf
  have wl : lv_has ls 2 [(0, .ref h), (1, .int (zI mo))] := wl
  refine lv_iload_n xX xB dX6_mode_0 rfl (lv_at wl 1 rfl) ?_
  refine z_iconst xX xB dX6_mode_1 ?_
  refine z_icmp_eq (tgt := 14) xX xB dX6_mode_2 (by decide) (by omega) (by omega) (fun h2 => ?_) (fun h2 => ?_)
  · skip
    refine lv_aload_n xX xB dX6_mode_14 rfl (lv_at wl 0 rfl) ?_
    refine va_get (D := D) (ci := 6) (v := .ref a0) (C := RX6) (T := TX6) (N := 17) xX xB xT in_X6_mode_X6 xO wK.1 wP 0 rfl rfl 0 (by decide) (xT _ (List.mem_of_getElem? (i := 2) rfl)) (fun _ h9 => h9) rfl dX6_mode_15 ?_
    refine z_bipush xX xB dX6_mode_18 (by decide) ?_
    refine z_iald xX xB wK wP 1 rfl 16 rfl (by decide) (Nat.le_of_ble_eq_true rfl) dX6_mode_20 ?_
    refine lv_iload_n xX xB dX6_mode_21 rfl (lv_at wl 1 rfl) ?_
    refine z_icmp_ne (tgt := 28) xX xB dX6_mode_22 (by decide) (by omega) (by omega) (fun h22 => ?_) (fun h22 => ?_)
    · skip
      refine lv_aload_n xX xB dX6_mode_28 rfl (lv_at wl 0 rfl) ?_
      refine g_modv (va_runV (As := []) (rest := []) ⟨xX, xB, xM, xO, xT⟩ (c_X6_remember l D kI kB h a0 a1 a3 a4 a8 a9 a10 a13 a14 a15 a16 sd dM lM hM um ua F U hua hum) (cwV 0 xT gX6_mode_X6_remember rfl rfl rfl hd_X6_remember ⟨Nat.le_of_ble_eq_true rfl, Nat.le_of_ble_eq_true rfl⟩) (g_preV (ci := 6) (q0 := 0) wP wD wK [0, 1, 7] (by decide) rfl rfl rfl) rfl rfl wl.1 rfl (lv_room (Nat.le_of_ble_eq_true rfl)) dX6_mode_29 ⟨Nat.le_of_ble_eq_true rfl, Nat.le_of_ble_eq_true rfl⟩) wP wD wS [0, 1, 7] rfl (fun _ => rfl) (fun U1_1 H locs hc29 wP wD wS => ?_)
      try dsimp only at hc29
      have wP : va_P D gC [(h, .inr (6, [.ref a0, .ref a1, .int (zI sd), .ref a3, .ref a4, .int (zI dM), .int (zI lM), .int (zI hM), .ref a8, .ref a9, .ref a10, .int (zI ((if um < 30 then um + 1 else um : Nat) : Int)), .int (zI (((ua + 1) % 30 : Nat) : Int)), .ref a13, .ref a14, .ref a15, .ref a16])), (a0, .inl (kI, 17, .inl (aZ F))), (a3, .inl (kI, 256, .inl (aZ NU))), (a4, .inl (kI, 256, .inl (aZ QU))), (a8, .inl (kI, 128, .inl (aZ DF))), (a9, .inl (kI, 128, .inl (aZ LF))), (a10, .inl (kI, 128, .inl (aZ HA))), (a13, .inl (kI, 510, .inl (aZ U1_1)))] H := wP
      have wD : va_D (gA [(h, .inr (6, [.ref a0, .ref a1, .int (zI sd), .ref a3, .ref a4, .int (zI dM), .int (zI lM), .int (zI hM), .ref a8, .ref a9, .ref a10, .int (zI (um : Int)), .int (zI (ua : Int)), .ref a13, .ref a14, .ref a15, .ref a16])), (a0, .inl (kI, 17, .inl (aZ F))), (a3, .inl (kI, 256, .inl (aZ NU))), (a4, .inl (kI, 256, .inl (aZ QU))), (a8, .inl (kI, 128, .inl (aZ DF))), (a9, .inl (kI, 128, .inl (aZ LF))), (a10, .inl (kI, 128, .inl (aZ HA))), (a13, .inl (kI, 510, .inl (aZ U)))]) [(h, .inr (6, [.ref a0, .ref a1, .int (zI sd), .ref a3, .ref a4, .int (zI dM), .int (zI lM), .int (zI hM), .ref a8, .ref a9, .ref a10, .int (zI ((if um < 30 then um + 1 else um : Nat) : Int)), .int (zI (((ua + 1) % 30 : Nat) : Int)), .ref a13, .ref a14, .ref a15, .ref a16])), (a0, .inl (kI, 17, .inl (aZ F))), (a3, .inl (kI, 256, .inl (aZ NU))), (a4, .inl (kI, 256, .inl (aZ QU))), (a8, .inl (kI, 128, .inl (aZ DF))), (a9, .inl (kI, 128, .inl (aZ LF))), (a10, .inl (kI, 128, .inl (aZ HA))), (a13, .inl (kI, 510, .inl (aZ U1_1)))] := wD
      refine lv_aload_n xX xB dX6_mode_32 rfl (lv_at wl 0 rfl) ?_
      refine va_get (D := D) (ci := 6) (v := .ref a0) (C := RX6) (T := TX6) (N := 17) xX xB xT in_X6_mode_X6 xO wK.1 wP 0 rfl rfl 0 (by decide) (xT _ (List.mem_of_getElem? (i := 2) rfl)) (fun _ h9 => h9) rfl dX6_mode_33 ?_
      refine z_bipush xX xB dX6_mode_36 (by decide) ?_
      refine lv_iload_n xX xB dX6_mode_38 rfl (lv_at wl 1 rfl) ?_
      refine z_iast xX xB wK wP wD wS 1 rfl 16 rfl (by decide) (Nat.le_of_ble_eq_true rfl) dX6_mode_39 (fun H locs wP wD wS => ?_)
      have wP : va_P D gC [(h, .inr (6, [.ref a0, .ref a1, .int (zI sd), .ref a3, .ref a4, .int (zI dM), .int (zI lM), .int (zI hM), .ref a8, .ref a9, .ref a10, .int (zI ((if um < 30 then um + 1 else um : Nat) : Int)), .int (zI (((ua + 1) % 30 : Nat) : Int)), .ref a13, .ref a14, .ref a15, .ref a16])), (a0, .inl (kI, 17, .inl (aZ (uZ F 16 mo)))), (a3, .inl (kI, 256, .inl (aZ NU))), (a4, .inl (kI, 256, .inl (aZ QU))), (a8, .inl (kI, 128, .inl (aZ DF))), (a9, .inl (kI, 128, .inl (aZ LF))), (a10, .inl (kI, 128, .inl (aZ HA))), (a13, .inl (kI, 510, .inl (aZ U1_1)))] H := wP
      have wD : va_D (gA [(h, .inr (6, [.ref a0, .ref a1, .int (zI sd), .ref a3, .ref a4, .int (zI dM), .int (zI lM), .int (zI hM), .ref a8, .ref a9, .ref a10, .int (zI (um : Int)), .int (zI (ua : Int)), .ref a13, .ref a14, .ref a15, .ref a16])), (a0, .inl (kI, 17, .inl (aZ F))), (a3, .inl (kI, 256, .inl (aZ NU))), (a4, .inl (kI, 256, .inl (aZ QU))), (a8, .inl (kI, 128, .inl (aZ DF))), (a9, .inl (kI, 128, .inl (aZ LF))), (a10, .inl (kI, 128, .inl (aZ HA))), (a13, .inl (kI, 510, .inl (aZ U)))]) [(h, .inr (6, [.ref a0, .ref a1, .int (zI sd), .ref a3, .ref a4, .int (zI dM), .int (zI lM), .int (zI hM), .ref a8, .ref a9, .ref a10, .int (zI ((if um < 30 then um + 1 else um : Nat) : Int)), .int (zI (((ua + 1) % 30 : Nat) : Int)), .ref a13, .ref a14, .ref a15, .ref a16])), (a0, .inl (kI, 17, .inl (aZ (uZ F 16 mo)))), (a3, .inl (kI, 256, .inl (aZ NU))), (a4, .inl (kI, 256, .inl (aZ QU))), (a8, .inl (kI, 128, .inl (aZ DF))), (a9, .inl (kI, 128, .inl (aZ LF))), (a10, .inl (kI, 128, .inl (aZ HA))), (a13, .inl (kI, 510, .inl (aZ U1_1)))] := wD
      refine lv_aload_n xX xB dX6_mode_40 rfl (lv_at wl 0 rfl) ?_
      refine lv_aload_n xX xB dX6_mode_41 rfl (lv_at wl 0 rfl) ?_
      refine va_get (D := D) (ci := 6) (v := .ref a0) (C := RX6) (T := TX6) (N := 17) xX xB xT in_X6_mode_X6 xO wK.1 wP 0 rfl rfl 0 (by decide) (xT _ (List.mem_of_getElem? (i := 2) rfl)) (fun _ h9 => h9) rfl dX6_mode_42 ?_
      refine g_modi (va_runV (As := [.ref a0]) (rest := []) ⟨xX, xB, xM, xO, xT⟩ (c_X6_partsOf l D kI kB h a0 a1 a3 a4 a8 a9 a10 a13 a14 a15 a16 sd dM lM hM ((if um < 30 then um + 1 else um : Nat) : Int) (((ua + 1) % 30 : Nat) : Int) a0 (uZ F 16 mo) P (decide (mo = 8)) NU QU DF LF HA (fun k hk => by rw [uZ_n _ _ (by omega)]; exact hF k hk) (by rw [uZ_s]; omega) (by rw [uZ_s])) (cwV 1 xT gX6_mode_X6_partsOf rfl rfl rfl hd_X6_partsOf ⟨Nat.le_of_ble_eq_true rfl, Nat.le_of_ble_eq_true rfl⟩) (g_preV (ci := 6) (q0 := 0) wP wD wK [0, 1, 2, 3, 4, 5, 6] (by decide) rfl rfl rfl) rfl rfl wl.1 rfl (lv_room (Nat.le_of_ble_eq_true rfl)) dX6_mode_45 ⟨Nat.le_of_ble_eq_true rfl, Nat.le_of_ble_eq_true rfl⟩) wP wD wS [0, 1, 2, 3, 4, 5, 6] rfl (fun _ => rfl) (fun r_7 u_ H locs hc45 wP wD wS => ?_)
      obtain ⟨NU1_2, QU1_3, DF1_4, LF1_5, HA1_6⟩ := u_
      try dsimp only at hc45
      have wP : va_P D gC [(h, .inr (6, [.ref a0, .ref a1, .int (zI sd), .ref a3, .ref a4, .int (zI ((cD P (decide (mo = 8)) 256 : Nat) : Int)), .int (zI ((cL P (decide (mo = 8)) 256 : Nat) : Int)), .int (zI ((cH P (decide (mo = 8)) 256 : Nat) : Int)), .ref a8, .ref a9, .ref a10, .int (zI ((if um < 30 then um + 1 else um : Nat) : Int)), .int (zI (((ua + 1) % 30 : Nat) : Int)), .ref a13, .ref a14, .ref a15, .ref a16])), (a0, .inl (kI, 17, .inl (aZ (uZ F 16 mo)))), (a3, .inl (kI, 256, .inl (aZ NU1_2))), (a4, .inl (kI, 256, .inl (aZ QU1_3))), (a8, .inl (kI, 128, .inl (aZ DF1_4))), (a9, .inl (kI, 128, .inl (aZ LF1_5))), (a10, .inl (kI, 128, .inl (aZ HA1_6))), (a13, .inl (kI, 510, .inl (aZ U1_1)))] H := wP
      have wD : va_D (gA [(h, .inr (6, [.ref a0, .ref a1, .int (zI sd), .ref a3, .ref a4, .int (zI dM), .int (zI lM), .int (zI hM), .ref a8, .ref a9, .ref a10, .int (zI (um : Int)), .int (zI (ua : Int)), .ref a13, .ref a14, .ref a15, .ref a16])), (a0, .inl (kI, 17, .inl (aZ F))), (a3, .inl (kI, 256, .inl (aZ NU))), (a4, .inl (kI, 256, .inl (aZ QU))), (a8, .inl (kI, 128, .inl (aZ DF))), (a9, .inl (kI, 128, .inl (aZ LF))), (a10, .inl (kI, 128, .inl (aZ HA))), (a13, .inl (kI, 510, .inl (aZ U)))]) [(h, .inr (6, [.ref a0, .ref a1, .int (zI sd), .ref a3, .ref a4, .int (zI ((cD P (decide (mo = 8)) 256 : Nat) : Int)), .int (zI ((cL P (decide (mo = 8)) 256 : Nat) : Int)), .int (zI ((cH P (decide (mo = 8)) 256 : Nat) : Int)), .ref a8, .ref a9, .ref a10, .int (zI ((if um < 30 then um + 1 else um : Nat) : Int)), .int (zI (((ua + 1) % 30 : Nat) : Int)), .ref a13, .ref a14, .ref a15, .ref a16])), (a0, .inl (kI, 17, .inl (aZ (uZ F 16 mo)))), (a3, .inl (kI, 256, .inl (aZ NU1_2))), (a4, .inl (kI, 256, .inl (aZ QU1_3))), (a8, .inl (kI, 128, .inl (aZ DF1_4))), (a9, .inl (kI, 128, .inl (aZ LF1_5))), (a10, .inl (kI, 128, .inl (aZ HA1_6))), (a13, .inl (kI, 510, .inl (aZ U1_1)))] := wD
      obtain ⟨xR45, hc45⟩ := hc45
      refine lv_ri (y := zI ((cD P (decide (mo = 8)) 256 : Nat) : Int)) xR45 ?_
      exact g_mret (((cD P (decide (mo = 8)) 256 : Nat) : Int), ((cL P (decide (mo = 8)) 256 : Nat) : Int), ((cH P (decide (mo = 8)) 256 : Nat) : Int), NU1_2, QU1_3, DF1_4, LF1_5, HA1_6, U1_1) xX xB xR xL wP wS dX6_mode_48 ⟨rfl, hc29⟩
    · exact absurd h22 (by omega)
  · skip
    refine lv_iload_n xX xB dX6_mode_5 rfl (lv_at wl 1 rfl) ?_
    refine z_bipush xX xB dX6_mode_6 (by decide) ?_
    refine z_icmp_eq (tgt := 14) xX xB dX6_mode_8 (by decide) (by omega) (by omega) (fun h8 => ?_) (fun h8 => ?_)
    · skip
      refine lv_aload_n xX xB dX6_mode_14 rfl (lv_at wl 0 rfl) ?_
      refine va_get (D := D) (ci := 6) (v := .ref a0) (C := RX6) (T := TX6) (N := 17) xX xB xT in_X6_mode_X6 xO wK.1 wP 0 rfl rfl 0 (by decide) (xT _ (List.mem_of_getElem? (i := 2) rfl)) (fun _ h9 => h9) rfl dX6_mode_15 ?_
      refine z_bipush xX xB dX6_mode_18 (by decide) ?_
      refine z_iald xX xB wK wP 1 rfl 16 rfl (by decide) (Nat.le_of_ble_eq_true rfl) dX6_mode_20 ?_
      refine lv_iload_n xX xB dX6_mode_21 rfl (lv_at wl 1 rfl) ?_
      refine z_icmp_ne (tgt := 28) xX xB dX6_mode_22 (by decide) (by omega) (by omega) (fun h22 => ?_) (fun h22 => ?_)
      · skip
        refine lv_aload_n xX xB dX6_mode_28 rfl (lv_at wl 0 rfl) ?_
        refine g_modv (va_runV (As := []) (rest := []) ⟨xX, xB, xM, xO, xT⟩ (c_X6_remember l D kI kB h a0 a1 a3 a4 a8 a9 a10 a13 a14 a15 a16 sd dM lM hM um ua F U hua hum) (cwV 0 xT gX6_mode_X6_remember rfl rfl rfl hd_X6_remember ⟨Nat.le_of_ble_eq_true rfl, Nat.le_of_ble_eq_true rfl⟩) (g_preV (ci := 6) (q0 := 0) wP wD wK [0, 1, 7] (by decide) rfl rfl rfl) rfl rfl wl.1 rfl (lv_room (Nat.le_of_ble_eq_true rfl)) dX6_mode_29 ⟨Nat.le_of_ble_eq_true rfl, Nat.le_of_ble_eq_true rfl⟩) wP wD wS [0, 1, 7] rfl (fun _ => rfl) (fun U1_8 H locs hc29 wP wD wS => ?_)
        try dsimp only at hc29
        have wP : va_P D gC [(h, .inr (6, [.ref a0, .ref a1, .int (zI sd), .ref a3, .ref a4, .int (zI dM), .int (zI lM), .int (zI hM), .ref a8, .ref a9, .ref a10, .int (zI ((if um < 30 then um + 1 else um : Nat) : Int)), .int (zI (((ua + 1) % 30 : Nat) : Int)), .ref a13, .ref a14, .ref a15, .ref a16])), (a0, .inl (kI, 17, .inl (aZ F))), (a3, .inl (kI, 256, .inl (aZ NU))), (a4, .inl (kI, 256, .inl (aZ QU))), (a8, .inl (kI, 128, .inl (aZ DF))), (a9, .inl (kI, 128, .inl (aZ LF))), (a10, .inl (kI, 128, .inl (aZ HA))), (a13, .inl (kI, 510, .inl (aZ U1_8)))] H := wP
        have wD : va_D (gA [(h, .inr (6, [.ref a0, .ref a1, .int (zI sd), .ref a3, .ref a4, .int (zI dM), .int (zI lM), .int (zI hM), .ref a8, .ref a9, .ref a10, .int (zI (um : Int)), .int (zI (ua : Int)), .ref a13, .ref a14, .ref a15, .ref a16])), (a0, .inl (kI, 17, .inl (aZ F))), (a3, .inl (kI, 256, .inl (aZ NU))), (a4, .inl (kI, 256, .inl (aZ QU))), (a8, .inl (kI, 128, .inl (aZ DF))), (a9, .inl (kI, 128, .inl (aZ LF))), (a10, .inl (kI, 128, .inl (aZ HA))), (a13, .inl (kI, 510, .inl (aZ U)))]) [(h, .inr (6, [.ref a0, .ref a1, .int (zI sd), .ref a3, .ref a4, .int (zI dM), .int (zI lM), .int (zI hM), .ref a8, .ref a9, .ref a10, .int (zI ((if um < 30 then um + 1 else um : Nat) : Int)), .int (zI (((ua + 1) % 30 : Nat) : Int)), .ref a13, .ref a14, .ref a15, .ref a16])), (a0, .inl (kI, 17, .inl (aZ F))), (a3, .inl (kI, 256, .inl (aZ NU))), (a4, .inl (kI, 256, .inl (aZ QU))), (a8, .inl (kI, 128, .inl (aZ DF))), (a9, .inl (kI, 128, .inl (aZ LF))), (a10, .inl (kI, 128, .inl (aZ HA))), (a13, .inl (kI, 510, .inl (aZ U1_8)))] := wD
        refine lv_aload_n xX xB dX6_mode_32 rfl (lv_at wl 0 rfl) ?_
        refine va_get (D := D) (ci := 6) (v := .ref a0) (C := RX6) (T := TX6) (N := 17) xX xB xT in_X6_mode_X6 xO wK.1 wP 0 rfl rfl 0 (by decide) (xT _ (List.mem_of_getElem? (i := 2) rfl)) (fun _ h9 => h9) rfl dX6_mode_33 ?_
        refine z_bipush xX xB dX6_mode_36 (by decide) ?_
        refine lv_iload_n xX xB dX6_mode_38 rfl (lv_at wl 1 rfl) ?_
        refine z_iast xX xB wK wP wD wS 1 rfl 16 rfl (by decide) (Nat.le_of_ble_eq_true rfl) dX6_mode_39 (fun H locs wP wD wS => ?_)
        have wP : va_P D gC [(h, .inr (6, [.ref a0, .ref a1, .int (zI sd), .ref a3, .ref a4, .int (zI dM), .int (zI lM), .int (zI hM), .ref a8, .ref a9, .ref a10, .int (zI ((if um < 30 then um + 1 else um : Nat) : Int)), .int (zI (((ua + 1) % 30 : Nat) : Int)), .ref a13, .ref a14, .ref a15, .ref a16])), (a0, .inl (kI, 17, .inl (aZ (uZ F 16 mo)))), (a3, .inl (kI, 256, .inl (aZ NU))), (a4, .inl (kI, 256, .inl (aZ QU))), (a8, .inl (kI, 128, .inl (aZ DF))), (a9, .inl (kI, 128, .inl (aZ LF))), (a10, .inl (kI, 128, .inl (aZ HA))), (a13, .inl (kI, 510, .inl (aZ U1_8)))] H := wP
        have wD : va_D (gA [(h, .inr (6, [.ref a0, .ref a1, .int (zI sd), .ref a3, .ref a4, .int (zI dM), .int (zI lM), .int (zI hM), .ref a8, .ref a9, .ref a10, .int (zI (um : Int)), .int (zI (ua : Int)), .ref a13, .ref a14, .ref a15, .ref a16])), (a0, .inl (kI, 17, .inl (aZ F))), (a3, .inl (kI, 256, .inl (aZ NU))), (a4, .inl (kI, 256, .inl (aZ QU))), (a8, .inl (kI, 128, .inl (aZ DF))), (a9, .inl (kI, 128, .inl (aZ LF))), (a10, .inl (kI, 128, .inl (aZ HA))), (a13, .inl (kI, 510, .inl (aZ U)))]) [(h, .inr (6, [.ref a0, .ref a1, .int (zI sd), .ref a3, .ref a4, .int (zI dM), .int (zI lM), .int (zI hM), .ref a8, .ref a9, .ref a10, .int (zI ((if um < 30 then um + 1 else um : Nat) : Int)), .int (zI (((ua + 1) % 30 : Nat) : Int)), .ref a13, .ref a14, .ref a15, .ref a16])), (a0, .inl (kI, 17, .inl (aZ (uZ F 16 mo)))), (a3, .inl (kI, 256, .inl (aZ NU))), (a4, .inl (kI, 256, .inl (aZ QU))), (a8, .inl (kI, 128, .inl (aZ DF))), (a9, .inl (kI, 128, .inl (aZ LF))), (a10, .inl (kI, 128, .inl (aZ HA))), (a13, .inl (kI, 510, .inl (aZ U1_8)))] := wD
        refine lv_aload_n xX xB dX6_mode_40 rfl (lv_at wl 0 rfl) ?_
        refine lv_aload_n xX xB dX6_mode_41 rfl (lv_at wl 0 rfl) ?_
        refine va_get (D := D) (ci := 6) (v := .ref a0) (C := RX6) (T := TX6) (N := 17) xX xB xT in_X6_mode_X6 xO wK.1 wP 0 rfl rfl 0 (by decide) (xT _ (List.mem_of_getElem? (i := 2) rfl)) (fun _ h9 => h9) rfl dX6_mode_42 ?_
        refine g_modi (va_runV (As := [.ref a0]) (rest := []) ⟨xX, xB, xM, xO, xT⟩ (c_X6_partsOf l D kI kB h a0 a1 a3 a4 a8 a9 a10 a13 a14 a15 a16 sd dM lM hM ((if um < 30 then um + 1 else um : Nat) : Int) (((ua + 1) % 30 : Nat) : Int) a0 (uZ F 16 mo) P (decide (mo = 8)) NU QU DF LF HA (fun k hk => by rw [uZ_n _ _ (by omega)]; exact hF k hk) (by rw [uZ_s]; omega) (by rw [uZ_s])) (cwV 1 xT gX6_mode_X6_partsOf rfl rfl rfl hd_X6_partsOf ⟨Nat.le_of_ble_eq_true rfl, Nat.le_of_ble_eq_true rfl⟩) (g_preV (ci := 6) (q0 := 0) wP wD wK [0, 1, 2, 3, 4, 5, 6] (by decide) rfl rfl rfl) rfl rfl wl.1 rfl (lv_room (Nat.le_of_ble_eq_true rfl)) dX6_mode_45 ⟨Nat.le_of_ble_eq_true rfl, Nat.le_of_ble_eq_true rfl⟩) wP wD wS [0, 1, 2, 3, 4, 5, 6] rfl (fun _ => rfl) (fun r_14 u_ H locs hc45 wP wD wS => ?_)
        obtain ⟨NU1_9, QU1_10, DF1_11, LF1_12, HA1_13⟩ := u_
        try dsimp only at hc45
        have wP : va_P D gC [(h, .inr (6, [.ref a0, .ref a1, .int (zI sd), .ref a3, .ref a4, .int (zI ((cD P (decide (mo = 8)) 256 : Nat) : Int)), .int (zI ((cL P (decide (mo = 8)) 256 : Nat) : Int)), .int (zI ((cH P (decide (mo = 8)) 256 : Nat) : Int)), .ref a8, .ref a9, .ref a10, .int (zI ((if um < 30 then um + 1 else um : Nat) : Int)), .int (zI (((ua + 1) % 30 : Nat) : Int)), .ref a13, .ref a14, .ref a15, .ref a16])), (a0, .inl (kI, 17, .inl (aZ (uZ F 16 mo)))), (a3, .inl (kI, 256, .inl (aZ NU1_9))), (a4, .inl (kI, 256, .inl (aZ QU1_10))), (a8, .inl (kI, 128, .inl (aZ DF1_11))), (a9, .inl (kI, 128, .inl (aZ LF1_12))), (a10, .inl (kI, 128, .inl (aZ HA1_13))), (a13, .inl (kI, 510, .inl (aZ U1_8)))] H := wP
        have wD : va_D (gA [(h, .inr (6, [.ref a0, .ref a1, .int (zI sd), .ref a3, .ref a4, .int (zI dM), .int (zI lM), .int (zI hM), .ref a8, .ref a9, .ref a10, .int (zI (um : Int)), .int (zI (ua : Int)), .ref a13, .ref a14, .ref a15, .ref a16])), (a0, .inl (kI, 17, .inl (aZ F))), (a3, .inl (kI, 256, .inl (aZ NU))), (a4, .inl (kI, 256, .inl (aZ QU))), (a8, .inl (kI, 128, .inl (aZ DF))), (a9, .inl (kI, 128, .inl (aZ LF))), (a10, .inl (kI, 128, .inl (aZ HA))), (a13, .inl (kI, 510, .inl (aZ U)))]) [(h, .inr (6, [.ref a0, .ref a1, .int (zI sd), .ref a3, .ref a4, .int (zI ((cD P (decide (mo = 8)) 256 : Nat) : Int)), .int (zI ((cL P (decide (mo = 8)) 256 : Nat) : Int)), .int (zI ((cH P (decide (mo = 8)) 256 : Nat) : Int)), .ref a8, .ref a9, .ref a10, .int (zI ((if um < 30 then um + 1 else um : Nat) : Int)), .int (zI (((ua + 1) % 30 : Nat) : Int)), .ref a13, .ref a14, .ref a15, .ref a16])), (a0, .inl (kI, 17, .inl (aZ (uZ F 16 mo)))), (a3, .inl (kI, 256, .inl (aZ NU1_9))), (a4, .inl (kI, 256, .inl (aZ QU1_10))), (a8, .inl (kI, 128, .inl (aZ DF1_11))), (a9, .inl (kI, 128, .inl (aZ LF1_12))), (a10, .inl (kI, 128, .inl (aZ HA1_13))), (a13, .inl (kI, 510, .inl (aZ U1_8)))] := wD
        obtain ⟨xR45, hc45⟩ := hc45
        refine lv_ri (y := zI ((cD P (decide (mo = 8)) 256 : Nat) : Int)) xR45 ?_
        exact g_mret (((cD P (decide (mo = 8)) 256 : Nat) : Int), ((cL P (decide (mo = 8)) 256 : Nat) : Int), ((cH P (decide (mo = 8)) 256 : Nat) : Int), NU1_9, QU1_10, DF1_11, LF1_12, HA1_13, U1_8) xX xB xR xL wP wS dX6_mode_48 ⟨rfl, hc29⟩
      · exact absurd h22 (by omega)
    · exact absurd h8 (by omega)

set_option maxHeartbeats 4000000 in
set_option maxRecDepth 100000 in
theorem c_X6_draw (l : Launch) (D : va_G) (kI kB : ClassId) (h : Nat) (a0 : Nat) (a1 : Nat) (a3 : Nat) (a4 : Nat) (a8 : Nat) (a9 : Nat) (a10 : Nat) (a13 : Nat) (a14 : Nat) (a15 : Nat) (a16 : Nat) (dM : Int) (lM : Int) (hM : Int) (um : Nat) (ua : Nat) (v : Nat) (hv : v < 2147483648) : gM l yX6_draw wsX6_draw ({ frames := 0, cells := 0, slots := 0, locals := 0 } : Room) D kI kB [.ref h, .int (zI 256)] [(h, .inr (6, [.ref a0, .ref a1, .int (zI (v : Int)), .ref a3, .ref a4, .int (zI dM), .int (zI lM), .int (zI hM), .ref a8, .ref a9, .ref a10, .int (zI (um : Int)), .int (zI (ua : Int)), .ref a13, .ref a14, .ref a15, .ref a16]))] (fun (_ : Unit) => [(h, .inr (6, [.ref a0, .ref a1, .int (zI ((nxS v : Nat) : Int)), .ref a3, .ref a4, .int (zI dM), .int (zI lM), .int (zI hM), .ref a8, .ref a9, .ref a10, .int (zI (um : Int)), .int (zI (ua : Int)), .ref a13, .ref a14, .ref a15, .ref a16]))]) (fun (r : Int32) (_ : Unit) => r = zI ((plc (nxS v) : Nat) : Int) ∧ True) := by
  refine g_start (cc := cX6_draw) (maxL := 2) (ret := (some .int)) (by decide) rfl (Nat.le_of_ble_eq_true rfl) ?_
  intro xp xe xs xm xbl xmt xc xX xB xR xM xT xO xL xN wP wD wK ls wl
  have wS : va_S (gA [(h, .inr (6, [.ref a0, .ref a1, .int (zI (v : Int)), .ref a3, .ref a4, .int (zI dM), .int (zI lM), .int (zI hM), .ref a8, .ref a9, .ref a10, .int (zI (um : Int)), .int (zI (ua : Int)), .ref a13, .ref a14, .ref a15, .ref a16]))]) xs.heap xs.heap [] := va_S.rf
  have wl : lv_has ls 2 [(0, .ref h), (1, .int (zI 256))] := wl
  have hnx := nxS_lt v
  refine lv_aload_n xX xB dX6_draw_0 rfl (lv_at wl 0 rfl) ?_
  refine lv_aload_n xX xB dX6_draw_1 rfl (lv_at wl 0 rfl) ?_
  refine va_get (D := D) (ci := 6) (v := .int (zI (v : Int))) (C := RX6) (T := TX6) (N := 17) xX xB xT in_X6_draw_X6 xO wK.1 wP 0 rfl rfl 2 (by decide) (xT _ (List.mem_of_getElem? (i := 1) rfl)) (fun _ h9 => h9) rfl dX6_draw_2 ?_
  refine lv_i2l (v := (zI (v : Int)).toInt64) xX xB dX6_draw_5 rfl ?_
  refine lv_ldc2 (v := 1103515245) xX xB xO (xT _ (List.mem_of_getElem? (i := 2) rfl)) dX6_draw_6 ?_
  refine lv_lmul xX xB dX6_draw_9 ?_
  refine lv_ldc2 (v := 12345) xX xB xO (xT _ (List.mem_of_getElem? (i := 3) rfl)) dX6_draw_10 ?_
  refine lv_ladd xX xB dX6_draw_13 ?_
  refine lv_ldc2 (v := 2147483648) xX xB xO (xT _ (List.mem_of_getElem? (i := 4) rfl)) dX6_draw_14 ?_
  refine lv_lrem xX xB dX6_draw_17 (by decide) ?_
  refine lv_l2i (v := zI ((nxS v : Nat) : Int)) xX xB dX6_draw_18 (zl_draw hv) ?_
  refine va_put (D := D) (ci := 6) (v := .int (zI ((nxS v : Nat) : Int))) (ty := .int) (C := RX6) (T := TX6) (N := 17) xX xB xT in_X6_draw_X6 tyX6 tyX6_ok nmX6 xO wK.1 wP wD wS 0 rfl rfl 2 (by decide) (xT _ (List.mem_of_getElem? (i := 1) rfl)) (fun _ h9 => h9) rfl (by decide +kernel) rfl rfl (Nat.le_of_ble_eq_true rfl) dX6_draw_19 (fun H locs wP wD wS => ?_)
  have wP : va_P D gC [(h, .inr (6, [.ref a0, .ref a1, .int (zI ((nxS v : Nat) : Int)), .ref a3, .ref a4, .int (zI dM), .int (zI lM), .int (zI hM), .ref a8, .ref a9, .ref a10, .int (zI (um : Int)), .int (zI (ua : Int)), .ref a13, .ref a14, .ref a15, .ref a16]))] H := wP
  have wD : va_D (gA [(h, .inr (6, [.ref a0, .ref a1, .int (zI (v : Int)), .ref a3, .ref a4, .int (zI dM), .int (zI lM), .int (zI hM), .ref a8, .ref a9, .ref a10, .int (zI (um : Int)), .int (zI (ua : Int)), .ref a13, .ref a14, .ref a15, .ref a16]))]) [(h, .inr (6, [.ref a0, .ref a1, .int (zI ((nxS v : Nat) : Int)), .ref a3, .ref a4, .int (zI dM), .int (zI lM), .int (zI hM), .ref a8, .ref a9, .ref a10, .int (zI (um : Int)), .int (zI (ua : Int)), .ref a13, .ref a14, .ref a15, .ref a16]))] := wD
  refine lv_aload_n xX xB dX6_draw_22 rfl (lv_at wl 0 rfl) ?_
  refine va_get (D := D) (ci := 6) (v := .int (zI ((nxS v : Nat) : Int))) (C := RX6) (T := TX6) (N := 17) xX xB xT in_X6_draw_X6 xO wK.1 wP 0 rfl rfl 2 (by decide) (xT _ (List.mem_of_getElem? (i := 1) rfl)) (fun _ h9 => h9) rfl dX6_draw_23 ?_
  refine z_ldc xX xB (65536) (by decide) xO (xT _ (List.mem_of_getElem? (i := 5) rfl)) dX6_draw_26 ?_
  refine z_idiv xX xB dX6_draw_28 (by omega) (by decide) ?_
  refine lv_iload_n xX xB dX6_draw_29 rfl (lv_at wl 1 rfl) ?_
  refine z_irem xX xB dX6_draw_30 (by omega) (by decide) ?_
  exact g_mret () xX xB xR xL wP wS dX6_draw_31 ⟨rfl, trivial⟩
