set_option maxRecDepth 20000 in
theorem in_X6_drift_X6 : ∀ w ∈ u_ws RX6 TX6 17, w ∈ wsX6_drift := by decide +kernel
set_option maxRecDepth 20000 in
theorem in_X6_undo_X6 : ∀ w ∈ u_ws RX6 TX6 17, w ∈ wsX6_undo := by decide +kernel
set_option maxRecDepth 20000 in
theorem in_X6_seed_X6 : ∀ w ∈ u_ws RX6 TX6 17, w ∈ wsX6_seed := by decide +kernel
set_option maxRecDepth 20000 in
theorem in_X6_keep_X6 : ∀ w ∈ u_ws RX6 TX6 17, w ∈ wsX6_keep := by decide +kernel
set_option maxRecDepth 20000 in
theorem in_X6_goBack_X6 : ∀ w ∈ u_ws RX6 TX6 17, w ∈ wsX6_goBack := by decide +kernel
theorem hd_X6_draw : yX6_draw.cls = RX6 ∧ yX6_draw.cls ≠ "java/lang/invoke/MethodHandle" ∧ yX6_draw.cls ≠ "java/lang/invoke/VarHandle" ∧ (parseMethodDescriptor yX6_draw.desc).map (fun d => d.parameters.length) = some 1 := by decide +kernel
set_option maxHeartbeats 4000000 in
set_option maxRecDepth 100000 in
theorem c_X6_drift_o (l : Launch) (D : va_G) (kI kB : ClassId) (h : Nat) (a0 : Nat) (a1 : Nat) (a3 : Nat) (a4 : Nat) (a8 : Nat) (a9 : Nat) (a10 : Nat) (a13 : Nat) (a14 : Nat) (a15 : Nat) (a16 : Nat) (sd : Int) (dM : Int) (lM : Int) (hM : Int) (um : Nat) (ua : Nat) (n : Int) (rr : -2147483648 ≤ n ∧ n ≤ 2147483647) (hb : ¬ (1 ≤ n ∧ n ≤ 60)) : gI l yX6_drift wsX6_drift ({ frames := 1, cells := 0, slots := 0, locals := 22 } : Room) D kI kB [.ref h, .int (zI n)] [(h, .inr (6, [.ref a0, .ref a1, .int (zI sd), .ref a3, .ref a4, .int (zI dM), .int (zI lM), .int (zI hM), .ref a8, .ref a9, .ref a10, .int (zI (um : Int)), .int (zI (ua : Int)), .ref a13, .ref a14, .ref a15, .ref a16]))] (zI (-1000000002)) := by
  refine g_start (cc := cX6_drift) (maxL := 3) (ret := (some .int)) (by decide) rfl (Nat.le_of_ble_eq_true rfl) ?_
  intro xp xe xs xm xbl xmt xc xX xB xR xM xT xO xL xN wP wD wK ls wl
  have wS : va_S (fun _ => False) xs.heap xs.heap [] := va_S.rf
  have wl : lv_has ls 3 [(0, .ref h), (1, .int (zI n))] := wl
  refine lv_iload_n xX xB dX6_drift_0 rfl (lv_at wl 1 rfl) ?_
  refine z_iconst xX xB dX6_drift_1 ?_
  refine z_bipush xX xB dX6_drift_2 (by decide) ?_
  refine g_pure (va_runS (As := [.int (zI n), .int (zI 1), .int (zI 60)]) (rest := []) ⟨xX, xB, xM, xO, xT⟩ (c_X6_in l D kI kB n 1 60 (by omega) (by omega) (by omega)) (va_cwS 3 xT gX6_drift_X6_in rfl rfl rfl hdn_X6_in ⟨Nat.le_of_ble_eq_true rfl, Nat.le_of_ble_eq_true rfl⟩) (g_preS wP wD wK [] (by decide) rfl) rfl rfl wl.1 rfl (lv_room (Nat.le_of_ble_eq_true rfl)) dX6_drift_4 ⟨Nat.le_of_ble_eq_true rfl, Nat.le_of_ble_eq_true rfl⟩) wP wS (fun H locs wP wS => ?_)
  refine b_if_ne (tgt := 13) xX xB dX6_drift_7 (by decide) (fun h7 => ?_) (fun h7 => ?_)
  · exact absurd h7 (by rw [decide_eq_false hb]; decide)
  · skip
    refine z_ldc xX xB (-1000000002) (by decide) xO (xT _ (List.mem_of_getElem? (i := 1) rfl)) dX6_drift_10 ?_
    exact g_iret xX xB xR xL wS dX6_drift_12 rfl

set_option maxHeartbeats 4000000 in
set_option maxRecDepth 100000 in
theorem c_X6_drift (l : Launch) (D : va_G) (kI kB : ClassId) (h : Nat) (a0 : Nat) (a1 : Nat) (a3 : Nat) (a4 : Nat) (a8 : Nat) (a9 : Nat) (a10 : Nat) (a13 : Nat) (a14 : Nat) (a15 : Nat) (a16 : Nat) (dM : Int) (lM : Int) (hM : Int) (um : Nat) (ua : Nat) (v : Nat) (F : Nat → Int) (P : Nat → Nat) (U : Nat → Int) (n : Nat) (hF : Pic F P) (hua : ua < 30) (hum : um ≤ 30) (hv : v < 2147483648) (hn : 1 ≤ n ∧ n ≤ 60) : gM l yX6_drift wsX6_drift ({ frames := 2, cells := 0, slots := 0, locals := 45 } : Room) D kI kB [.ref h, .int (zI (n : Int))] [(h, .inr (6, [.ref a0, .ref a1, .int (zI (v : Int)), .ref a3, .ref a4, .int (zI dM), .int (zI lM), .int (zI hM), .ref a8, .ref a9, .ref a10, .int (zI (um : Int)), .int (zI (ua : Int)), .ref a13, .ref a14, .ref a15, .ref a16])), (a0, .inl (kI, 17, .inl (aZ F))), (a13, .inl (kI, 510, .inl (aZ U)))] (fun (w_ : (Nat → Int) × (Nat → Int)) => [(h, .inr (6, [.ref a0, .ref a1, .int (zI ((dSd v n : Nat) : Int)), .ref a3, .ref a4, .int (zI dM), .int (zI lM), .int (zI hM), .ref a8, .ref a9, .ref a10, .int (zI ((min (um + n) 30 : Nat) : Int)), .int (zI (((ua + n) % 30 : Nat) : Int)), .ref a13, .ref a14, .ref a15, .ref a16])), (a0, .inl (kI, 17, .inl (aZ (w_.1)))), (a13, .inl (kI, 510, .inl (aZ (w_.2))))]) (fun (r : Int32) (w_ : (Nat → Int) × (Nat → Int)) => r = zI ((dots (dP P v n) : Nat) : Int) ∧ Pic (w_.1) (dP P v n) ∧ (w_.1) 16 = F 16 ∧ (∀ k, k < 510 → (w_.2) k = dU U P (F 16) v ua n k)) := by
  refine g_start (cc := cX6_drift) (maxL := 3) (ret := (some .int)) (by decide) rfl (Nat.le_of_ble_eq_true rfl) ?_
  intro xp xe xs xm xbl xmt xc xX xB xR xM xT xO xL xN wP wD wK ls wl
  have wS : va_S (gA [(h, .inr (6, [.ref a0, .ref a1, .int (zI (v : Int)), .ref a3, .ref a4, .int (zI dM), .int (zI lM), .int (zI hM), .ref a8, .ref a9, .ref a10, .int (zI (um : Int)), .int (zI (ua : Int)), .ref a13, .ref a14, .ref a15, .ref a16])), (a0, .inl (kI, 17, .inl (aZ F))), (a13, .inl (kI, 510, .inl (aZ U)))]) xs.heap xs.heap [] := va_S.rf
  have wl : lv_has ls 3 [(0, .ref h), (1, .int (zI (n : Int)))] := wl
  generalize hQ : MQ xbl _ _ xs 0 0 _ = xQ
  refine lv_iload_n xX xB dX6_drift_0 rfl (lv_at wl 1 rfl) ?_
  refine z_iconst xX xB dX6_drift_1 ?_
  refine z_bipush xX xB dX6_drift_2 (by decide) ?_
  refine g_pure (va_runS (As := [.int (zI (n : Int)), .int (zI 1), .int (zI 60)]) (rest := []) ⟨xX, xB, xM, xO, xT⟩ (c_X6_in l D kI kB (n : Int) 1 60 (by omega) (by omega) (by omega)) (va_cwS 3 xT gX6_drift_X6_in rfl rfl rfl hdn_X6_in ⟨Nat.le_of_ble_eq_true rfl, Nat.le_of_ble_eq_true rfl⟩) (g_preS wP wD wK [] (by decide) rfl) rfl rfl wl.1 rfl (lv_room (Nat.le_of_ble_eq_true rfl)) dX6_drift_4 ⟨Nat.le_of_ble_eq_true rfl, Nat.le_of_ble_eq_true rfl⟩) wP wS (fun H locs wP wS => ?_)
  refine b_if_ne (tgt := 13) xX xB dX6_drift_7 (by decide) (fun h7 => ?_) (fun h7 => ?_)
  · skip
    refine z_iconst xX xB dX6_drift_13 ?_
    refine lv_istore_n (lv' := [(2, .int (zI 0)), (0, .ref h), (1, .int (zI (n : Int)))]) xX xB dX6_drift_14 rfl wl (by decide) rfl (fun ls wl => ?_)
    have K : ∀ n_ : Nat, ∀ (i : Nat) (sv : Nat) (su : Nat) (sa : Nat) (F1 : Nat → Int) (U1 : Nat → Int), n - i < n_ → (i ≤ n) → (sv = dSd v i) → (su = min (um + i) 30) → (sa = (ua + i) % 30) → (Pic F1 (dP P v i)) → (F1 16 = F 16) → (∀ k, k < 510 → U1 k = dU U P (F 16) v ua i k) → ∀ (H : Heap) (locs : List Loc) (ls : Array Slot), va_P D gC [(h, .inr (6, [.ref a0, .ref a1, .int (zI (sv : Int)), .ref a3, .ref a4, .int (zI dM), .int (zI lM), .int (zI hM), .ref a8, .ref a9, .ref a10, .int (zI (su : Int)), .int (zI (sa : Int)), .ref a13, .ref a14, .ref a15, .ref a16])), (a0, .inl (kI, 17, .inl (aZ F1))), (a13, .inl (kI, 510, .inl (aZ U1)))] H → va_D (gA [(h, .inr (6, [.ref a0, .ref a1, .int (zI (v : Int)), .ref a3, .ref a4, .int (zI dM), .int (zI lM), .int (zI hM), .ref a8, .ref a9, .ref a10, .int (zI (um : Int)), .int (zI (ua : Int)), .ref a13, .ref a14, .ref a15, .ref a16])), (a0, .inl (kI, 17, .inl (aZ F))), (a13, .inl (kI, 510, .inl (aZ U)))]) [(h, .inr (6, [.ref a0, .ref a1, .int (zI (sv : Int)), .ref a3, .ref a4, .int (zI dM), .int (zI lM), .int (zI hM), .ref a8, .ref a9, .ref a10, .int (zI (su : Int)), .int (zI (sa : Int)), .ref a13, .ref a14, .ref a15, .ref a16])), (a0, .inl (kI, 17, .inl (aZ F1))), (a13, .inl (kI, 510, .inl (aZ U1)))] → va_S (gA [(h, .inr (6, [.ref a0, .ref a1, .int (zI (v : Int)), .ref a3, .ref a4, .int (zI dM), .int (zI lM), .int (zI hM), .ref a8, .ref a9, .ref a10, .int (zI (um : Int)), .int (zI (ua : Int)), .ref a13, .ref a14, .ref a15, .ref a16])), (a0, .inl (kI, 17, .inl (aZ F))), (a13, .inl (kI, 510, .inl (aZ U)))]) xs.heap H locs → lv_has ls 3 [(0, .ref h), (1, .int (zI (n : Int))), (2, .int (zI (i : Int)))] → W xp l xe ({ frames := 2, cells := 0, slots := 0, locals := 45 } : Room) xs xm (List.toArray [.ref h, .int (zI (n : Int))]) xbl xmt xc H locs 0 0 xQ (F0 xm 15 ls []) := by
      intro n_
      induction n_ with
      | zero =>
        intro i sv su sa F1 U1 hme
        exact absurd hme (Nat.not_lt_zero _)
      | succ n_ ihK =>
        intro i sv su sa F1 U1 hme hi hsv hsu hsa hF1 h16 hU1 H locs ls wP wD wS wl
        refine lv_iload_n xX xB dX6_drift_15 rfl (lv_at wl 2 rfl) ?_
        refine lv_iload_n xX xB dX6_drift_16 rfl (lv_at wl 1 rfl) ?_
        refine z_icmp_ge (tgt := 37) xX xB dX6_drift_17 (by decide) (by omega) (by omega) (fun h17 => ?_) (fun h17 => ?_)
        · skip
          have ein : n = i := by omega
          subst ein
          subst hsv
          subst hsu
          subst hsa
          refine lv_aload_n xX xB dX6_drift_37 rfl (lv_at wl 0 rfl) ?_
          refine lv_aload_n xX xB dX6_drift_38 rfl (lv_at wl 0 rfl) ?_
          refine va_get (D := D) (ci := 6) (v := .ref a0) (C := RX6) (T := TX6) (N := 17) xX xB xT in_X6_drift_X6 xO wK.1 wP 0 rfl rfl 0 (by decide) (xT _ (List.mem_of_getElem? (i := 2) rfl)) (fun _ h9 => h9) rfl dX6_drift_39 ?_
          refine g_pure (va_runV (As := [.ref a0]) (rest := []) ⟨xX, xB, xM, xO, xT⟩ (c_X6_darkOf l D kI kB h a0 a1 a3 a4 a8 a9 a10 a13 a14 a15 a16 (((dSd v n) : Nat) : Int) dM lM hM (((min (um + n) 30) : Nat) : Int) ((((ua + n) % 30) : Nat) : Int) a0 F1 (dP P v n) hF1) (cwV 1 xT gX6_drift_X6_darkOf rfl rfl rfl hd_X6_darkOf ⟨Nat.le_of_ble_eq_true rfl, Nat.le_of_ble_eq_true rfl⟩) (g_preV (ci := 6) (q0 := 0) wP wD wK [0, 1] (by decide) rfl rfl rfl) rfl rfl wl.1 rfl (lv_room (Nat.le_of_ble_eq_true rfl)) dX6_drift_42 ⟨Nat.le_of_ble_eq_true rfl, Nat.le_of_ble_eq_true rfl⟩) wP wS (fun H locs wP wS => ?_)
          subst hQ
          exact g_mret (F1, U1) xX xB xR xL wP wS dX6_drift_45 ⟨rfl, hF1, h16, hU1⟩
        · skip
          have hsvl : sv < 2147483648 := by rw [hsv]; exact dSd_lt hv i
          have hsv2 : nxS sv = dSd v (i + 1) := by rw [hsv, dSd_succ]
          refine lv_aload_n xX xB dX6_drift_20 rfl (lv_at wl 0 rfl) ?_
          refine lv_aload_n xX xB dX6_drift_21 rfl (lv_at wl 0 rfl) ?_
          refine z_sipush xX xB dX6_drift_22 (by decide) ?_
          refine g_modi (va_runV (As := [.int (zI 256)]) (rest := [.ref h]) ⟨xX, xB, xM, xO, xT⟩ (c_X6_draw l D kI kB h a0 a1 a3 a4 a8 a9 a10 a13 a14 a15 a16 dM lM hM su sa sv hsvl) (cwV 1 xT gX6_drift_X6_draw rfl rfl rfl hd_X6_draw ⟨Nat.le_of_ble_eq_true rfl, Nat.le_of_ble_eq_true rfl⟩) (g_preV (ci := 6) (q0 := 0) wP wD wK [0] (by decide) rfl rfl rfl) rfl rfl wl.1 rfl (lv_room (Nat.le_of_ble_eq_true rfl)) dX6_drift_25 ⟨Nat.le_of_ble_eq_true rfl, Nat.le_of_ble_eq_true rfl⟩) wP wD wS [0] rfl (fun _ => rfl) (fun r_1 u_ H locs hc25 wP wD wS => ?_)
          try dsimp only at hc25
          have wP : va_P D gC [(h, .inr (6, [.ref a0, .ref a1, .int (zI ((nxS sv : Nat) : Int)), .ref a3, .ref a4, .int (zI dM), .int (zI lM), .int (zI hM), .ref a8, .ref a9, .ref a10, .int (zI (su : Int)), .int (zI (sa : Int)), .ref a13, .ref a14, .ref a15, .ref a16])), (a0, .inl (kI, 17, .inl (aZ F1))), (a13, .inl (kI, 510, .inl (aZ U1)))] H := wP
          have wD : va_D (gA [(h, .inr (6, [.ref a0, .ref a1, .int (zI (v : Int)), .ref a3, .ref a4, .int (zI dM), .int (zI lM), .int (zI hM), .ref a8, .ref a9, .ref a10, .int (zI (um : Int)), .int (zI (ua : Int)), .ref a13, .ref a14, .ref a15, .ref a16])), (a0, .inl (kI, 17, .inl (aZ F))), (a13, .inl (kI, 510, .inl (aZ U)))]) [(h, .inr (6, [.ref a0, .ref a1, .int (zI ((nxS sv : Nat) : Int)), .ref a3, .ref a4, .int (zI dM), .int (zI lM), .int (zI hM), .ref a8, .ref a9, .ref a10, .int (zI (su : Int)), .int (zI (sa : Int)), .ref a13, .ref a14, .ref a15, .ref a16])), (a0, .inl (kI, 17, .inl (aZ F1))), (a13, .inl (kI, 510, .inl (aZ U1)))] := wD
          obtain ⟨xR25, hc25⟩ := hc25
          refine lv_ri (y := zI ((plc (nxS sv) : Nat) : Int)) xR25 ?_
          refine g_modv (va_runV (As := [.int (zI ((plc (nxS sv) : Nat) : Int))]) (rest := []) ⟨xX, xB, xM, xO, xT⟩ (c_X6_turns l D kI kB h a0 a1 a3 a4 a8 a9 a10 a13 a14 a15 a16 ((nxS sv : Nat) : Int) dM lM hM su sa F1 U1 (dP P v i) (plc (nxS sv)) (by omega) (by omega) hF1 (plc_lt _)) (cwV 1 xT gX6_drift_X6_turns rfl rfl rfl hd_X6_turns ⟨Nat.le_of_ble_eq_true rfl, Nat.le_of_ble_eq_true rfl⟩) (g_preV (ci := 6) (q0 := 0) wP wD wK [0, 1, 2] (by decide) rfl rfl rfl) rfl rfl wl.1 rfl (lv_room (Nat.le_of_ble_eq_true rfl)) dX6_drift_28 ⟨Nat.le_of_ble_eq_true rfl, Nat.le_of_ble_eq_true rfl⟩) wP wD wS [0, 1, 2] rfl (fun _ => rfl) (fun U1_2 H locs hc28 wP wD wS => ?_)
          try dsimp only at hc28
          have wP : va_P D gC [(h, .inr (6, [.ref a0, .ref a1, .int (zI ((nxS sv : Nat) : Int)), .ref a3, .ref a4, .int (zI dM), .int (zI lM), .int (zI hM), .ref a8, .ref a9, .ref a10, .int (zI ((if su < 30 then su + 1 else su : Nat) : Int)), .int (zI (((sa + 1) % 30 : Nat) : Int)), .ref a13, .ref a14, .ref a15, .ref a16])), (a0, .inl (kI, 17, .inl (aZ (uZ F1 ((plc (nxS sv)) / 16) (((dP P v i) ((plc (nxS sv)) / 16) ^^^ bit ((plc (nxS sv))) : Nat) : Int))))), (a13, .inl (kI, 510, .inl (aZ U1_2)))] H := wP
          have wD : va_D (gA [(h, .inr (6, [.ref a0, .ref a1, .int (zI (v : Int)), .ref a3, .ref a4, .int (zI dM), .int (zI lM), .int (zI hM), .ref a8, .ref a9, .ref a10, .int (zI (um : Int)), .int (zI (ua : Int)), .ref a13, .ref a14, .ref a15, .ref a16])), (a0, .inl (kI, 17, .inl (aZ F))), (a13, .inl (kI, 510, .inl (aZ U)))]) [(h, .inr (6, [.ref a0, .ref a1, .int (zI ((nxS sv : Nat) : Int)), .ref a3, .ref a4, .int (zI dM), .int (zI lM), .int (zI hM), .ref a8, .ref a9, .ref a10, .int (zI ((if su < 30 then su + 1 else su : Nat) : Int)), .int (zI (((sa + 1) % 30 : Nat) : Int)), .ref a13, .ref a14, .ref a15, .ref a16])), (a0, .inl (kI, 17, .inl (aZ (uZ F1 ((plc (nxS sv)) / 16) (((dP P v i) ((plc (nxS sv)) / 16) ^^^ bit ((plc (nxS sv))) : Nat) : Int))))), (a13, .inl (kI, 510, .inl (aZ U1_2)))] := wD
          refine lv_iinc (v := zI ((i : Int) + 1)) (lv' := [(2, .int (zI ((i : Int) + 1))), (0, .ref h), (1, .int (zI (n : Int)))]) xX xB dX6_drift_31 wl (k := 2) rfl (zI_add _ _) (by decide) rfl (fun ls wl => ?_)
          refine lv_goto (tgt := 15) xX xB dX6_drift_34 (by decide) ?_
          exact ihK (i + 1) (nxS sv) (if su < 30 then su + 1 else su) ((sa + 1) % 30) (uZ F1 ((plc (nxS sv)) / 16) (((dP P v i) ((plc (nxS sv)) / 16) ^^^ bit ((plc (nxS sv))) : Nat) : Int)) U1_2 (by omega) (by omega) hsv2 (by split <;> omega) (by omega) (dP_step hsv hF1) (by rw [uZ_n _ _ (by have := plc_lt (nxS sv); omega)]; exact h16) (dU_step hsa hU1 hF1 h16 hc28) _ _ _ wP wD wS (lv_sub wl [1, 2, 0] rfl)
    exact K _ 0 v um ua F U (Nat.lt_succ_self _) (by omega) rfl (by omega) (by omega) hF rfl (fun _ _ => rfl) _ _ _ wP wD wS (lv_sub wl [1, 2, 0] rfl)
  · exact absurd h7 (by rw [decide_eq_true (by omega)]; decide)

set_option maxHeartbeats 4000000 in
set_option maxRecDepth 100000 in
theorem c_X6_undo_o (l : Launch) (D : va_G) (kI kB : ClassId) (h : Nat) (a0 : Nat) (a1 : Nat) (a3 : Nat) (a4 : Nat) (a8 : Nat) (a9 : Nat) (a10 : Nat) (a13 : Nat) (a14 : Nat) (a15 : Nat) (a16 : Nat) (sd : Int) (dM : Int) (lM : Int) (hM : Int) (um : Nat) (ua : Nat) (n : Int) (rr : -2147483648 ≤ n ∧ n ≤ 2147483647) (hb : ¬ (1 ≤ n ∧ n ≤ 30)) : gI l yX6_undo wsX6_undo ({ frames := 1, cells := 0, slots := 0, locals := 22 } : Room) D kI kB [.ref h, .int (zI n)] [(h, .inr (6, [.ref a0, .ref a1, .int (zI sd), .ref a3, .ref a4, .int (zI dM), .int (zI lM), .int (zI hM), .ref a8, .ref a9, .ref a10, .int (zI (um : Int)), .int (zI (ua : Int)), .ref a13, .ref a14, .ref a15, .ref a16]))] (zI (-1000000002)) := by
  refine g_start (cc := cX6_undo) (maxL := 3) (ret := (some .int)) (by decide) rfl (Nat.le_of_ble_eq_true rfl) ?_
  intro xp xe xs xm xbl xmt xc xX xB xR xM xT xO xL xN wP wD wK ls wl
  have wS : va_S (fun _ => False) xs.heap xs.heap [] := va_S.rf
  have wl : lv_has ls 3 [(0, .ref h), (1, .int (zI n))] := wl
  refine lv_iload_n xX xB dX6_undo_0 rfl (lv_at wl 1 rfl) ?_
  refine z_iconst xX xB dX6_undo_1 ?_
  refine z_bipush xX xB dX6_undo_2 (by decide) ?_
  refine g_pure (va_runS (As := [.int (zI n), .int (zI 1), .int (zI 30)]) (rest := []) ⟨xX, xB, xM, xO, xT⟩ (c_X6_in l D kI kB n 1 30 (by omega) (by omega) (by omega)) (va_cwS 3 xT gX6_undo_X6_in rfl rfl rfl hdn_X6_in ⟨Nat.le_of_ble_eq_true rfl, Nat.le_of_ble_eq_true rfl⟩) (g_preS wP wD wK [] (by decide) rfl) rfl rfl wl.1 rfl (lv_room (Nat.le_of_ble_eq_true rfl)) dX6_undo_4 ⟨Nat.le_of_ble_eq_true rfl, Nat.le_of_ble_eq_true rfl⟩) wP wS (fun H locs wP wS => ?_)
  refine b_if_ne (tgt := 13) xX xB dX6_undo_7 (by decide) (fun h7 => ?_) (fun h7 => ?_)
  · exact absurd h7 (by rw [decide_eq_false hb]; decide)
  · skip
    refine z_ldc xX xB (-1000000002) (by decide) xO (xT _ (List.mem_of_getElem? (i := 1) rfl)) dX6_undo_10 ?_
    exact g_iret xX xB xR xL wS dX6_undo_12 rfl

set_option maxHeartbeats 4000000 in
set_option maxRecDepth 100000 in
theorem c_X6_undo_n (l : Launch) (D : va_G) (kI kB : ClassId) (h : Nat) (a0 : Nat) (a1 : Nat) (a3 : Nat) (a4 : Nat) (a8 : Nat) (a9 : Nat) (a10 : Nat) (a13 : Nat) (a14 : Nat) (a15 : Nat) (a16 : Nat) (sd : Int) (dM : Int) (lM : Int) (hM : Int) (um : Nat) (ua : Nat) (n : Nat) (hk : 1 ≤ n ∧ n ≤ 30) (hb : um < n) : gI l yX6_undo wsX6_undo ({ frames := 1, cells := 0, slots := 0, locals := 22 } : Room) D kI kB [.ref h, .int (zI (n : Int))] [(h, .inr (6, [.ref a0, .ref a1, .int (zI sd), .ref a3, .ref a4, .int (zI dM), .int (zI lM), .int (zI hM), .ref a8, .ref a9, .ref a10, .int (zI (um : Int)), .int (zI (ua : Int)), .ref a13, .ref a14, .ref a15, .ref a16]))] (zI (-1000000003)) := by
  refine g_start (cc := cX6_undo) (maxL := 3) (ret := (some .int)) (by decide) rfl (Nat.le_of_ble_eq_true rfl) ?_
  intro xp xe xs xm xbl xmt xc xX xB xR xM xT xO xL xN wP wD wK ls wl
  have wS : va_S (fun _ => False) xs.heap xs.heap [] := va_S.rf
  have wl : lv_has ls 3 [(0, .ref h), (1, .int (zI (n : Int)))] := wl
  refine lv_iload_n xX xB dX6_undo_0 rfl (lv_at wl 1 rfl) ?_
  refine z_iconst xX xB dX6_undo_1 ?_
  refine z_bipush xX xB dX6_undo_2 (by decide) ?_
  refine g_pure (va_runS (As := [.int (zI (n : Int)), .int (zI 1), .int (zI 30)]) (rest := []) ⟨xX, xB, xM, xO, xT⟩ (c_X6_in l D kI kB (n : Int) 1 30 (by omega) (by omega) (by omega)) (va_cwS 3 xT gX6_undo_X6_in rfl rfl rfl hdn_X6_in ⟨Nat.le_of_ble_eq_true rfl, Nat.le_of_ble_eq_true rfl⟩) (g_preS wP wD wK [] (by decide) rfl) rfl rfl wl.1 rfl (lv_room (Nat.le_of_ble_eq_true rfl)) dX6_undo_4 ⟨Nat.le_of_ble_eq_true rfl, Nat.le_of_ble_eq_true rfl⟩) wP wS (fun H locs wP wS => ?_)
  refine b_if_ne (tgt := 13) xX xB dX6_undo_7 (by decide) (fun h7 => ?_) (fun h7 => ?_)
  · skip
    refine lv_iload_n xX xB dX6_undo_13 rfl (lv_at wl 1 rfl) ?_
    refine lv_aload_n xX xB dX6_undo_14 rfl (lv_at wl 0 rfl) ?_
    refine va_get (D := D) (ci := 6) (v := .int (zI (um : Int))) (C := RX6) (T := TX6) (N := 17) xX xB xT in_X6_undo_X6 xO wK.1 wP 0 rfl rfl 11 (by decide) (xT _ (List.mem_of_getElem? (i := 2) rfl)) (fun _ h9 => h9) rfl dX6_undo_15 ?_
    refine z_icmp_le (tgt := 24) xX xB dX6_undo_18 (by decide) (by omega) (by omega) (fun h18 => ?_) (fun h18 => ?_)
    · exact absurd h18 (by omega)
    · skip
      refine z_ldc xX xB (-1000000003) (by decide) xO (xT _ (List.mem_of_getElem? (i := 3) rfl)) dX6_undo_21 ?_
      exact g_iret xX xB xR xL wS dX6_undo_23 rfl
  · exact absurd h7 (by rw [decide_eq_true (by omega)]; decide)

set_option maxHeartbeats 4000000 in
set_option maxRecDepth 100000 in
theorem c_X6_undo (l : Launch) (D : va_G) (kI kB : ClassId) (h : Nat) (a0 : Nat) (a1 : Nat) (a3 : Nat) (a4 : Nat) (a8 : Nat) (a9 : Nat) (a10 : Nat) (a13 : Nat) (a14 : Nat) (a15 : Nat) (a16 : Nat) (sd : Int) (dM : Int) (lM : Int) (hM : Int) (um : Nat) (ua : Nat) (F : Nat → Int) (U : Nat → Int) (n : Nat) (hua : ua < 30) (hum : um ≤ 30) (hk : 1 ≤ n ∧ n ≤ 30) (hb : n ≤ um) (hU : ∀ k, k < 510 → 0 ≤ U k ∧ U k ≤ 65535) : gM l yX6_undo wsX6_undo ({ frames := 2, cells := 0, slots := 0, locals := 45 } : Room) D kI kB [.ref h, .int (zI (n : Int))] [(h, .inr (6, [.ref a0, .ref a1, .int (zI sd), .ref a3, .ref a4, .int (zI dM), .int (zI lM), .int (zI hM), .ref a8, .ref a9, .ref a10, .int (zI (um : Int)), .int (zI (ua : Int)), .ref a13, .ref a14, .ref a15, .ref a16])), (a0, .inl (kI, 17, .inl (aZ F))), (a13, .inl (kI, 510, .inl (aZ U)))] (fun (F1 : Nat → Int) => [(h, .inr (6, [.ref a0, .ref a1, .int (zI sd), .ref a3, .ref a4, .int (zI dM), .int (zI lM), .int (zI hM), .ref a8, .ref a9, .ref a10, .int (zI ((um - n : Nat) : Int)), .int (zI (((ua + 30 - n) % 30 : Nat) : Int)), .ref a13, .ref a14, .ref a15, .ref a16])), (a0, .inl (kI, 17, .inl (aZ F1))), (a13, .inl (kI, 510, .inl (aZ U)))]) (fun (r : Int32) (F1 : Nat → Int) => r = zI ((dots (toP U (17 * ((ua + 30 - n) % 30))) : Nat) : Int) ∧ (∀ k, k < 17 → F1 k = U (17 * ((ua + 30 - n) % 30) + k))) := by
  refine g_start (cc := cX6_undo) (maxL := 3) (ret := (some .int)) (by decide) rfl (Nat.le_of_ble_eq_true rfl) ?_
  intro xp xe xs xm xbl xmt xc xX xB xR xM xT xO xL xN wP wD wK ls wl
  have wS : va_S (gA [(h, .inr (6, [.ref a0, .ref a1, .int (zI sd), .ref a3, .ref a4, .int (zI dM), .int (zI lM), .int (zI hM), .ref a8, .ref a9, .ref a10, .int (zI (um : Int)), .int (zI (ua : Int)), .ref a13, .ref a14, .ref a15, .ref a16])), (a0, .inl (kI, 17, .inl (aZ F))), (a13, .inl (kI, 510, .inl (aZ U)))]) xs.heap xs.heap [] := va_S.rf
  have wl : lv_has ls 3 [(0, .ref h), (1, .int (zI (n : Int)))] := wl
  generalize hQ : MQ xbl _ _ xs 0 0 _ = xQ
  refine lv_iload_n xX xB dX6_undo_0 rfl (lv_at wl 1 rfl) ?_
  refine z_iconst xX xB dX6_undo_1 ?_
  refine z_bipush xX xB dX6_undo_2 (by decide) ?_
  refine g_pure (va_runS (As := [.int (zI (n : Int)), .int (zI 1), .int (zI 30)]) (rest := []) ⟨xX, xB, xM, xO, xT⟩ (c_X6_in l D kI kB (n : Int) 1 30 (by omega) (by omega) (by omega)) (va_cwS 3 xT gX6_undo_X6_in rfl rfl rfl hdn_X6_in ⟨Nat.le_of_ble_eq_true rfl, Nat.le_of_ble_eq_true rfl⟩) (g_preS wP wD wK [] (by decide) rfl) rfl rfl wl.1 rfl (lv_room (Nat.le_of_ble_eq_true rfl)) dX6_undo_4 ⟨Nat.le_of_ble_eq_true rfl, Nat.le_of_ble_eq_true rfl⟩) wP wS (fun H locs wP wS => ?_)
  refine b_if_ne (tgt := 13) xX xB dX6_undo_7 (by decide) (fun h7 => ?_) (fun h7 => ?_)
  · skip
    refine lv_iload_n xX xB dX6_undo_13 rfl (lv_at wl 1 rfl) ?_
    refine lv_aload_n xX xB dX6_undo_14 rfl (lv_at wl 0 rfl) ?_
    refine va_get (D := D) (ci := 6) (v := .int (zI (um : Int))) (C := RX6) (T := TX6) (N := 17) xX xB xT in_X6_undo_X6 xO wK.1 wP 0 rfl rfl 11 (by decide) (xT _ (List.mem_of_getElem? (i := 2) rfl)) (fun _ h9 => h9) rfl dX6_undo_15 ?_
    refine z_icmp_le (tgt := 24) xX xB dX6_undo_18 (by decide) (by omega) (by omega) (fun h18 => ?_) (fun h18 => ?_)
    · skip
      refine lv_aload_n xX xB dX6_undo_24 rfl (lv_at wl 0 rfl) ?_
      refine lv_aload_n xX xB dX6_undo_25 rfl (lv_at wl 0 rfl) ?_
      refine va_get (D := D) (ci := 6) (v := .int (zI (ua : Int))) (C := RX6) (T := TX6) (N := 17) xX xB xT in_X6_undo_X6 xO wK.1 wP 0 rfl rfl 12 (by decide) (xT _ (List.mem_of_getElem? (i := 4) rfl)) (fun _ h9 => h9) rfl dX6_undo_26 ?_
      refine z_bipush xX xB dX6_undo_29 (by decide) ?_
      refine z_iadd xX xB dX6_undo_31 ?_
      refine lv_iload_n xX xB dX6_undo_32 rfl (lv_at wl 1 rfl) ?_
      refine z_isub xX xB dX6_undo_33 ?_
      refine z_bipush xX xB dX6_undo_34 (by decide) ?_
      refine z_irem xX xB dX6_undo_36 (by omega) (by decide) ?_
      refine lv_ri (y := zI (((ua + 30 - n) % 30 : Nat) : Int)) (congrArg zI (by omega)) ?_
      refine va_put (D := D) (ci := 6) (v := .int (zI (((ua + 30 - n) % 30 : Nat) : Int))) (ty := .int) (C := RX6) (T := TX6) (N := 17) xX xB xT in_X6_undo_X6 tyX6 tyX6_ok nmX6 xO wK.1 wP wD wS 0 rfl rfl 12 (by decide) (xT _ (List.mem_of_getElem? (i := 4) rfl)) (fun _ h9 => h9) rfl (by decide +kernel) rfl rfl (Nat.le_of_ble_eq_true rfl) dX6_undo_37 (fun H locs wP wD wS => ?_)
      have wP : va_P D gC [(h, .inr (6, [.ref a0, .ref a1, .int (zI sd), .ref a3, .ref a4, .int (zI dM), .int (zI lM), .int (zI hM), .ref a8, .ref a9, .ref a10, .int (zI (um : Int)), .int (zI (((ua + 30 - n) % 30 : Nat) : Int)), .ref a13, .ref a14, .ref a15, .ref a16])), (a0, .inl (kI, 17, .inl (aZ F))), (a13, .inl (kI, 510, .inl (aZ U)))] H := wP
      have wD : va_D (gA [(h, .inr (6, [.ref a0, .ref a1, .int (zI sd), .ref a3, .ref a4, .int (zI dM), .int (zI lM), .int (zI hM), .ref a8, .ref a9, .ref a10, .int (zI (um : Int)), .int (zI (ua : Int)), .ref a13, .ref a14, .ref a15, .ref a16])), (a0, .inl (kI, 17, .inl (aZ F))), (a13, .inl (kI, 510, .inl (aZ U)))]) [(h, .inr (6, [.ref a0, .ref a1, .int (zI sd), .ref a3, .ref a4, .int (zI dM), .int (zI lM), .int (zI hM), .ref a8, .ref a9, .ref a10, .int (zI (um : Int)), .int (zI (((ua + 30 - n) % 30 : Nat) : Int)), .ref a13, .ref a14, .ref a15, .ref a16])), (a0, .inl (kI, 17, .inl (aZ F))), (a13, .inl (kI, 510, .inl (aZ U)))] := wD
      refine lv_aload_n xX xB dX6_undo_40 rfl (lv_at wl 0 rfl) ?_
      refine lv_dup xX xB dX6_undo_41 rfl ?_
      refine va_get (D := D) (ci := 6) (v := .int (zI (um : Int))) (C := RX6) (T := TX6) (N := 17) xX xB xT in_X6_undo_X6 xO wK.1 wP 0 rfl rfl 11 (by decide) (xT _ (List.mem_of_getElem? (i := 2) rfl)) (fun _ h9 => h9) rfl dX6_undo_42 ?_
      refine lv_iload_n xX xB dX6_undo_45 rfl (lv_at wl 1 rfl) ?_
      refine z_isub xX xB dX6_undo_46 ?_
      refine lv_ri (y := zI ((um - n : Nat) : Int)) (congrArg zI (by omega)) ?_
      refine va_put (D := D) (ci := 6) (v := .int (zI ((um - n : Nat) : Int))) (ty := .int) (C := RX6) (T := TX6) (N := 17) xX xB xT in_X6_undo_X6 tyX6 tyX6_ok nmX6 xO wK.1 wP wD wS 0 rfl rfl 11 (by decide) (xT _ (List.mem_of_getElem? (i := 2) rfl)) (fun _ h9 => h9) rfl (by decide +kernel) rfl rfl (Nat.le_of_ble_eq_true rfl) dX6_undo_47 (fun H locs wP wD wS => ?_)
      have wP : va_P D gC [(h, .inr (6, [.ref a0, .ref a1, .int (zI sd), .ref a3, .ref a4, .int (zI dM), .int (zI lM), .int (zI hM), .ref a8, .ref a9, .ref a10, .int (zI ((um - n : Nat) : Int)), .int (zI (((ua + 30 - n) % 30 : Nat) : Int)), .ref a13, .ref a14, .ref a15, .ref a16])), (a0, .inl (kI, 17, .inl (aZ F))), (a13, .inl (kI, 510, .inl (aZ U)))] H := wP
      have wD : va_D (gA [(h, .inr (6, [.ref a0, .ref a1, .int (zI sd), .ref a3, .ref a4, .int (zI dM), .int (zI lM), .int (zI hM), .ref a8, .ref a9, .ref a10, .int (zI (um : Int)), .int (zI (ua : Int)), .ref a13, .ref a14, .ref a15, .ref a16])), (a0, .inl (kI, 17, .inl (aZ F))), (a13, .inl (kI, 510, .inl (aZ U)))]) [(h, .inr (6, [.ref a0, .ref a1, .int (zI sd), .ref a3, .ref a4, .int (zI dM), .int (zI lM), .int (zI hM), .ref a8, .ref a9, .ref a10, .int (zI ((um - n : Nat) : Int)), .int (zI (((ua + 30 - n) % 30 : Nat) : Int)), .ref a13, .ref a14, .ref a15, .ref a16])), (a0, .inl (kI, 17, .inl (aZ F))), (a13, .inl (kI, 510, .inl (aZ U)))] := wD
      refine z_iconst xX xB dX6_undo_50 ?_
      refine lv_istore_n (lv' := [(2, .int (zI 0)), (0, .ref h), (1, .int (zI (n : Int)))]) xX xB dX6_undo_51 rfl wl (by decide) rfl (fun ls wl => ?_)
      have K : ∀ n_ : Nat, ∀ (i : Nat) (F1 : Nat → Int), 17 - i < n_ → (i ≤ 17) → (∀ k, k < i → F1 k = U (17 * ((ua + 30 - n) % 30) + k)) → ∀ (H : Heap) (locs : List Loc) (ls : Array Slot), va_P D gC [(h, .inr (6, [.ref a0, .ref a1, .int (zI sd), .ref a3, .ref a4, .int (zI dM), .int (zI lM), .int (zI hM), .ref a8, .ref a9, .ref a10, .int (zI ((um - n : Nat) : Int)), .int (zI (((ua + 30 - n) % 30 : Nat) : Int)), .ref a13, .ref a14, .ref a15, .ref a16])), (a0, .inl (kI, 17, .inl (aZ F1))), (a13, .inl (kI, 510, .inl (aZ U)))] H → va_D (gA [(h, .inr (6, [.ref a0, .ref a1, .int (zI sd), .ref a3, .ref a4, .int (zI dM), .int (zI lM), .int (zI hM), .ref a8, .ref a9, .ref a10, .int (zI (um : Int)), .int (zI (ua : Int)), .ref a13, .ref a14, .ref a15, .ref a16])), (a0, .inl (kI, 17, .inl (aZ F))), (a13, .inl (kI, 510, .inl (aZ U)))]) [(h, .inr (6, [.ref a0, .ref a1, .int (zI sd), .ref a3, .ref a4, .int (zI dM), .int (zI lM), .int (zI hM), .ref a8, .ref a9, .ref a10, .int (zI ((um - n : Nat) : Int)), .int (zI (((ua + 30 - n) % 30 : Nat) : Int)), .ref a13, .ref a14, .ref a15, .ref a16])), (a0, .inl (kI, 17, .inl (aZ F1))), (a13, .inl (kI, 510, .inl (aZ U)))] → va_S (gA [(h, .inr (6, [.ref a0, .ref a1, .int (zI sd), .ref a3, .ref a4, .int (zI dM), .int (zI lM), .int (zI hM), .ref a8, .ref a9, .ref a10, .int (zI (um : Int)), .int (zI (ua : Int)), .ref a13, .ref a14, .ref a15, .ref a16])), (a0, .inl (kI, 17, .inl (aZ F))), (a13, .inl (kI, 510, .inl (aZ U)))]) xs.heap H locs → lv_has ls 3 [(0, .ref h), (1, .int (zI (n : Int))), (2, .int (zI (i : Int)))] → W xp l xe ({ frames := 2, cells := 0, slots := 0, locals := 45 } : Room) xs xm (List.toArray [.ref h, .int (zI (n : Int))]) xbl xmt xc H locs 0 0 xQ (F0 xm 52 ls []) := by
        intro n_
        induction n_ with
        | zero =>
          intro i F1 hme
          exact absurd hme (Nat.not_lt_zero _)
        | succ n_ ihK =>
          intro i F1 hme hi hA H locs ls wP wD wS wl
          refine lv_iload_n xX xB dX6_undo_52 rfl (lv_at wl 2 rfl) ?_
          refine z_bipush xX xB dX6_undo_53 (by decide) ?_
          refine z_icmp_ge (tgt := 84) xX xB dX6_undo_55 (by decide) (by omega) (by omega) (fun h55 => ?_) (fun h55 => ?_)
          · skip
            refine lv_aload_n xX xB dX6_undo_84 rfl (lv_at wl 0 rfl) ?_
            refine lv_aload_n xX xB dX6_undo_85 rfl (lv_at wl 0 rfl) ?_
            refine va_get (D := D) (ci := 6) (v := .ref a0) (C := RX6) (T := TX6) (N := 17) xX xB xT in_X6_undo_X6 xO wK.1 wP 0 rfl rfl 0 (by decide) (xT _ (List.mem_of_getElem? (i := 5) rfl)) (fun _ h9 => h9) rfl dX6_undo_86 ?_
            refine g_pure (va_runV (As := [.ref a0]) (rest := []) ⟨xX, xB, xM, xO, xT⟩ (c_X6_darkOf l D kI kB h a0 a1 a3 a4 a8 a9 a10 a13 a14 a15 a16 sd dM lM hM ((um - n : Nat) : Int) (((ua + 30 - n) % 30 : Nat) : Int) a0 F1 (toP U (17 * ((ua + 30 - n) % 30))) (Pic.ld (fun k hk => hA k (by omega)) (fun k hk => hU _ (by omega)))) (cwV 1 xT gX6_undo_X6_darkOf rfl rfl rfl hd_X6_darkOf ⟨Nat.le_of_ble_eq_true rfl, Nat.le_of_ble_eq_true rfl⟩) (g_preV (ci := 6) (q0 := 0) wP wD wK [0, 1] (by decide) rfl rfl rfl) rfl rfl wl.1 rfl (lv_room (Nat.le_of_ble_eq_true rfl)) dX6_undo_89 ⟨Nat.le_of_ble_eq_true rfl, Nat.le_of_ble_eq_true rfl⟩) wP wS (fun H locs wP wS => ?_)
            subst hQ
            exact g_mret F1 xX xB xR xL wP wS dX6_undo_92 ⟨rfl, fun k hk => hA k (by omega)⟩
          · skip
            refine lv_aload_n xX xB dX6_undo_58 rfl (lv_at wl 0 rfl) ?_
            refine va_get (D := D) (ci := 6) (v := .ref a0) (C := RX6) (T := TX6) (N := 17) xX xB xT in_X6_undo_X6 xO wK.1 wP 0 rfl rfl 0 (by decide) (xT _ (List.mem_of_getElem? (i := 5) rfl)) (fun _ h9 => h9) rfl dX6_undo_59 ?_
            refine lv_iload_n xX xB dX6_undo_62 rfl (lv_at wl 2 rfl) ?_
            refine lv_aload_n xX xB dX6_undo_63 rfl (lv_at wl 0 rfl) ?_
            refine va_get (D := D) (ci := 6) (v := .ref a13) (C := RX6) (T := TX6) (N := 17) xX xB xT in_X6_undo_X6 xO wK.1 wP 0 rfl rfl 13 (by decide) (xT _ (List.mem_of_getElem? (i := 6) rfl)) (fun _ h9 => h9) rfl dX6_undo_64 ?_
            refine z_bipush xX xB dX6_undo_67 (by decide) ?_
            refine lv_aload_n xX xB dX6_undo_69 rfl (lv_at wl 0 rfl) ?_
            refine va_get (D := D) (ci := 6) (v := .int (zI (((ua + 30 - n) % 30 : Nat) : Int))) (C := RX6) (T := TX6) (N := 17) xX xB xT in_X6_undo_X6 xO wK.1 wP 0 rfl rfl 12 (by decide) (xT _ (List.mem_of_getElem? (i := 4) rfl)) (fun _ h9 => h9) rfl dX6_undo_70 ?_
            refine z_imul xX xB dX6_undo_73 ?_
            refine lv_iload_n xX xB dX6_undo_74 rfl (lv_at wl 2 rfl) ?_
            refine z_iadd xX xB dX6_undo_75 ?_
            refine z_iald xX xB wK wP 2 rfl (17 * ((ua + 30 - n) % 30) + i) (by omega) (by omega) (Nat.le_of_ble_eq_true rfl) dX6_undo_76 ?_
            refine z_iast xX xB wK wP wD wS 1 rfl i rfl (by omega) (Nat.le_of_ble_eq_true rfl) dX6_undo_77 (fun H locs wP wD wS => ?_)
            have wP : va_P D gC [(h, .inr (6, [.ref a0, .ref a1, .int (zI sd), .ref a3, .ref a4, .int (zI dM), .int (zI lM), .int (zI hM), .ref a8, .ref a9, .ref a10, .int (zI ((um - n : Nat) : Int)), .int (zI (((ua + 30 - n) % 30 : Nat) : Int)), .ref a13, .ref a14, .ref a15, .ref a16])), (a0, .inl (kI, 17, .inl (aZ (uZ F1 i (U (17 * ((ua + 30 - n) % 30) + i)))))), (a13, .inl (kI, 510, .inl (aZ U)))] H := wP
            have wD : va_D (gA [(h, .inr (6, [.ref a0, .ref a1, .int (zI sd), .ref a3, .ref a4, .int (zI dM), .int (zI lM), .int (zI hM), .ref a8, .ref a9, .ref a10, .int (zI (um : Int)), .int (zI (ua : Int)), .ref a13, .ref a14, .ref a15, .ref a16])), (a0, .inl (kI, 17, .inl (aZ F))), (a13, .inl (kI, 510, .inl (aZ U)))]) [(h, .inr (6, [.ref a0, .ref a1, .int (zI sd), .ref a3, .ref a4, .int (zI dM), .int (zI lM), .int (zI hM), .ref a8, .ref a9, .ref a10, .int (zI ((um - n : Nat) : Int)), .int (zI (((ua + 30 - n) % 30 : Nat) : Int)), .ref a13, .ref a14, .ref a15, .ref a16])), (a0, .inl (kI, 17, .inl (aZ (uZ F1 i (U (17 * ((ua + 30 - n) % 30) + i)))))), (a13, .inl (kI, 510, .inl (aZ U)))] := wD
            refine lv_iinc (v := zI ((i : Int) + 1)) (lv' := [(2, .int (zI ((i : Int) + 1))), (0, .ref h), (1, .int (zI (n : Int)))]) xX xB dX6_undo_78 wl (k := 2) rfl (zI_add _ _) (by decide) rfl (fun ls wl => ?_)
            refine lv_goto (tgt := 52) xX xB dX6_undo_81 (by decide) ?_
            exact ihK (i + 1) (uZ F1 i (U (17 * ((ua + 30 - n) % 30) + i))) (by omega) (by omega) (ld_step hA) _ _ _ wP wD wS (lv_sub wl [1, 2, 0] rfl)
      exact K _ 0 F (Nat.lt_succ_self _) (by omega) (fun k hk => absurd hk (Nat.not_lt_zero k)) _ _ _ wP wD wS (lv_sub wl [1, 2, 0] rfl)
    · exact absurd h18 (by omega)
  · exact absurd h7 (by rw [decide_eq_true (by omega)]; decide)

set_option maxHeartbeats 4000000 in
set_option maxRecDepth 100000 in
theorem c_X6_seed_o (l : Launch) (D : va_G) (kI kB : ClassId) (h : Nat) (a0 : Nat) (a1 : Nat) (a3 : Nat) (a4 : Nat) (a8 : Nat) (a9 : Nat) (a10 : Nat) (a13 : Nat) (a14 : Nat) (a15 : Nat) (a16 : Nat) (sd : Int) (dM : Int) (lM : Int) (hM : Int) (um : Nat) (ua : Nat) (v : Int) (rr : -2147483648 ≤ v ∧ v ≤ 2147483647) (hb : v < 0) : gI l yX6_seed wsX6_seed ({ frames := 0, cells := 0, slots := 0, locals := 0 } : Room) D kI kB [.ref h, .int (zI v)] [(h, .inr (6, [.ref a0, .ref a1, .int (zI sd), .ref a3, .ref a4, .int (zI dM), .int (zI lM), .int (zI hM), .ref a8, .ref a9, .ref a10, .int (zI (um : Int)), .int (zI (ua : Int)), .ref a13, .ref a14, .ref a15, .ref a16]))] (zI (-1000000002)) := by
  refine g_start (cc := cX6_seed) (maxL := 3) (ret := (some .int)) (by decide) rfl (Nat.le_of_ble_eq_true rfl) ?_
  intro xp xe xs xm xbl xmt xc xX xB xR xM xT xO xL xN wP wD wK ls wl
  have wS : va_S (fun _ => False) xs.heap xs.heap [] := va_S.rf
  have wl : lv_has ls 3 [(0, .ref h), (1, .int (zI v))] := wl
  refine lv_iload_n xX xB dX6_seed_0 rfl (lv_at wl 1 rfl) ?_
  refine z_if_ge (tgt := 7) xX xB dX6_seed_1 (by decide) (by omega) (fun h1 => ?_) (fun h1 => ?_)
  · exact absurd h1 (by omega)
  · skip
    refine z_ldc xX xB (-1000000002) (by decide) xO (xT _ (List.mem_of_getElem? (i := 1) rfl)) dX6_seed_4 ?_
    exact g_iret xX xB xR xL wS dX6_seed_6 rfl

set_option maxHeartbeats 4000000 in
set_option maxRecDepth 100000 in
theorem c_X6_seed (l : Launch) (D : va_G) (kI kB : ClassId) (h : Nat) (a0 : Nat) (a1 : Nat) (a3 : Nat) (a4 : Nat) (a8 : Nat) (a9 : Nat) (a10 : Nat) (a13 : Nat) (a14 : Nat) (a15 : Nat) (a16 : Nat) (sd : Int) (dM : Int) (lM : Int) (hM : Int) (um : Nat) (ua : Nat) (v : Int) (rr : -2147483648 ≤ v ∧ v ≤ 2147483647) (hb : 0 ≤ v) : gM l yX6_seed wsX6_seed ({ frames := 0, cells := 0, slots := 0, locals := 0 } : Room) D kI kB [.ref h, .int (zI v)] [(h, .inr (6, [.ref a0, .ref a1, .int (zI sd), .ref a3, .ref a4, .int (zI dM), .int (zI lM), .int (zI hM), .ref a8, .ref a9, .ref a10, .int (zI (um : Int)), .int (zI (ua : Int)), .ref a13, .ref a14, .ref a15, .ref a16]))] (fun (_ : Unit) => [(h, .inr (6, [.ref a0, .ref a1, .int (zI v), .ref a3, .ref a4, .int (zI dM), .int (zI lM), .int (zI hM), .ref a8, .ref a9, .ref a10, .int (zI (um : Int)), .int (zI (ua : Int)), .ref a13, .ref a14, .ref a15, .ref a16]))]) (fun (r : Int32) (_ : Unit) => r = zI sd ∧ True) := by
  refine g_start (cc := cX6_seed) (maxL := 3) (ret := (some .int)) (by decide) rfl (Nat.le_of_ble_eq_true rfl) ?_
  intro xp xe xs xm xbl xmt xc xX xB xR xM xT xO xL xN wP wD wK ls wl
  have wS : va_S (gA [(h, .inr (6, [.ref a0, .ref a1, .int (zI sd), .ref a3, .ref a4, .int (zI dM), .int (zI lM), .int (zI hM), .ref a8, .ref a9, .ref a10, .int (zI (um : Int)), .int (zI (ua : Int)), .ref a13, .ref a14, .ref a15, .ref a16]))]) xs.heap xs.heap [] := va_S.rf
  have wl : lv_has ls 3 [(0, .ref h), (1, .int (zI v))] := wl
  refine lv_iload_n xX xB dX6_seed_0 rfl (lv_at wl 1 rfl) ?_
  refine z_if_ge (tgt := 7) xX xB dX6_seed_1 (by decide) (by omega) (fun h1 => ?_) (fun h1 => ?_)
  · skip
    refine lv_aload_n xX xB dX6_seed_7 rfl (lv_at wl 0 rfl) ?_
    refine va_get (D := D) (ci := 6) (v := .int (zI sd)) (C := RX6) (T := TX6) (N := 17) xX xB xT in_X6_seed_X6 xO wK.1 wP 0 rfl rfl 2 (by decide) (xT _ (List.mem_of_getElem? (i := 2) rfl)) (fun _ h9 => h9) rfl dX6_seed_8 ?_
    refine lv_istore_n (lv' := [(2, .int (zI sd)), (0, .ref h), (1, .int (zI v))]) xX xB dX6_seed_11 rfl wl (by decide) rfl (fun ls wl => ?_)
    refine lv_aload_n xX xB dX6_seed_12 rfl (lv_at wl 1 rfl) ?_
    refine lv_iload_n xX xB dX6_seed_13 rfl (lv_at wl 2 rfl) ?_
    refine va_put (D := D) (ci := 6) (v := .int (zI v)) (ty := .int) (C := RX6) (T := TX6) (N := 17) xX xB xT in_X6_seed_X6 tyX6 tyX6_ok nmX6 xO wK.1 wP wD wS 0 rfl rfl 2 (by decide) (xT _ (List.mem_of_getElem? (i := 2) rfl)) (fun _ h9 => h9) rfl (by decide +kernel) rfl rfl (Nat.le_of_ble_eq_true rfl) dX6_seed_14 (fun H locs wP wD wS => ?_)
    have wP : va_P D gC [(h, .inr (6, [.ref a0, .ref a1, .int (zI v), .ref a3, .ref a4, .int (zI dM), .int (zI lM), .int (zI hM), .ref a8, .ref a9, .ref a10, .int (zI (um : Int)), .int (zI (ua : Int)), .ref a13, .ref a14, .ref a15, .ref a16]))] H := wP
    have wD : va_D (gA [(h, .inr (6, [.ref a0, .ref a1, .int (zI sd), .ref a3, .ref a4, .int (zI dM), .int (zI lM), .int (zI hM), .ref a8, .ref a9, .ref a10, .int (zI (um : Int)), .int (zI (ua : Int)), .ref a13, .ref a14, .ref a15, .ref a16]))]) [(h, .inr (6, [.ref a0, .ref a1, .int (zI v), .ref a3, .ref a4, .int (zI dM), .int (zI lM), .int (zI hM), .ref a8, .ref a9, .ref a10, .int (zI (um : Int)), .int (zI (ua : Int)), .ref a13, .ref a14, .ref a15, .ref a16]))] := wD
    refine lv_iload_n xX xB dX6_seed_17 rfl (lv_at wl 0 rfl) ?_
    exact g_mret () xX xB xR xL wP wS dX6_seed_18 ⟨rfl, trivial⟩
  · exact absurd h1 (by omega)

set_option maxHeartbeats 4000000 in
set_option maxRecDepth 100000 in
theorem c_X6_keep_u (l : Launch) (D : va_G) (kI kB : ClassId) (h : Nat) (a0 : Nat) (a1 : Nat) (a3 : Nat) (a4 : Nat) (a8 : Nat) (a9 : Nat) (a10 : Nat) (a13 : Nat) (a14 : Nat) (a15 : Nat) (a16 : Nat) (sd : Int) (dM : Int) (lM : Int) (hM : Int) (um : Nat) (ua : Nat) (i : Int) (rr : -2147483648 ≤ i ∧ i ≤ 2147483647) (hb : ¬ (0 ≤ i ∧ i ≤ 1)) : gI l yX6_keep wsX6_keep ({ frames := 1, cells := 0, slots := 0, locals := 22 } : Room) D kI kB [.ref h, .int (zI i)] [(h, .inr (6, [.ref a0, .ref a1, .int (zI sd), .ref a3, .ref a4, .int (zI dM), .int (zI lM), .int (zI hM), .ref a8, .ref a9, .ref a10, .int (zI (um : Int)), .int (zI (ua : Int)), .ref a13, .ref a14, .ref a15, .ref a16]))] (zI (-1000000001)) := by
  refine g_start (cc := cX6_keep) (maxL := 3) (ret := (some .int)) (by decide) rfl (Nat.le_of_ble_eq_true rfl) ?_
  intro xp xe xs xm xbl xmt xc xX xB xR xM xT xO xL xN wP wD wK ls wl
  have wS : va_S (fun _ => False) xs.heap xs.heap [] := va_S.rf
  have wl : lv_has ls 3 [(0, .ref h), (1, .int (zI i))] := wl
  refine lv_iload_n xX xB dX6_keep_0 rfl (lv_at wl 1 rfl) ?_
  refine z_iconst xX xB dX6_keep_1 ?_
  refine z_iconst xX xB dX6_keep_2 ?_
  refine g_pure (va_runS (As := [.int (zI i), .int (zI 0), .int (zI 1)]) (rest := []) ⟨xX, xB, xM, xO, xT⟩ (c_X6_in l D kI kB i 0 1 (by omega) (by omega) (by omega)) (va_cwS 3 xT gX6_keep_X6_in rfl rfl rfl hdn_X6_in ⟨Nat.le_of_ble_eq_true rfl, Nat.le_of_ble_eq_true rfl⟩) (g_preS wP wD wK [] (by decide) rfl) rfl rfl wl.1 rfl (lv_room (Nat.le_of_ble_eq_true rfl)) dX6_keep_3 ⟨Nat.le_of_ble_eq_true rfl, Nat.le_of_ble_eq_true rfl⟩) wP wS (fun H locs wP wS => ?_)
  refine b_if_ne (tgt := 12) xX xB dX6_keep_6 (by decide) (fun h6 => ?_) (fun h6 => ?_)
  · exact absurd h6 (by rw [decide_eq_false hb]; decide)
  · skip
    refine z_ldc xX xB (-1000000001) (by decide) xO (xT _ (List.mem_of_getElem? (i := 1) rfl)) dX6_keep_9 ?_
    exact g_iret xX xB xR xL wS dX6_keep_11 rfl

set_option maxHeartbeats 4000000 in
set_option maxRecDepth 100000 in
theorem c_X6_keep (l : Launch) (D : va_G) (kI kB : ClassId) (h : Nat) (a0 : Nat) (a1 : Nat) (a3 : Nat) (a4 : Nat) (a8 : Nat) (a9 : Nat) (a10 : Nat) (a13 : Nat) (a14 : Nat) (a15 : Nat) (a16 : Nat) (sd : Int) (dM : Int) (lM : Int) (hM : Int) (um : Nat) (ua : Nat) (F : Nat → Int) (KB : Nat → Bool) (KP : Nat → Int) (KS : Nat → Int) (im : Nat) (him : im < 2) : gM l yX6_keep wsX6_keep ({ frames := 1, cells := 0, slots := 0, locals := 22 } : Room) D kI kB [.ref h, .int (zI (im : Int))] [(h, .inr (6, [.ref a0, .ref a1, .int (zI sd), .ref a3, .ref a4, .int (zI dM), .int (zI lM), .int (zI hM), .ref a8, .ref a9, .ref a10, .int (zI (um : Int)), .int (zI (ua : Int)), .ref a13, .ref a14, .ref a15, .ref a16])), (a0, .inl (kI, 17, .inl (aZ F))), (a14, .inl (kB, 2, .inl (aB KB))), (a15, .inl (kI, 34, .inl (aZ KP))), (a16, .inl (kI, 2, .inl (aZ KS)))] (fun (KP1 : Nat → Int) => [(h, .inr (6, [.ref a0, .ref a1, .int (zI sd), .ref a3, .ref a4, .int (zI dM), .int (zI lM), .int (zI hM), .ref a8, .ref a9, .ref a10, .int (zI 0), .int (zI (ua : Int)), .ref a13, .ref a14, .ref a15, .ref a16])), (a0, .inl (kI, 17, .inl (aZ F))), (a14, .inl (kB, 2, .inl (aB (uB KB im true)))), (a15, .inl (kI, 34, .inl (aZ KP1))), (a16, .inl (kI, 2, .inl (aZ (uZ KS im sd))))]) (fun (r : Int32) (KP1 : Nat → Int) => r = zI 1 ∧ (∀ k, k < 34 → KP1 k = pushN KP F im 17 k)) := by
  refine g_start (cc := cX6_keep) (maxL := 3) (ret := (some .int)) (by decide) rfl (Nat.le_of_ble_eq_true rfl) ?_
  intro xp xe xs xm xbl xmt xc xX xB xR xM xT xO xL xN wP wD wK ls wl
  have wS : va_S (gA [(h, .inr (6, [.ref a0, .ref a1, .int (zI sd), .ref a3, .ref a4, .int (zI dM), .int (zI lM), .int (zI hM), .ref a8, .ref a9, .ref a10, .int (zI (um : Int)), .int (zI (ua : Int)), .ref a13, .ref a14, .ref a15, .ref a16])), (a0, .inl (kI, 17, .inl (aZ F))), (a14, .inl (kB, 2, .inl (aB KB))), (a15, .inl (kI, 34, .inl (aZ KP))), (a16, .inl (kI, 2, .inl (aZ KS)))]) xs.heap xs.heap [] := va_S.rf
  have wl : lv_has ls 3 [(0, .ref h), (1, .int (zI (im : Int)))] := wl
  generalize hQ : MQ xbl _ _ xs 0 0 _ = xQ
  refine lv_iload_n xX xB dX6_keep_0 rfl (lv_at wl 1 rfl) ?_
  refine z_iconst xX xB dX6_keep_1 ?_
  refine z_iconst xX xB dX6_keep_2 ?_
  refine g_pure (va_runS (As := [.int (zI (im : Int)), .int (zI 0), .int (zI 1)]) (rest := []) ⟨xX, xB, xM, xO, xT⟩ (c_X6_in l D kI kB (im : Int) 0 1 (by omega) (by omega) (by omega)) (va_cwS 3 xT gX6_keep_X6_in rfl rfl rfl hdn_X6_in ⟨Nat.le_of_ble_eq_true rfl, Nat.le_of_ble_eq_true rfl⟩) (g_preS wP wD wK [] (by decide) rfl) rfl rfl wl.1 rfl (lv_room (Nat.le_of_ble_eq_true rfl)) dX6_keep_3 ⟨Nat.le_of_ble_eq_true rfl, Nat.le_of_ble_eq_true rfl⟩) wP wS (fun H locs wP wS => ?_)
  refine b_if_ne (tgt := 12) xX xB dX6_keep_6 (by decide) (fun h6 => ?_) (fun h6 => ?_)
  · skip
    refine lv_aload_n xX xB dX6_keep_12 rfl (lv_at wl 0 rfl) ?_
    refine va_get (D := D) (ci := 6) (v := .ref a14) (C := RX6) (T := TX6) (N := 17) xX xB xT in_X6_keep_X6 xO wK.1 wP 0 rfl rfl 14 (by decide) (xT _ (List.mem_of_getElem? (i := 2) rfl)) (fun _ h9 => h9) rfl dX6_keep_13 ?_
    refine lv_iload_n xX xB dX6_keep_16 rfl (lv_at wl 1 rfl) ?_
    refine z_iconst xX xB dX6_keep_17 ?_
    refine lv_ri (y := bI true) rfl ?_
    refine z_bast xX xB wK wP wD wS 2 rfl im rfl (by omega) (Nat.le_of_ble_eq_true rfl) dX6_keep_18 (fun H locs wP wD wS => ?_)
    have wP : va_P D gC [(h, .inr (6, [.ref a0, .ref a1, .int (zI sd), .ref a3, .ref a4, .int (zI dM), .int (zI lM), .int (zI hM), .ref a8, .ref a9, .ref a10, .int (zI (um : Int)), .int (zI (ua : Int)), .ref a13, .ref a14, .ref a15, .ref a16])), (a0, .inl (kI, 17, .inl (aZ F))), (a14, .inl (kB, 2, .inl (aB (uB KB im true)))), (a15, .inl (kI, 34, .inl (aZ KP))), (a16, .inl (kI, 2, .inl (aZ KS)))] H := wP
    have wD : va_D (gA [(h, .inr (6, [.ref a0, .ref a1, .int (zI sd), .ref a3, .ref a4, .int (zI dM), .int (zI lM), .int (zI hM), .ref a8, .ref a9, .ref a10, .int (zI (um : Int)), .int (zI (ua : Int)), .ref a13, .ref a14, .ref a15, .ref a16])), (a0, .inl (kI, 17, .inl (aZ F))), (a14, .inl (kB, 2, .inl (aB KB))), (a15, .inl (kI, 34, .inl (aZ KP))), (a16, .inl (kI, 2, .inl (aZ KS)))]) [(h, .inr (6, [.ref a0, .ref a1, .int (zI sd), .ref a3, .ref a4, .int (zI dM), .int (zI lM), .int (zI hM), .ref a8, .ref a9, .ref a10, .int (zI (um : Int)), .int (zI (ua : Int)), .ref a13, .ref a14, .ref a15, .ref a16])), (a0, .inl (kI, 17, .inl (aZ F))), (a14, .inl (kB, 2, .inl (aB (uB KB im true)))), (a15, .inl (kI, 34, .inl (aZ KP))), (a16, .inl (kI, 2, .inl (aZ KS)))] := wD
    refine lv_aload_n xX xB dX6_keep_19 rfl (lv_at wl 0 rfl) ?_
    refine va_get (D := D) (ci := 6) (v := .ref a16) (C := RX6) (T := TX6) (N := 17) xX xB xT in_X6_keep_X6 xO wK.1 wP 0 rfl rfl 16 (by decide) (xT _ (List.mem_of_getElem? (i := 3) rfl)) (fun _ h9 => h9) rfl dX6_keep_20 ?_
    refine lv_iload_n xX xB dX6_keep_23 rfl (lv_at wl 1 rfl) ?_
    refine lv_aload_n xX xB dX6_keep_24 rfl (lv_at wl 0 rfl) ?_
    refine va_get (D := D) (ci := 6) (v := .int (zI sd)) (C := RX6) (T := TX6) (N := 17) xX xB xT in_X6_keep_X6 xO wK.1 wP 0 rfl rfl 2 (by decide) (xT _ (List.mem_of_getElem? (i := 4) rfl)) (fun _ h9 => h9) rfl dX6_keep_25 ?_
    refine z_iast xX xB wK wP wD wS 4 rfl im rfl (by omega) (Nat.le_of_ble_eq_true rfl) dX6_keep_28 (fun H locs wP wD wS => ?_)
    have wP : va_P D gC [(h, .inr (6, [.ref a0, .ref a1, .int (zI sd), .ref a3, .ref a4, .int (zI dM), .int (zI lM), .int (zI hM), .ref a8, .ref a9, .ref a10, .int (zI (um : Int)), .int (zI (ua : Int)), .ref a13, .ref a14, .ref a15, .ref a16])), (a0, .inl (kI, 17, .inl (aZ F))), (a14, .inl (kB, 2, .inl (aB (uB KB im true)))), (a15, .inl (kI, 34, .inl (aZ KP))), (a16, .inl (kI, 2, .inl (aZ (uZ KS im sd))))] H := wP
    have wD : va_D (gA [(h, .inr (6, [.ref a0, .ref a1, .int (zI sd), .ref a3, .ref a4, .int (zI dM), .int (zI lM), .int (zI hM), .ref a8, .ref a9, .ref a10, .int (zI (um : Int)), .int (zI (ua : Int)), .ref a13, .ref a14, .ref a15, .ref a16])), (a0, .inl (kI, 17, .inl (aZ F))), (a14, .inl (kB, 2, .inl (aB KB))), (a15, .inl (kI, 34, .inl (aZ KP))), (a16, .inl (kI, 2, .inl (aZ KS)))]) [(h, .inr (6, [.ref a0, .ref a1, .int (zI sd), .ref a3, .ref a4, .int (zI dM), .int (zI lM), .int (zI hM), .ref a8, .ref a9, .ref a10, .int (zI (um : Int)), .int (zI (ua : Int)), .ref a13, .ref a14, .ref a15, .ref a16])), (a0, .inl (kI, 17, .inl (aZ F))), (a14, .inl (kB, 2, .inl (aB (uB KB im true)))), (a15, .inl (kI, 34, .inl (aZ KP))), (a16, .inl (kI, 2, .inl (aZ (uZ KS im sd))))] := wD
    refine z_iconst xX xB dX6_keep_29 ?_
    refine lv_istore_n (lv' := [(2, .int (zI 0)), (0, .ref h), (1, .int (zI (im : Int)))]) xX xB dX6_keep_30 rfl wl (by decide) rfl (fun ls wl => ?_)
    have K : ∀ n_ : Nat, ∀ (i : Nat) (KP1 : Nat → Int), 17 - i < n_ → (i ≤ 17) → (∀ k, k < 34 → KP1 k = pushN KP F im i k) → ∀ (H : Heap) (locs : List Loc) (ls : Array Slot), va_P D gC [(h, .inr (6, [.ref a0, .ref a1, .int (zI sd), .ref a3, .ref a4, .int (zI dM), .int (zI lM), .int (zI hM), .ref a8, .ref a9, .ref a10, .int (zI (um : Int)), .int (zI (ua : Int)), .ref a13, .ref a14, .ref a15, .ref a16])), (a0, .inl (kI, 17, .inl (aZ F))), (a14, .inl (kB, 2, .inl (aB (uB KB im true)))), (a15, .inl (kI, 34, .inl (aZ KP1))), (a16, .inl (kI, 2, .inl (aZ (uZ KS im sd))))] H → va_D (gA [(h, .inr (6, [.ref a0, .ref a1, .int (zI sd), .ref a3, .ref a4, .int (zI dM), .int (zI lM), .int (zI hM), .ref a8, .ref a9, .ref a10, .int (zI (um : Int)), .int (zI (ua : Int)), .ref a13, .ref a14, .ref a15, .ref a16])), (a0, .inl (kI, 17, .inl (aZ F))), (a14, .inl (kB, 2, .inl (aB KB))), (a15, .inl (kI, 34, .inl (aZ KP))), (a16, .inl (kI, 2, .inl (aZ KS)))]) [(h, .inr (6, [.ref a0, .ref a1, .int (zI sd), .ref a3, .ref a4, .int (zI dM), .int (zI lM), .int (zI hM), .ref a8, .ref a9, .ref a10, .int (zI (um : Int)), .int (zI (ua : Int)), .ref a13, .ref a14, .ref a15, .ref a16])), (a0, .inl (kI, 17, .inl (aZ F))), (a14, .inl (kB, 2, .inl (aB (uB KB im true)))), (a15, .inl (kI, 34, .inl (aZ KP1))), (a16, .inl (kI, 2, .inl (aZ (uZ KS im sd))))] → va_S (gA [(h, .inr (6, [.ref a0, .ref a1, .int (zI sd), .ref a3, .ref a4, .int (zI dM), .int (zI lM), .int (zI hM), .ref a8, .ref a9, .ref a10, .int (zI (um : Int)), .int (zI (ua : Int)), .ref a13, .ref a14, .ref a15, .ref a16])), (a0, .inl (kI, 17, .inl (aZ F))), (a14, .inl (kB, 2, .inl (aB KB))), (a15, .inl (kI, 34, .inl (aZ KP))), (a16, .inl (kI, 2, .inl (aZ KS)))]) xs.heap H locs → lv_has ls 3 [(0, .ref h), (1, .int (zI (im : Int))), (2, .int (zI (i : Int)))] → W xp l xe ({ frames := 1, cells := 0, slots := 0, locals := 22 } : Room) xs xm (List.toArray [.ref h, .int (zI (im : Int))]) xbl xmt xc H locs 0 0 xQ (F0 xm 31 ls []) := by
      intro n_
      induction n_ with
      | zero =>
        intro i KP1 hme
        exact absurd hme (Nat.not_lt_zero _)
      | succ n_ ihK =>
        intro i KP1 hme hi hU H locs ls wP wD wS wl
        refine lv_iload_n xX xB dX6_keep_31 rfl (lv_at wl 2 rfl) ?_
        refine z_bipush xX xB dX6_keep_32 (by decide) ?_
        refine z_icmp_ge (tgt := 60) xX xB dX6_keep_34 (by decide) (by omega) (by omega) (fun h34 => ?_) (fun h34 => ?_)
        · skip
          refine lv_aload_n xX xB dX6_keep_60 rfl (lv_at wl 0 rfl) ?_
          refine z_iconst xX xB dX6_keep_61 ?_
          refine va_put (D := D) (ci := 6) (v := .int (zI 0)) (ty := .int) (C := RX6) (T := TX6) (N := 17) xX xB xT in_X6_keep_X6 tyX6 tyX6_ok nmX6 xO wK.1 wP wD wS 0 rfl rfl 11 (by decide) (xT _ (List.mem_of_getElem? (i := 7) rfl)) (fun _ h9 => h9) rfl (by decide +kernel) rfl rfl (Nat.le_of_ble_eq_true rfl) dX6_keep_62 (fun H locs wP wD wS => ?_)
          have wP : va_P D gC [(h, .inr (6, [.ref a0, .ref a1, .int (zI sd), .ref a3, .ref a4, .int (zI dM), .int (zI lM), .int (zI hM), .ref a8, .ref a9, .ref a10, .int (zI 0), .int (zI (ua : Int)), .ref a13, .ref a14, .ref a15, .ref a16])), (a0, .inl (kI, 17, .inl (aZ F))), (a14, .inl (kB, 2, .inl (aB (uB KB im true)))), (a15, .inl (kI, 34, .inl (aZ KP1))), (a16, .inl (kI, 2, .inl (aZ (uZ KS im sd))))] H := wP
          have wD : va_D (gA [(h, .inr (6, [.ref a0, .ref a1, .int (zI sd), .ref a3, .ref a4, .int (zI dM), .int (zI lM), .int (zI hM), .ref a8, .ref a9, .ref a10, .int (zI (um : Int)), .int (zI (ua : Int)), .ref a13, .ref a14, .ref a15, .ref a16])), (a0, .inl (kI, 17, .inl (aZ F))), (a14, .inl (kB, 2, .inl (aB KB))), (a15, .inl (kI, 34, .inl (aZ KP))), (a16, .inl (kI, 2, .inl (aZ KS)))]) [(h, .inr (6, [.ref a0, .ref a1, .int (zI sd), .ref a3, .ref a4, .int (zI dM), .int (zI lM), .int (zI hM), .ref a8, .ref a9, .ref a10, .int (zI 0), .int (zI (ua : Int)), .ref a13, .ref a14, .ref a15, .ref a16])), (a0, .inl (kI, 17, .inl (aZ F))), (a14, .inl (kB, 2, .inl (aB (uB KB im true)))), (a15, .inl (kI, 34, .inl (aZ KP1))), (a16, .inl (kI, 2, .inl (aZ (uZ KS im sd))))] := wD
          refine z_iconst xX xB dX6_keep_65 ?_
          subst hQ
          exact g_mret KP1 xX xB xR xL wP wS dX6_keep_66 ⟨rfl, by rw [show i = 17 by omega] at hU; exact hU⟩
        · skip
          refine lv_aload_n xX xB dX6_keep_37 rfl (lv_at wl 0 rfl) ?_
          refine va_get (D := D) (ci := 6) (v := .ref a15) (C := RX6) (T := TX6) (N := 17) xX xB xT in_X6_keep_X6 xO wK.1 wP 0 rfl rfl 15 (by decide) (xT _ (List.mem_of_getElem? (i := 5) rfl)) (fun _ h9 => h9) rfl dX6_keep_38 ?_
          refine z_bipush xX xB dX6_keep_41 (by decide) ?_
          refine lv_iload_n xX xB dX6_keep_43 rfl (lv_at wl 1 rfl) ?_
          refine z_imul xX xB dX6_keep_44 ?_
          refine lv_iload_n xX xB dX6_keep_45 rfl (lv_at wl 2 rfl) ?_
          refine z_iadd xX xB dX6_keep_46 ?_
          refine lv_aload_n xX xB dX6_keep_47 rfl (lv_at wl 0 rfl) ?_
          refine va_get (D := D) (ci := 6) (v := .ref a0) (C := RX6) (T := TX6) (N := 17) xX xB xT in_X6_keep_X6 xO wK.1 wP 0 rfl rfl 0 (by decide) (xT _ (List.mem_of_getElem? (i := 6) rfl)) (fun _ h9 => h9) rfl dX6_keep_48 ?_
          refine lv_iload_n xX xB dX6_keep_51 rfl (lv_at wl 2 rfl) ?_
          refine z_iald xX xB wK wP 1 rfl i rfl (by omega) (Nat.le_of_ble_eq_true rfl) dX6_keep_52 ?_
          refine z_iast xX xB wK wP wD wS 3 rfl ((17 * im) + i) (by omega) (by omega) (Nat.le_of_ble_eq_true rfl) dX6_keep_53 (fun H locs wP wD wS => ?_)
          have wP : va_P D gC [(h, .inr (6, [.ref a0, .ref a1, .int (zI sd), .ref a3, .ref a4, .int (zI dM), .int (zI lM), .int (zI hM), .ref a8, .ref a9, .ref a10, .int (zI (um : Int)), .int (zI (ua : Int)), .ref a13, .ref a14, .ref a15, .ref a16])), (a0, .inl (kI, 17, .inl (aZ F))), (a14, .inl (kB, 2, .inl (aB (uB KB im true)))), (a15, .inl (kI, 34, .inl (aZ (uZ KP1 ((17 * im) + i) (F i))))), (a16, .inl (kI, 2, .inl (aZ (uZ KS im sd))))] H := wP
          have wD : va_D (gA [(h, .inr (6, [.ref a0, .ref a1, .int (zI sd), .ref a3, .ref a4, .int (zI dM), .int (zI lM), .int (zI hM), .ref a8, .ref a9, .ref a10, .int (zI (um : Int)), .int (zI (ua : Int)), .ref a13, .ref a14, .ref a15, .ref a16])), (a0, .inl (kI, 17, .inl (aZ F))), (a14, .inl (kB, 2, .inl (aB KB))), (a15, .inl (kI, 34, .inl (aZ KP))), (a16, .inl (kI, 2, .inl (aZ KS)))]) [(h, .inr (6, [.ref a0, .ref a1, .int (zI sd), .ref a3, .ref a4, .int (zI dM), .int (zI lM), .int (zI hM), .ref a8, .ref a9, .ref a10, .int (zI (um : Int)), .int (zI (ua : Int)), .ref a13, .ref a14, .ref a15, .ref a16])), (a0, .inl (kI, 17, .inl (aZ F))), (a14, .inl (kB, 2, .inl (aB (uB KB im true)))), (a15, .inl (kI, 34, .inl (aZ (uZ KP1 ((17 * im) + i) (F i))))), (a16, .inl (kI, 2, .inl (aZ (uZ KS im sd))))] := wD
          refine lv_iinc (v := zI ((i : Int) + 1)) (lv' := [(2, .int (zI ((i : Int) + 1))), (0, .ref h), (1, .int (zI (im : Int)))]) xX xB dX6_keep_54 wl (k := 2) rfl (zI_add _ _) (by decide) rfl (fun ls wl => ?_)
          refine lv_goto (tgt := 31) xX xB dX6_keep_57 (by decide) ?_
          exact ihK (i + 1) (uZ KP1 ((17 * im) + i) (F i)) (by omega) (by omega) (push_step34 hU) _ _ _ wP wD wS (lv_sub wl [1, 2, 0] rfl)
    exact K _ 0 KP (Nat.lt_succ_self _) (by omega) (fun k hk => by unfold pushN; rw [if_neg (by omega)]) _ _ _ wP wD wS (lv_sub wl [1, 2, 0] rfl)
  · exact absurd h6 (by rw [decide_eq_true (by omega)]; decide)

set_option maxHeartbeats 4000000 in
set_option maxRecDepth 100000 in
theorem c_X6_goBack_u (l : Launch) (D : va_G) (kI kB : ClassId) (h : Nat) (a0 : Nat) (a1 : Nat) (a3 : Nat) (a4 : Nat) (a8 : Nat) (a9 : Nat) (a10 : Nat) (a13 : Nat) (a14 : Nat) (a15 : Nat) (a16 : Nat) (sd : Int) (dM : Int) (lM : Int) (hM : Int) (um : Nat) (ua : Nat) (i : Int) (rr : -2147483648 ≤ i ∧ i ≤ 2147483647) (hb : ¬ (0 ≤ i ∧ i ≤ 1)) : gI l yX6_goBack wsX6_goBack ({ frames := 1, cells := 0, slots := 0, locals := 22 } : Room) D kI kB [.ref h, .int (zI i)] [(h, .inr (6, [.ref a0, .ref a1, .int (zI sd), .ref a3, .ref a4, .int (zI dM), .int (zI lM), .int (zI hM), .ref a8, .ref a9, .ref a10, .int (zI (um : Int)), .int (zI (ua : Int)), .ref a13, .ref a14, .ref a15, .ref a16]))] (zI (-1000000001)) := by
  refine g_start (cc := cX6_goBack) (maxL := 3) (ret := (some .int)) (by decide) rfl (Nat.le_of_ble_eq_true rfl) ?_
  intro xp xe xs xm xbl xmt xc xX xB xR xM xT xO xL xN wP wD wK ls wl
  have wS : va_S (fun _ => False) xs.heap xs.heap [] := va_S.rf
  have wl : lv_has ls 3 [(0, .ref h), (1, .int (zI i))] := wl
  refine lv_iload_n xX xB dX6_goBack_0 rfl (lv_at wl 1 rfl) ?_
  refine z_iconst xX xB dX6_goBack_1 ?_
  refine z_iconst xX xB dX6_goBack_2 ?_
  refine g_pure (va_runS (As := [.int (zI i), .int (zI 0), .int (zI 1)]) (rest := []) ⟨xX, xB, xM, xO, xT⟩ (c_X6_in l D kI kB i 0 1 (by omega) (by omega) (by omega)) (va_cwS 3 xT gX6_goBack_X6_in rfl rfl rfl hdn_X6_in ⟨Nat.le_of_ble_eq_true rfl, Nat.le_of_ble_eq_true rfl⟩) (g_preS wP wD wK [] (by decide) rfl) rfl rfl wl.1 rfl (lv_room (Nat.le_of_ble_eq_true rfl)) dX6_goBack_3 ⟨Nat.le_of_ble_eq_true rfl, Nat.le_of_ble_eq_true rfl⟩) wP wS (fun H locs wP wS => ?_)
  refine b_if_ne (tgt := 12) xX xB dX6_goBack_6 (by decide) (fun h6 => ?_) (fun h6 => ?_)
  · exact absurd h6 (by rw [decide_eq_false hb]; decide)
  · skip
    refine z_ldc xX xB (-1000000001) (by decide) xO (xT _ (List.mem_of_getElem? (i := 1) rfl)) dX6_goBack_9 ?_
    exact g_iret xX xB xR xL wS dX6_goBack_11 rfl

set_option maxHeartbeats 4000000 in
set_option maxRecDepth 100000 in
theorem c_X6_goBack_n (l : Launch) (D : va_G) (kI kB : ClassId) (h : Nat) (a0 : Nat) (a1 : Nat) (a3 : Nat) (a4 : Nat) (a8 : Nat) (a9 : Nat) (a10 : Nat) (a13 : Nat) (a14 : Nat) (a15 : Nat) (a16 : Nat) (sd : Int) (dM : Int) (lM : Int) (hM : Int) (um : Nat) (ua : Nat) (KB : Nat → Bool) (im : Nat) (him : im < 2) (hb : KB im = false) : gI l yX6_goBack wsX6_goBack ({ frames := 1, cells := 0, slots := 0, locals := 22 } : Room) D kI kB [.ref h, .int (zI (im : Int))] [(h, .inr (6, [.ref a0, .ref a1, .int (zI sd), .ref a3, .ref a4, .int (zI dM), .int (zI lM), .int (zI hM), .ref a8, .ref a9, .ref a10, .int (zI (um : Int)), .int (zI (ua : Int)), .ref a13, .ref a14, .ref a15, .ref a16])), (a14, .inl (kB, 2, .inl (aB KB)))] (zI (-1000000003)) := by
  refine g_start (cc := cX6_goBack) (maxL := 3) (ret := (some .int)) (by decide) rfl (Nat.le_of_ble_eq_true rfl) ?_
  intro xp xe xs xm xbl xmt xc xX xB xR xM xT xO xL xN wP wD wK ls wl
  have wS : va_S (fun _ => False) xs.heap xs.heap [] := va_S.rf
  have wl : lv_has ls 3 [(0, .ref h), (1, .int (zI (im : Int)))] := wl
  refine lv_iload_n xX xB dX6_goBack_0 rfl (lv_at wl 1 rfl) ?_
  refine z_iconst xX xB dX6_goBack_1 ?_
  refine z_iconst xX xB dX6_goBack_2 ?_
  refine g_pure (va_runS (As := [.int (zI (im : Int)), .int (zI 0), .int (zI 1)]) (rest := []) ⟨xX, xB, xM, xO, xT⟩ (c_X6_in l D kI kB (im : Int) 0 1 (by omega) (by omega) (by omega)) (va_cwS 3 xT gX6_goBack_X6_in rfl rfl rfl hdn_X6_in ⟨Nat.le_of_ble_eq_true rfl, Nat.le_of_ble_eq_true rfl⟩) (g_preS wP wD wK [] (by decide) rfl) rfl rfl wl.1 rfl (lv_room (Nat.le_of_ble_eq_true rfl)) dX6_goBack_3 ⟨Nat.le_of_ble_eq_true rfl, Nat.le_of_ble_eq_true rfl⟩) wP wS (fun H locs wP wS => ?_)
  refine b_if_ne (tgt := 12) xX xB dX6_goBack_6 (by decide) (fun h6 => ?_) (fun h6 => ?_)
  · skip
    refine lv_aload_n xX xB dX6_goBack_12 rfl (lv_at wl 0 rfl) ?_
    refine va_get (D := D) (ci := 6) (v := .ref a14) (C := RX6) (T := TX6) (N := 17) xX xB xT in_X6_goBack_X6 xO wK.1 wP 0 rfl rfl 14 (by decide) (xT _ (List.mem_of_getElem? (i := 2) rfl)) (fun _ h9 => h9) rfl dX6_goBack_13 ?_
    refine lv_iload_n xX xB dX6_goBack_16 rfl (lv_at wl 1 rfl) ?_
    refine z_bald xX xB wK wP 1 rfl im rfl (by omega) (Nat.le_of_ble_eq_true rfl) dX6_goBack_17 ?_
    refine b_if_ne (tgt := 24) xX xB dX6_goBack_18 (by decide) (fun h18 => ?_) (fun h18 => ?_)
    · exact absurd h18 (by rw [hb]; decide)
    · skip
      refine z_ldc xX xB (-1000000003) (by decide) xO (xT _ (List.mem_of_getElem? (i := 3) rfl)) dX6_goBack_21 ?_
      exact g_iret xX xB xR xL wS dX6_goBack_23 rfl
  · exact absurd h6 (by rw [decide_eq_true (by omega)]; decide)

set_option maxHeartbeats 4000000 in
set_option maxRecDepth 100000 in
theorem c_X6_goBack (l : Launch) (D : va_G) (kI kB : ClassId) (h : Nat) (a0 : Nat) (a1 : Nat) (a3 : Nat) (a4 : Nat) (a8 : Nat) (a9 : Nat) (a10 : Nat) (a13 : Nat) (a14 : Nat) (a15 : Nat) (a16 : Nat) (sd : Int) (dM : Int) (lM : Int) (hM : Int) (um : Nat) (ua : Nat) (F : Nat → Int) (KB : Nat → Bool) (KP : Nat → Int) (KS : Nat → Int) (im : Nat) (him : im < 2) (hb : KB im = true) : gM l yX6_goBack wsX6_goBack ({ frames := 1, cells := 0, slots := 0, locals := 22 } : Room) D kI kB [.ref h, .int (zI (im : Int))] [(h, .inr (6, [.ref a0, .ref a1, .int (zI sd), .ref a3, .ref a4, .int (zI dM), .int (zI lM), .int (zI hM), .ref a8, .ref a9, .ref a10, .int (zI (um : Int)), .int (zI (ua : Int)), .ref a13, .ref a14, .ref a15, .ref a16])), (a0, .inl (kI, 17, .inl (aZ F))), (a14, .inl (kB, 2, .inl (aB KB))), (a15, .inl (kI, 34, .inl (aZ KP))), (a16, .inl (kI, 2, .inl (aZ KS)))] (fun (F1 : Nat → Int) => [(h, .inr (6, [.ref a0, .ref a1, .int (zI (KS im)), .ref a3, .ref a4, .int (zI dM), .int (zI lM), .int (zI hM), .ref a8, .ref a9, .ref a10, .int (zI 0), .int (zI (ua : Int)), .ref a13, .ref a14, .ref a15, .ref a16])), (a0, .inl (kI, 17, .inl (aZ F1))), (a14, .inl (kB, 2, .inl (aB KB))), (a15, .inl (kI, 34, .inl (aZ KP))), (a16, .inl (kI, 2, .inl (aZ KS)))]) (fun (r : Int32) (F1 : Nat → Int) => r = zI 1 ∧ (∀ k, k < 17 → F1 k = KP (17 * im + k))) := by
  refine g_start (cc := cX6_goBack) (maxL := 3) (ret := (some .int)) (by decide) rfl (Nat.le_of_ble_eq_true rfl) ?_
  intro xp xe xs xm xbl xmt xc xX xB xR xM xT xO xL xN wP wD wK ls wl
  have wS : va_S (gA [(h, .inr (6, [.ref a0, .ref a1, .int (zI sd), .ref a3, .ref a4, .int (zI dM), .int (zI lM), .int (zI hM), .ref a8, .ref a9, .ref a10, .int (zI (um : Int)), .int (zI (ua : Int)), .ref a13, .ref a14, .ref a15, .ref a16])), (a0, .inl (kI, 17, .inl (aZ F))), (a14, .inl (kB, 2, .inl (aB KB))), (a15, .inl (kI, 34, .inl (aZ KP))), (a16, .inl (kI, 2, .inl (aZ KS)))]) xs.heap xs.heap [] := va_S.rf
  have wl : lv_has ls 3 [(0, .ref h), (1, .int (zI (im : Int)))] := wl
  generalize hQ : MQ xbl _ _ xs 0 0 _ = xQ
  refine lv_iload_n xX xB dX6_goBack_0 rfl (lv_at wl 1 rfl) ?_
  refine z_iconst xX xB dX6_goBack_1 ?_
  refine z_iconst xX xB dX6_goBack_2 ?_
  refine g_pure (va_runS (As := [.int (zI (im : Int)), .int (zI 0), .int (zI 1)]) (rest := []) ⟨xX, xB, xM, xO, xT⟩ (c_X6_in l D kI kB (im : Int) 0 1 (by omega) (by omega) (by omega)) (va_cwS 3 xT gX6_goBack_X6_in rfl rfl rfl hdn_X6_in ⟨Nat.le_of_ble_eq_true rfl, Nat.le_of_ble_eq_true rfl⟩) (g_preS wP wD wK [] (by decide) rfl) rfl rfl wl.1 rfl (lv_room (Nat.le_of_ble_eq_true rfl)) dX6_goBack_3 ⟨Nat.le_of_ble_eq_true rfl, Nat.le_of_ble_eq_true rfl⟩) wP wS (fun H locs wP wS => ?_)
  refine b_if_ne (tgt := 12) xX xB dX6_goBack_6 (by decide) (fun h6 => ?_) (fun h6 => ?_)
  · skip
    refine lv_aload_n xX xB dX6_goBack_12 rfl (lv_at wl 0 rfl) ?_
    refine va_get (D := D) (ci := 6) (v := .ref a14) (C := RX6) (T := TX6) (N := 17) xX xB xT in_X6_goBack_X6 xO wK.1 wP 0 rfl rfl 14 (by decide) (xT _ (List.mem_of_getElem? (i := 2) rfl)) (fun _ h9 => h9) rfl dX6_goBack_13 ?_
    refine lv_iload_n xX xB dX6_goBack_16 rfl (lv_at wl 1 rfl) ?_
    refine z_bald xX xB wK wP 2 rfl im rfl (by omega) (Nat.le_of_ble_eq_true rfl) dX6_goBack_17 ?_
    refine b_if_ne (tgt := 24) xX xB dX6_goBack_18 (by decide) (fun h18 => ?_) (fun h18 => ?_)
    · skip
      refine lv_aload_n xX xB dX6_goBack_24 rfl (lv_at wl 0 rfl) ?_
      refine lv_aload_n xX xB dX6_goBack_25 rfl (lv_at wl 0 rfl) ?_
      refine va_get (D := D) (ci := 6) (v := .ref a16) (C := RX6) (T := TX6) (N := 17) xX xB xT in_X6_goBack_X6 xO wK.1 wP 0 rfl rfl 16 (by decide) (xT _ (List.mem_of_getElem? (i := 4) rfl)) (fun _ h9 => h9) rfl dX6_goBack_26 ?_
      refine lv_iload_n xX xB dX6_goBack_29 rfl (lv_at wl 1 rfl) ?_
      refine z_iald xX xB wK wP 4 rfl im rfl (by omega) (Nat.le_of_ble_eq_true rfl) dX6_goBack_30 ?_
      refine va_put (D := D) (ci := 6) (v := .int (zI (KS im))) (ty := .int) (C := RX6) (T := TX6) (N := 17) xX xB xT in_X6_goBack_X6 tyX6 tyX6_ok nmX6 xO wK.1 wP wD wS 0 rfl rfl 2 (by decide) (xT _ (List.mem_of_getElem? (i := 5) rfl)) (fun _ h9 => h9) rfl (by decide +kernel) rfl rfl (Nat.le_of_ble_eq_true rfl) dX6_goBack_31 (fun H locs wP wD wS => ?_)
      have wP : va_P D gC [(h, .inr (6, [.ref a0, .ref a1, .int (zI (KS im)), .ref a3, .ref a4, .int (zI dM), .int (zI lM), .int (zI hM), .ref a8, .ref a9, .ref a10, .int (zI (um : Int)), .int (zI (ua : Int)), .ref a13, .ref a14, .ref a15, .ref a16])), (a0, .inl (kI, 17, .inl (aZ F))), (a14, .inl (kB, 2, .inl (aB KB))), (a15, .inl (kI, 34, .inl (aZ KP))), (a16, .inl (kI, 2, .inl (aZ KS)))] H := wP
      have wD : va_D (gA [(h, .inr (6, [.ref a0, .ref a1, .int (zI sd), .ref a3, .ref a4, .int (zI dM), .int (zI lM), .int (zI hM), .ref a8, .ref a9, .ref a10, .int (zI (um : Int)), .int (zI (ua : Int)), .ref a13, .ref a14, .ref a15, .ref a16])), (a0, .inl (kI, 17, .inl (aZ F))), (a14, .inl (kB, 2, .inl (aB KB))), (a15, .inl (kI, 34, .inl (aZ KP))), (a16, .inl (kI, 2, .inl (aZ KS)))]) [(h, .inr (6, [.ref a0, .ref a1, .int (zI (KS im)), .ref a3, .ref a4, .int (zI dM), .int (zI lM), .int (zI hM), .ref a8, .ref a9, .ref a10, .int (zI (um : Int)), .int (zI (ua : Int)), .ref a13, .ref a14, .ref a15, .ref a16])), (a0, .inl (kI, 17, .inl (aZ F))), (a14, .inl (kB, 2, .inl (aB KB))), (a15, .inl (kI, 34, .inl (aZ KP))), (a16, .inl (kI, 2, .inl (aZ KS)))] := wD
      refine z_iconst xX xB dX6_goBack_34 ?_
      refine lv_istore_n (lv' := [(2, .int (zI 0)), (0, .ref h), (1, .int (zI (im : Int)))]) xX xB dX6_goBack_35 rfl wl (by decide) rfl (fun ls wl => ?_)
      have K : ∀ n_ : Nat, ∀ (i : Nat) (F1 : Nat → Int), 17 - i < n_ → (i ≤ 17) → (∀ k, k < i → F1 k = KP (17 * im + k)) → ∀ (H : Heap) (locs : List Loc) (ls : Array Slot), va_P D gC [(h, .inr (6, [.ref a0, .ref a1, .int (zI (KS im)), .ref a3, .ref a4, .int (zI dM), .int (zI lM), .int (zI hM), .ref a8, .ref a9, .ref a10, .int (zI (um : Int)), .int (zI (ua : Int)), .ref a13, .ref a14, .ref a15, .ref a16])), (a0, .inl (kI, 17, .inl (aZ F1))), (a14, .inl (kB, 2, .inl (aB KB))), (a15, .inl (kI, 34, .inl (aZ KP))), (a16, .inl (kI, 2, .inl (aZ KS)))] H → va_D (gA [(h, .inr (6, [.ref a0, .ref a1, .int (zI sd), .ref a3, .ref a4, .int (zI dM), .int (zI lM), .int (zI hM), .ref a8, .ref a9, .ref a10, .int (zI (um : Int)), .int (zI (ua : Int)), .ref a13, .ref a14, .ref a15, .ref a16])), (a0, .inl (kI, 17, .inl (aZ F))), (a14, .inl (kB, 2, .inl (aB KB))), (a15, .inl (kI, 34, .inl (aZ KP))), (a16, .inl (kI, 2, .inl (aZ KS)))]) [(h, .inr (6, [.ref a0, .ref a1, .int (zI (KS im)), .ref a3, .ref a4, .int (zI dM), .int (zI lM), .int (zI hM), .ref a8, .ref a9, .ref a10, .int (zI (um : Int)), .int (zI (ua : Int)), .ref a13, .ref a14, .ref a15, .ref a16])), (a0, .inl (kI, 17, .inl (aZ F1))), (a14, .inl (kB, 2, .inl (aB KB))), (a15, .inl (kI, 34, .inl (aZ KP))), (a16, .inl (kI, 2, .inl (aZ KS)))] → va_S (gA [(h, .inr (6, [.ref a0, .ref a1, .int (zI sd), .ref a3, .ref a4, .int (zI dM), .int (zI lM), .int (zI hM), .ref a8, .ref a9, .ref a10, .int (zI (um : Int)), .int (zI (ua : Int)), .ref a13, .ref a14, .ref a15, .ref a16])), (a0, .inl (kI, 17, .inl (aZ F))), (a14, .inl (kB, 2, .inl (aB KB))), (a15, .inl (kI, 34, .inl (aZ KP))), (a16, .inl (kI, 2, .inl (aZ KS)))]) xs.heap H locs → lv_has ls 3 [(0, .ref h), (1, .int (zI (im : Int))), (2, .int (zI (i : Int)))] → W xp l xe ({ frames := 1, cells := 0, slots := 0, locals := 22 } : Room) xs xm (List.toArray [.ref h, .int (zI (im : Int))]) xbl xmt xc H locs 0 0 xQ (F0 xm 36 ls []) := by
        intro n_
        induction n_ with
        | zero =>
          intro i F1 hme
          exact absurd hme (Nat.not_lt_zero _)
        | succ n_ ihK =>
          intro i F1 hme hi hA H locs ls wP wD wS wl
          refine lv_iload_n xX xB dX6_goBack_36 rfl (lv_at wl 2 rfl) ?_
          refine z_bipush xX xB dX6_goBack_37 (by decide) ?_
          refine z_icmp_ge (tgt := 65) xX xB dX6_goBack_39 (by decide) (by omega) (by omega) (fun h39 => ?_) (fun h39 => ?_)
          · skip
            refine lv_aload_n xX xB dX6_goBack_65 rfl (lv_at wl 0 rfl) ?_
            refine z_iconst xX xB dX6_goBack_66 ?_
            refine va_put (D := D) (ci := 6) (v := .int (zI 0)) (ty := .int) (C := RX6) (T := TX6) (N := 17) xX xB xT in_X6_goBack_X6 tyX6 tyX6_ok nmX6 xO wK.1 wP wD wS 0 rfl rfl 11 (by decide) (xT _ (List.mem_of_getElem? (i := 8) rfl)) (fun _ h9 => h9) rfl (by decide +kernel) rfl rfl (Nat.le_of_ble_eq_true rfl) dX6_goBack_67 (fun H locs wP wD wS => ?_)
            have wP : va_P D gC [(h, .inr (6, [.ref a0, .ref a1, .int (zI (KS im)), .ref a3, .ref a4, .int (zI dM), .int (zI lM), .int (zI hM), .ref a8, .ref a9, .ref a10, .int (zI 0), .int (zI (ua : Int)), .ref a13, .ref a14, .ref a15, .ref a16])), (a0, .inl (kI, 17, .inl (aZ F1))), (a14, .inl (kB, 2, .inl (aB KB))), (a15, .inl (kI, 34, .inl (aZ KP))), (a16, .inl (kI, 2, .inl (aZ KS)))] H := wP
            have wD : va_D (gA [(h, .inr (6, [.ref a0, .ref a1, .int (zI sd), .ref a3, .ref a4, .int (zI dM), .int (zI lM), .int (zI hM), .ref a8, .ref a9, .ref a10, .int (zI (um : Int)), .int (zI (ua : Int)), .ref a13, .ref a14, .ref a15, .ref a16])), (a0, .inl (kI, 17, .inl (aZ F))), (a14, .inl (kB, 2, .inl (aB KB))), (a15, .inl (kI, 34, .inl (aZ KP))), (a16, .inl (kI, 2, .inl (aZ KS)))]) [(h, .inr (6, [.ref a0, .ref a1, .int (zI (KS im)), .ref a3, .ref a4, .int (zI dM), .int (zI lM), .int (zI hM), .ref a8, .ref a9, .ref a10, .int (zI 0), .int (zI (ua : Int)), .ref a13, .ref a14, .ref a15, .ref a16])), (a0, .inl (kI, 17, .inl (aZ F1))), (a14, .inl (kB, 2, .inl (aB KB))), (a15, .inl (kI, 34, .inl (aZ KP))), (a16, .inl (kI, 2, .inl (aZ KS)))] := wD
            refine z_iconst xX xB dX6_goBack_70 ?_
            subst hQ
            exact g_mret F1 xX xB xR xL wP wS dX6_goBack_71 ⟨rfl, fun k hk => hA k (by omega)⟩
          · skip
            refine lv_aload_n xX xB dX6_goBack_42 rfl (lv_at wl 0 rfl) ?_
            refine va_get (D := D) (ci := 6) (v := .ref a0) (C := RX6) (T := TX6) (N := 17) xX xB xT in_X6_goBack_X6 xO wK.1 wP 0 rfl rfl 0 (by decide) (xT _ (List.mem_of_getElem? (i := 6) rfl)) (fun _ h9 => h9) rfl dX6_goBack_43 ?_
            refine lv_iload_n xX xB dX6_goBack_46 rfl (lv_at wl 2 rfl) ?_
            refine lv_aload_n xX xB dX6_goBack_47 rfl (lv_at wl 0 rfl) ?_
            refine va_get (D := D) (ci := 6) (v := .ref a15) (C := RX6) (T := TX6) (N := 17) xX xB xT in_X6_goBack_X6 xO wK.1 wP 0 rfl rfl 15 (by decide) (xT _ (List.mem_of_getElem? (i := 7) rfl)) (fun _ h9 => h9) rfl dX6_goBack_48 ?_
            refine z_bipush xX xB dX6_goBack_51 (by decide) ?_
            refine lv_iload_n xX xB dX6_goBack_53 rfl (lv_at wl 1 rfl) ?_
            refine z_imul xX xB dX6_goBack_54 ?_
            refine lv_iload_n xX xB dX6_goBack_55 rfl (lv_at wl 2 rfl) ?_
            refine z_iadd xX xB dX6_goBack_56 ?_
            refine z_iald xX xB wK wP 3 rfl ((17 * im) + i) (by omega) (by omega) (Nat.le_of_ble_eq_true rfl) dX6_goBack_57 ?_
            refine z_iast xX xB wK wP wD wS 1 rfl i rfl (by omega) (Nat.le_of_ble_eq_true rfl) dX6_goBack_58 (fun H locs wP wD wS => ?_)
            have wP : va_P D gC [(h, .inr (6, [.ref a0, .ref a1, .int (zI (KS im)), .ref a3, .ref a4, .int (zI dM), .int (zI lM), .int (zI hM), .ref a8, .ref a9, .ref a10, .int (zI (um : Int)), .int (zI (ua : Int)), .ref a13, .ref a14, .ref a15, .ref a16])), (a0, .inl (kI, 17, .inl (aZ (uZ F1 i (KP ((17 * im) + i)))))), (a14, .inl (kB, 2, .inl (aB KB))), (a15, .inl (kI, 34, .inl (aZ KP))), (a16, .inl (kI, 2, .inl (aZ KS)))] H := wP
            have wD : va_D (gA [(h, .inr (6, [.ref a0, .ref a1, .int (zI sd), .ref a3, .ref a4, .int (zI dM), .int (zI lM), .int (zI hM), .ref a8, .ref a9, .ref a10, .int (zI (um : Int)), .int (zI (ua : Int)), .ref a13, .ref a14, .ref a15, .ref a16])), (a0, .inl (kI, 17, .inl (aZ F))), (a14, .inl (kB, 2, .inl (aB KB))), (a15, .inl (kI, 34, .inl (aZ KP))), (a16, .inl (kI, 2, .inl (aZ KS)))]) [(h, .inr (6, [.ref a0, .ref a1, .int (zI (KS im)), .ref a3, .ref a4, .int (zI dM), .int (zI lM), .int (zI hM), .ref a8, .ref a9, .ref a10, .int (zI (um : Int)), .int (zI (ua : Int)), .ref a13, .ref a14, .ref a15, .ref a16])), (a0, .inl (kI, 17, .inl (aZ (uZ F1 i (KP ((17 * im) + i)))))), (a14, .inl (kB, 2, .inl (aB KB))), (a15, .inl (kI, 34, .inl (aZ KP))), (a16, .inl (kI, 2, .inl (aZ KS)))] := wD
            refine lv_iinc (v := zI ((i : Int) + 1)) (lv' := [(2, .int (zI ((i : Int) + 1))), (0, .ref h), (1, .int (zI (im : Int)))]) xX xB dX6_goBack_59 wl (k := 2) rfl (zI_add _ _) (by decide) rfl (fun ls wl => ?_)
            refine lv_goto (tgt := 36) xX xB dX6_goBack_62 (by decide) ?_
            exact ihK (i + 1) (uZ F1 i (KP ((17 * im) + i))) (by omega) (by omega) (ld_step hA) _ _ _ wP wD wS (lv_sub wl [1, 2, 0] rfl)
      exact K _ 0 F (Nat.lt_succ_self _) (by omega) (fun k hk => absurd hk (Nat.not_lt_zero k)) _ _ _ wP wD wS (lv_sub wl [1, 2, 0] rfl)
    · exact absurd h18 (by rw [hb]; decide)
  · exact absurd h6 (by rw [decide_eq_true (by omega)]; decide)
