set_option maxRecDepth 20000 in
theorem in_X6_remember_X6 : ∀ w ∈ u_ws RX6 TX6 17, w ∈ wsX6_remember := by decide +kernel
set_option maxRecDepth 20000 in
theorem in_X6_turns_X6 : ∀ w ∈ u_ws RX6 TX6 17, w ∈ wsX6_turns := by decide +kernel
set_option maxRecDepth 20000 in
theorem in_X6_isNear_X6 : ∀ w ∈ u_ws RX6 TX6 17, w ∈ wsX6_isNear := by decide +kernel
theorem hd_X6_remember : yX6_remember.cls = RX6 ∧ yX6_remember.cls ≠ "java/lang/invoke/MethodHandle" ∧ yX6_remember.cls ≠ "java/lang/invoke/VarHandle" ∧ (parseMethodDescriptor yX6_remember.desc).map (fun d => d.parameters.length) = some 0 := by decide +kernel
set_option maxHeartbeats 4000000 in
set_option maxRecDepth 100000 in
theorem c_X6_remember (l : Launch) (D : va_G) (kI kB : ClassId) (h : Nat) (a0 : Nat) (a1 : Nat) (a3 : Nat) (a4 : Nat) (a8 : Nat) (a9 : Nat) (a10 : Nat) (a13 : Nat) (a14 : Nat) (a15 : Nat) (a16 : Nat) (sd : Int) (dM : Int) (lM : Int) (hM : Int) (um : Nat) (ua : Nat) (F : Nat → Int) (U : Nat → Int) (hua : ua < 30) (hum : um ≤ 30) : gV l yX6_remember wsX6_remember ({ frames := 0, cells := 0, slots := 0, locals := 0 } : Room) D kI kB [.ref h] [(h, .inr (6, [.ref a0, .ref a1, .int (zI sd), .ref a3, .ref a4, .int (zI dM), .int (zI lM), .int (zI hM), .ref a8, .ref a9, .ref a10, .int (zI (um : Int)), .int (zI (ua : Int)), .ref a13, .ref a14, .ref a15, .ref a16])), (a0, .inl (kI, 17, .inl (aZ F))), (a13, .inl (kI, 510, .inl (aZ U)))] (fun (U1 : Nat → Int) => [(h, .inr (6, [.ref a0, .ref a1, .int (zI sd), .ref a3, .ref a4, .int (zI dM), .int (zI lM), .int (zI hM), .ref a8, .ref a9, .ref a10, .int (zI ((if um < 30 then um + 1 else um : Nat) : Int)), .int (zI (((ua + 1) % 30 : Nat) : Int)), .ref a13, .ref a14, .ref a15, .ref a16])), (a0, .inl (kI, 17, .inl (aZ F))), (a13, .inl (kI, 510, .inl (aZ U1)))]) (fun (U1 : Nat → Int) => ∀ k, k < 510 → U1 k = pushN U F ua 17 k) := by
  refine g_start (cc := cX6_remember) (maxL := 2) (ret := none) (by decide) rfl (Nat.le_of_ble_eq_true rfl) ?_
  intro xp xe xs xm xbl xmt xc xX xB xR xM xT xO xL xN wP wD wK ls wl
  have wS : va_S (gA [(h, .inr (6, [.ref a0, .ref a1, .int (zI sd), .ref a3, .ref a4, .int (zI dM), .int (zI lM), .int (zI hM), .ref a8, .ref a9, .ref a10, .int (zI (um : Int)), .int (zI (ua : Int)), .ref a13, .ref a14, .ref a15, .ref a16])), (a0, .inl (kI, 17, .inl (aZ F))), (a13, .inl (kI, 510, .inl (aZ U)))]) xs.heap xs.heap [] := va_S.rf
  have wl : lv_has ls 2 [(0, .ref h)] := wl
  generalize hQ : MQ xbl _ _ xs 0 0 _ = xQ
  refine z_iconst xX xB dX6_remember_0 ?_
  refine lv_istore_n (lv' := [(1, .int (zI 0)), (0, .ref h)]) xX xB dX6_remember_1 rfl wl (by decide) rfl (fun ls wl => ?_)
  have K : ∀ n_ : Nat, ∀ (i : Nat) (U1 : Nat → Int), 17 - i < n_ → (i ≤ 17) → (∀ k, k < 510 → U1 k = pushN U F ua i k) → ∀ (H : Heap) (locs : List Loc) (ls : Array Slot), va_P D gC [(h, .inr (6, [.ref a0, .ref a1, .int (zI sd), .ref a3, .ref a4, .int (zI dM), .int (zI lM), .int (zI hM), .ref a8, .ref a9, .ref a10, .int (zI (um : Int)), .int (zI (ua : Int)), .ref a13, .ref a14, .ref a15, .ref a16])), (a0, .inl (kI, 17, .inl (aZ F))), (a13, .inl (kI, 510, .inl (aZ U1)))] H → va_D (gA [(h, .inr (6, [.ref a0, .ref a1, .int (zI sd), .ref a3, .ref a4, .int (zI dM), .int (zI lM), .int (zI hM), .ref a8, .ref a9, .ref a10, .int (zI (um : Int)), .int (zI (ua : Int)), .ref a13, .ref a14, .ref a15, .ref a16])), (a0, .inl (kI, 17, .inl (aZ F))), (a13, .inl (kI, 510, .inl (aZ U)))]) [(h, .inr (6, [.ref a0, .ref a1, .int (zI sd), .ref a3, .ref a4, .int (zI dM), .int (zI lM), .int (zI hM), .ref a8, .ref a9, .ref a10, .int (zI (um : Int)), .int (zI (ua : Int)), .ref a13, .ref a14, .ref a15, .ref a16])), (a0, .inl (kI, 17, .inl (aZ F))), (a13, .inl (kI, 510, .inl (aZ U1)))] → va_S (gA [(h, .inr (6, [.ref a0, .ref a1, .int (zI sd), .ref a3, .ref a4, .int (zI dM), .int (zI lM), .int (zI hM), .ref a8, .ref a9, .ref a10, .int (zI (um : Int)), .int (zI (ua : Int)), .ref a13, .ref a14, .ref a15, .ref a16])), (a0, .inl (kI, 17, .inl (aZ F))), (a13, .inl (kI, 510, .inl (aZ U)))]) xs.heap H locs → lv_has ls 2 [(0, .ref h), (1, .int (zI (i : Int)))] → W xp l xe ({ frames := 0, cells := 0, slots := 0, locals := 0 } : Room) xs xm (List.toArray [.ref h]) xbl xmt xc H locs 0 0 xQ (F0 xm 2 ls []) := by
    intro n_
    induction n_ with
    | zero =>
      intro i U1 hme
      exact absurd hme (Nat.not_lt_zero _)
    | succ n_ ihK =>
      intro i U1 hme hi hU H locs ls wP wD wS wl
      refine lv_iload_n xX xB dX6_remember_2 rfl (lv_at wl 1 rfl) ?_
      refine z_bipush xX xB dX6_remember_3 (by decide) ?_
      refine z_icmp_ge (tgt := 34) xX xB dX6_remember_5 (by decide) (by omega) (by omega) (fun h5 => ?_) (fun h5 => ?_)
      · skip
        refine lv_aload_n xX xB dX6_remember_34 rfl (lv_at wl 0 rfl) ?_
        refine lv_aload_n xX xB dX6_remember_35 rfl (lv_at wl 0 rfl) ?_
        refine va_get (D := D) (ci := 6) (v := .int (zI (ua : Int))) (C := RX6) (T := TX6) (N := 17) xX xB xT in_X6_remember_X6 xO wK.1 wP 0 rfl rfl 12 (by decide) (xT _ (List.mem_of_getElem? (i := 2) rfl)) (fun _ h9 => h9) rfl dX6_remember_36 ?_
        refine z_iconst xX xB dX6_remember_39 ?_
        refine z_iadd xX xB dX6_remember_40 ?_
        refine z_bipush xX xB dX6_remember_41 (by decide) ?_
        refine z_irem xX xB dX6_remember_43 (by omega) (by decide) ?_
        refine va_put (D := D) (ci := 6) (v := .int (zI (((ua : Int) + 1) % 30))) (ty := .int) (C := RX6) (T := TX6) (N := 17) xX xB xT in_X6_remember_X6 tyX6 tyX6_ok nmX6 xO wK.1 wP wD wS 0 rfl rfl 12 (by decide) (xT _ (List.mem_of_getElem? (i := 2) rfl)) (fun _ h9 => h9) rfl (by decide +kernel) rfl rfl (Nat.le_of_ble_eq_true rfl) dX6_remember_44 (fun H locs wP wD wS => ?_)
        have wP : va_P D gC [(h, .inr (6, [.ref a0, .ref a1, .int (zI sd), .ref a3, .ref a4, .int (zI dM), .int (zI lM), .int (zI hM), .ref a8, .ref a9, .ref a10, .int (zI (um : Int)), .int (zI (((ua : Int) + 1) % 30)), .ref a13, .ref a14, .ref a15, .ref a16])), (a0, .inl (kI, 17, .inl (aZ F))), (a13, .inl (kI, 510, .inl (aZ U1)))] H := wP
        have wD : va_D (gA [(h, .inr (6, [.ref a0, .ref a1, .int (zI sd), .ref a3, .ref a4, .int (zI dM), .int (zI lM), .int (zI hM), .ref a8, .ref a9, .ref a10, .int (zI (um : Int)), .int (zI (ua : Int)), .ref a13, .ref a14, .ref a15, .ref a16])), (a0, .inl (kI, 17, .inl (aZ F))), (a13, .inl (kI, 510, .inl (aZ U)))]) [(h, .inr (6, [.ref a0, .ref a1, .int (zI sd), .ref a3, .ref a4, .int (zI dM), .int (zI lM), .int (zI hM), .ref a8, .ref a9, .ref a10, .int (zI (um : Int)), .int (zI (((ua : Int) + 1) % 30)), .ref a13, .ref a14, .ref a15, .ref a16])), (a0, .inl (kI, 17, .inl (aZ F))), (a13, .inl (kI, 510, .inl (aZ U1)))] := wD
        refine lv_aload_n xX xB dX6_remember_47 rfl (lv_at wl 0 rfl) ?_
        refine lv_dup xX xB dX6_remember_48 rfl ?_
        refine va_get (D := D) (ci := 6) (v := .int (zI (um : Int))) (C := RX6) (T := TX6) (N := 17) xX xB xT in_X6_remember_X6 xO wK.1 wP 0 rfl rfl 11 (by decide) (xT _ (List.mem_of_getElem? (i := 4) rfl)) (fun _ h9 => h9) rfl dX6_remember_49 ?_
        refine lv_aload_n xX xB dX6_remember_52 rfl (lv_at wl 0 rfl) ?_
        refine va_get (D := D) (ci := 6) (v := .int (zI (um : Int))) (C := RX6) (T := TX6) (N := 17) xX xB xT in_X6_remember_X6 xO wK.1 wP 0 rfl rfl 11 (by decide) (xT _ (List.mem_of_getElem? (i := 4) rfl)) (fun _ h9 => h9) rfl dX6_remember_53 ?_
        refine z_bipush xX xB dX6_remember_56 (by decide) ?_
        refine t_icmp_ge xX xB dX6_remember_58 dX6_remember_61 dX6_remember_62 dX6_remember_65 (by omega) (by omega) ?_
        refine lv_ri (bI_Z _) ?_
        refine z_iadd xX xB dX6_remember_66 ?_
        refine lv_ri (y := zI ((if um < 30 then um + 1 else um : Nat) : Int)) (congrArg zI um_min) ?_
        refine va_put (D := D) (ci := 6) (v := .int (zI ((if um < 30 then um + 1 else um : Nat) : Int))) (ty := .int) (C := RX6) (T := TX6) (N := 17) xX xB xT in_X6_remember_X6 tyX6 tyX6_ok nmX6 xO wK.1 wP wD wS 0 rfl rfl 11 (by decide) (xT _ (List.mem_of_getElem? (i := 4) rfl)) (fun _ h9 => h9) rfl (by decide +kernel) rfl rfl (Nat.le_of_ble_eq_true rfl) dX6_remember_67 (fun H locs wP wD wS => ?_)
        have wP : va_P D gC [(h, .inr (6, [.ref a0, .ref a1, .int (zI sd), .ref a3, .ref a4, .int (zI dM), .int (zI lM), .int (zI hM), .ref a8, .ref a9, .ref a10, .int (zI ((if um < 30 then um + 1 else um : Nat) : Int)), .int (zI (((ua : Int) + 1) % 30)), .ref a13, .ref a14, .ref a15, .ref a16])), (a0, .inl (kI, 17, .inl (aZ F))), (a13, .inl (kI, 510, .inl (aZ U1)))] H := wP
        have wD : va_D (gA [(h, .inr (6, [.ref a0, .ref a1, .int (zI sd), .ref a3, .ref a4, .int (zI dM), .int (zI lM), .int (zI hM), .ref a8, .ref a9, .ref a10, .int (zI (um : Int)), .int (zI (ua : Int)), .ref a13, .ref a14, .ref a15, .ref a16])), (a0, .inl (kI, 17, .inl (aZ F))), (a13, .inl (kI, 510, .inl (aZ U)))]) [(h, .inr (6, [.ref a0, .ref a1, .int (zI sd), .ref a3, .ref a4, .int (zI dM), .int (zI lM), .int (zI hM), .ref a8, .ref a9, .ref a10, .int (zI ((if um < 30 then um + 1 else um : Nat) : Int)), .int (zI (((ua : Int) + 1) % 30)), .ref a13, .ref a14, .ref a15, .ref a16])), (a0, .inl (kI, 17, .inl (aZ F))), (a13, .inl (kI, 510, .inl (aZ U1)))] := wD
        subst hQ
        exact g_vret U1 xX xB xR xL wP wS dX6_remember_70 (by rw [show i = 17 by omega] at hU; exact hU)
      · skip
        refine lv_aload_n xX xB dX6_remember_8 rfl (lv_at wl 0 rfl) ?_
        refine va_get (D := D) (ci := 6) (v := .ref a13) (C := RX6) (T := TX6) (N := 17) xX xB xT in_X6_remember_X6 xO wK.1 wP 0 rfl rfl 13 (by decide) (xT _ (List.mem_of_getElem? (i := 1) rfl)) (fun _ h9 => h9) rfl dX6_remember_9 ?_
        refine z_bipush xX xB dX6_remember_12 (by decide) ?_
        refine lv_aload_n xX xB dX6_remember_14 rfl (lv_at wl 0 rfl) ?_
        refine va_get (D := D) (ci := 6) (v := .int (zI (ua : Int))) (C := RX6) (T := TX6) (N := 17) xX xB xT in_X6_remember_X6 xO wK.1 wP 0 rfl rfl 12 (by decide) (xT _ (List.mem_of_getElem? (i := 2) rfl)) (fun _ h9 => h9) rfl dX6_remember_15 ?_
        refine z_imul xX xB dX6_remember_18 ?_
        refine lv_iload_n xX xB dX6_remember_19 rfl (lv_at wl 1 rfl) ?_
        refine z_iadd xX xB dX6_remember_20 ?_
        refine lv_aload_n xX xB dX6_remember_21 rfl (lv_at wl 0 rfl) ?_
        refine va_get (D := D) (ci := 6) (v := .ref a0) (C := RX6) (T := TX6) (N := 17) xX xB xT in_X6_remember_X6 xO wK.1 wP 0 rfl rfl 0 (by decide) (xT _ (List.mem_of_getElem? (i := 3) rfl)) (fun _ h9 => h9) rfl dX6_remember_22 ?_
        refine lv_iload_n xX xB dX6_remember_25 rfl (lv_at wl 1 rfl) ?_
        refine z_iald xX xB wK wP 1 rfl i rfl (by omega) (Nat.le_of_ble_eq_true rfl) dX6_remember_26 ?_
        refine z_iast xX xB wK wP wD wS 2 rfl ((17 * ua) + i) (by omega) (by omega) (Nat.le_of_ble_eq_true rfl) dX6_remember_27 (fun H locs wP wD wS => ?_)
        have wP : va_P D gC [(h, .inr (6, [.ref a0, .ref a1, .int (zI sd), .ref a3, .ref a4, .int (zI dM), .int (zI lM), .int (zI hM), .ref a8, .ref a9, .ref a10, .int (zI (um : Int)), .int (zI (ua : Int)), .ref a13, .ref a14, .ref a15, .ref a16])), (a0, .inl (kI, 17, .inl (aZ F))), (a13, .inl (kI, 510, .inl (aZ (uZ U1 ((17 * ua) + i) (F i)))))] H := wP
        have wD : va_D (gA [(h, .inr (6, [.ref a0, .ref a1, .int (zI sd), .ref a3, .ref a4, .int (zI dM), .int (zI lM), .int (zI hM), .ref a8, .ref a9, .ref a10, .int (zI (um : Int)), .int (zI (ua : Int)), .ref a13, .ref a14, .ref a15, .ref a16])), (a0, .inl (kI, 17, .inl (aZ F))), (a13, .inl (kI, 510, .inl (aZ U)))]) [(h, .inr (6, [.ref a0, .ref a1, .int (zI sd), .ref a3, .ref a4, .int (zI dM), .int (zI lM), .int (zI hM), .ref a8, .ref a9, .ref a10, .int (zI (um : Int)), .int (zI (ua : Int)), .ref a13, .ref a14, .ref a15, .ref a16])), (a0, .inl (kI, 17, .inl (aZ F))), (a13, .inl (kI, 510, .inl (aZ (uZ U1 ((17 * ua) + i) (F i)))))] := wD
        refine lv_iinc (v := zI ((i : Int) + 1)) (lv' := [(1, .int (zI ((i : Int) + 1))), (0, .ref h)]) xX xB dX6_remember_28 wl (k := 1) rfl (zI_add _ _) (by decide) rfl (fun ls wl => ?_)
        refine lv_goto (tgt := 2) xX xB dX6_remember_31 (by decide) ?_
        exact ihK (i + 1) (uZ U1 ((17 * ua) + i) (F i)) (by omega) (by omega) (push_step hU) _ _ _ wP wD wS (lv_sub wl [1, 0] rfl)
  exact K _ 0 U (Nat.lt_succ_self _) (by omega) (fun k hk => by unfold pushN; rw [if_neg (by omega)]) _ _ _ wP wD wS (lv_sub wl [1, 0] rfl)

set_option maxHeartbeats 4000000 in
set_option maxRecDepth 100000 in
theorem c_X6_turns (l : Launch) (D : va_G) (kI kB : ClassId) (h : Nat) (a0 : Nat) (a1 : Nat) (a3 : Nat) (a4 : Nat) (a8 : Nat) (a9 : Nat) (a10 : Nat) (a13 : Nat) (a14 : Nat) (a15 : Nat) (a16 : Nat) (sd : Int) (dM : Int) (lM : Int) (hM : Int) (um : Nat) (ua : Nat) (F : Nat → Int) (U : Nat → Int) (P : Nat → Nat) (x : Nat) (hua : ua < 30) (hum : um ≤ 30) (hG : Pic F P) (hx : x < 256) : gV l yX6_turns wsX6_turns ({ frames := 1, cells := 0, slots := 0, locals := 21 } : Room) D kI kB [.ref h, .int (zI (x : Int))] [(h, .inr (6, [.ref a0, .ref a1, .int (zI sd), .ref a3, .ref a4, .int (zI dM), .int (zI lM), .int (zI hM), .ref a8, .ref a9, .ref a10, .int (zI (um : Int)), .int (zI (ua : Int)), .ref a13, .ref a14, .ref a15, .ref a16])), (a0, .inl (kI, 17, .inl (aZ F))), (a13, .inl (kI, 510, .inl (aZ U)))] (fun (U1 : Nat → Int) => [(h, .inr (6, [.ref a0, .ref a1, .int (zI sd), .ref a3, .ref a4, .int (zI dM), .int (zI lM), .int (zI hM), .ref a8, .ref a9, .ref a10, .int (zI ((if um < 30 then um + 1 else um : Nat) : Int)), .int (zI (((ua + 1) % 30 : Nat) : Int)), .ref a13, .ref a14, .ref a15, .ref a16])), (a0, .inl (kI, 17, .inl (aZ (uZ F (x / 16) ((P (x / 16) ^^^ bit (x) : Nat) : Int))))), (a13, .inl (kI, 510, .inl (aZ U1)))]) (fun (U1 : Nat → Int) => ∀ k, k < 510 → U1 k = pushN U F ua 17 k) := by
  refine g_start (cc := cX6_turns) (maxL := 2) (ret := none) (by decide) rfl (Nat.le_of_ble_eq_true rfl) ?_
  intro xp xe xs xm xbl xmt xc xX xB xR xM xT xO xL xN wP wD wK ls wl
  have wS : va_S (gA [(h, .inr (6, [.ref a0, .ref a1, .int (zI sd), .ref a3, .ref a4, .int (zI dM), .int (zI lM), .int (zI hM), .ref a8, .ref a9, .ref a10, .int (zI (um : Int)), .int (zI (ua : Int)), .ref a13, .ref a14, .ref a15, .ref a16])), (a0, .inl (kI, 17, .inl (aZ F))), (a13, .inl (kI, 510, .inl (aZ U)))]) xs.heap xs.heap [] := va_S.rf
  have wl : lv_has ls 2 [(0, .ref h), (1, .int (zI (x : Int)))] := wl
  refine lv_aload_n xX xB dX6_turns_0 rfl (lv_at wl 0 rfl) ?_
  refine g_modv (va_runV (As := []) (rest := []) ⟨xX, xB, xM, xO, xT⟩ (c_X6_remember l D kI kB h a0 a1 a3 a4 a8 a9 a10 a13 a14 a15 a16 sd dM lM hM um ua F U hua hum) (cwV 0 xT gX6_turns_X6_remember rfl rfl rfl hd_X6_remember ⟨Nat.le_of_ble_eq_true rfl, Nat.le_of_ble_eq_true rfl⟩) (g_preV (ci := 6) (q0 := 0) wP wD wK [0, 1, 2] (by decide) rfl rfl rfl) rfl rfl wl.1 rfl (lv_room (Nat.le_of_ble_eq_true rfl)) dX6_turns_1 ⟨Nat.le_of_ble_eq_true rfl, Nat.le_of_ble_eq_true rfl⟩) wP wD wS [0, 1, 2] rfl (fun _ => rfl) (fun U1_1 H locs hc1 wP wD wS => ?_)
  try dsimp only at hc1
  have wP : va_P D gC [(h, .inr (6, [.ref a0, .ref a1, .int (zI sd), .ref a3, .ref a4, .int (zI dM), .int (zI lM), .int (zI hM), .ref a8, .ref a9, .ref a10, .int (zI ((if um < 30 then um + 1 else um : Nat) : Int)), .int (zI (((ua + 1) % 30 : Nat) : Int)), .ref a13, .ref a14, .ref a15, .ref a16])), (a0, .inl (kI, 17, .inl (aZ F))), (a13, .inl (kI, 510, .inl (aZ U1_1)))] H := wP
  have wD : va_D (gA [(h, .inr (6, [.ref a0, .ref a1, .int (zI sd), .ref a3, .ref a4, .int (zI dM), .int (zI lM), .int (zI hM), .ref a8, .ref a9, .ref a10, .int (zI (um : Int)), .int (zI (ua : Int)), .ref a13, .ref a14, .ref a15, .ref a16])), (a0, .inl (kI, 17, .inl (aZ F))), (a13, .inl (kI, 510, .inl (aZ U)))]) [(h, .inr (6, [.ref a0, .ref a1, .int (zI sd), .ref a3, .ref a4, .int (zI dM), .int (zI lM), .int (zI hM), .ref a8, .ref a9, .ref a10, .int (zI ((if um < 30 then um + 1 else um : Nat) : Int)), .int (zI (((ua + 1) % 30 : Nat) : Int)), .ref a13, .ref a14, .ref a15, .ref a16])), (a0, .inl (kI, 17, .inl (aZ F))), (a13, .inl (kI, 510, .inl (aZ U1_1)))] := wD
  refine lv_aload_n xX xB dX6_turns_4 rfl (lv_at wl 0 rfl) ?_
  refine va_get (D := D) (ci := 6) (v := .ref a0) (C := RX6) (T := TX6) (N := 17) xX xB xT in_X6_turns_X6 xO wK.1 wP 0 rfl rfl 0 (by decide) (xT _ (List.mem_of_getElem? (i := 1) rfl)) (fun _ h9 => h9) rfl dX6_turns_5 ?_
  refine lv_iload_n xX xB dX6_turns_8 rfl (lv_at wl 1 rfl) ?_
  refine z_bipush xX xB dX6_turns_9 (by decide) ?_
  refine z_idiv xX xB dX6_turns_11 (by omega) (by decide) ?_
  refine lv_dup2_11 xX xB dX6_turns_12 rfl rfl ?_
  refine z_iald xX xB wK wP 1 rfl (x / 16) (by omega) (by omega) (Nat.le_of_ble_eq_true rfl) dX6_turns_13 ?_
  refine lv_ri (y := zI (P (x / 16) : Int)) (congrArg zI (hG (x / 16) (by omega)).1) ?_
  refine z_iconst xX xB dX6_turns_14 ?_
  refine lv_iload_n xX xB dX6_turns_15 rfl (lv_at wl 1 rfl) ?_
  refine z_bipush xX xB dX6_turns_16 (by decide) ?_
  refine z_irem xX xB dX6_turns_18 (by omega) (by decide) ?_
  refine lv_ishl xX xB dX6_turns_19 ?_
  refine lv_ri (y := zI ((bit (x) : Nat) : Int)) (zb_bitk (k := x % 16) (by omega)) ?_
  refine lv_ixor xX xB dX6_turns_20 ?_
  refine lv_ri (y := zI (((P (x / 16)) ^^^ (bit (x)) : Nat) : Int)) (zb_xor _ _) ?_
  refine z_iast xX xB wK wP wD wS 1 rfl (x / 16) (by omega) (by omega) (Nat.le_of_ble_eq_true rfl) dX6_turns_21 (fun H locs wP wD wS => ?_)
  have wP : va_P D gC [(h, .inr (6, [.ref a0, .ref a1, .int (zI sd), .ref a3, .ref a4, .int (zI dM), .int (zI lM), .int (zI hM), .ref a8, .ref a9, .ref a10, .int (zI ((if um < 30 then um + 1 else um : Nat) : Int)), .int (zI (((ua + 1) % 30 : Nat) : Int)), .ref a13, .ref a14, .ref a15, .ref a16])), (a0, .inl (kI, 17, .inl (aZ (uZ F (x / 16) (((P (x / 16)) ^^^ (bit (x)) : Nat) : Int))))), (a13, .inl (kI, 510, .inl (aZ U1_1)))] H := wP
  have wD : va_D (gA [(h, .inr (6, [.ref a0, .ref a1, .int (zI sd), .ref a3, .ref a4, .int (zI dM), .int (zI lM), .int (zI hM), .ref a8, .ref a9, .ref a10, .int (zI (um : Int)), .int (zI (ua : Int)), .ref a13, .ref a14, .ref a15, .ref a16])), (a0, .inl (kI, 17, .inl (aZ F))), (a13, .inl (kI, 510, .inl (aZ U)))]) [(h, .inr (6, [.ref a0, .ref a1, .int (zI sd), .ref a3, .ref a4, .int (zI dM), .int (zI lM), .int (zI hM), .ref a8, .ref a9, .ref a10, .int (zI ((if um < 30 then um + 1 else um : Nat) : Int)), .int (zI (((ua + 1) % 30 : Nat) : Int)), .ref a13, .ref a14, .ref a15, .ref a16])), (a0, .inl (kI, 17, .inl (aZ (uZ F (x / 16) (((P (x / 16)) ^^^ (bit (x)) : Nat) : Int))))), (a13, .inl (kI, 510, .inl (aZ U1_1)))] := wD
  exact g_vret U1_1 xX xB xR xL wP wS dX6_turns_22 hc1

set_option maxHeartbeats 4000000 in
set_option maxRecDepth 100000 in
theorem c_X6_isNear (l : Launch) (D : va_G) (kI kB : ClassId) (h : Nat) (a0 : Nat) (a1 : Nat) (a3 : Nat) (a4 : Nat) (a8 : Nat) (a9 : Nat) (a10 : Nat) (a13 : Nat) (a14 : Nat) (a15 : Nat) (a16 : Nat) (sd : Int) (dM : Int) (lM : Int) (hM : Int) (uM : Int) (uA : Int) (F : Nat → Int) (P : Nat → Nat) (m8 : Bool) (x : Nat) (dark : Bool) (hF : Pic F P) (rm16 : -2147483648 ≤ F 16 ∧ F 16 ≤ 2147483647) (hm : m8 = decide (F 16 = 8)) (hx : x < 256) : gI l yX6_isNear wsX6_isNear ({ frames := 2, cells := 0, slots := 0, locals := 43 } : Room) D kI kB [.ref h, .int (zI (x : Int)), .int (bI dark)] [(h, .inr (6, [.ref a0, .ref a1, .int (zI sd), .ref a3, .ref a4, .int (zI dM), .int (zI lM), .int (zI hM), .ref a8, .ref a9, .ref a10, .int (zI uM), .int (zI uA), .ref a13, .ref a14, .ref a15, .ref a16])), (a0, .inl (kI, 17, .inl (aZ F)))] (bI (nrN P m8 x dark 9)) := by
  refine g_start (cc := cX6_isNear) (maxL := 8) (ret := (some .boolean)) (by decide) rfl (Nat.le_of_ble_eq_true rfl) ?_
  intro xp xe xs xm xbl xmt xc xX xB xR xM xT xO xL xN wP wD wK ls wl
  have wS : va_S (fun _ => False) xs.heap xs.heap [] := va_S.rf
  have wl : lv_has ls 8 [(0, .ref h), (1, .int (zI (x : Int))), (2, .int (bI dark))] := wl
  generalize hQ : MQ xbl _ _ xs 0 0 _ = xQ
  refine z_iconst xX xB dX6_isNear_0 ?_
  refine lv_istore_n (lv' := [(3, .int (zI 0)), (0, .ref h), (1, .int (zI (x : Int))), (2, .int (bI dark))]) xX xB dX6_isNear_1 rfl wl (by decide) rfl (fun ls wl => ?_)
  refine z_iconst xX xB dX6_isNear_2 ?_
  refine lv_istore (lv' := [(4, .int (zI 0)), (3, .int (zI 0)), (0, .ref h), (1, .int (zI (x : Int))), (2, .int (bI dark))]) xX xB dX6_isNear_3 wl (by decide) rfl (fun ls wl => ?_)
  have K : ∀ n_ : Nat, ∀ (k : Nat) (b : Bool), 9 - k < n_ → (k ≤ 9) → (b = nrN P m8 x dark k) → ∀ (H : Heap) (locs : List Loc) (ls : Array Slot), va_P D gC [(h, .inr (6, [.ref a0, .ref a1, .int (zI sd), .ref a3, .ref a4, .int (zI dM), .int (zI lM), .int (zI hM), .ref a8, .ref a9, .ref a10, .int (zI uM), .int (zI uA), .ref a13, .ref a14, .ref a15, .ref a16])), (a0, .inl (kI, 17, .inl (aZ F)))] H → va_S (fun _ => False) xs.heap H locs → lv_has ls 8 [(0, .ref h), (1, .int (zI (x : Int))), (2, .int (bI dark)), (3, .int (bI b)), (4, .int (zI (k : Int)))] → W xp l xe ({ frames := 2, cells := 0, slots := 0, locals := 43 } : Room) xs xm (List.toArray [.ref h, .int (zI (x : Int)), .int (bI dark)]) xbl xmt xc H locs 0 0 xQ (F0 xm 5 ls []) := by
    intro n_
    induction n_ with
    | zero =>
      intro k b hme
      exact absurd hme (Nat.not_lt_zero _)
    | succ n_ ihK =>
      intro k b hme hk hb H locs ls wP wS wl
      refine lv_iload xX xB dX6_isNear_5 (lv_at wl 4 rfl) ?_
      refine z_bipush xX xB dX6_isNear_7 (by decide) ?_
      refine z_icmp_ge (tgt := 125) xX xB dX6_isNear_9 (by decide) (by omega) (by omega) (fun h9 => ?_) (fun h9 => ?_)
      · skip
        refine lv_iload_n xX xB dX6_isNear_125 rfl (lv_at wl 3 rfl) ?_
        subst hQ
        exact g_zret xX xB xR xL wS dX6_isNear_126 (by rw [hb, show k = 9 by omega])
      · skip
        refine lv_iload_n xX xB dX6_isNear_12 rfl (lv_at wl 1 rfl) ?_
        refine z_bipush xX xB dX6_isNear_13 (by decide) ?_
        refine z_idiv xX xB dX6_isNear_15 (by omega) (by decide) ?_
        refine lv_iload xX xB dX6_isNear_16 (lv_at wl 4 rfl) ?_
        refine z_iconst xX xB dX6_isNear_18 ?_
        refine z_idiv xX xB dX6_isNear_19 (by omega) (by decide) ?_
        refine z_iadd xX xB dX6_isNear_20 ?_
        refine z_iconst xX xB dX6_isNear_21 ?_
        refine z_isub xX xB dX6_isNear_22 ?_
        refine lv_istore (lv' := [(5, .int (zI ((((x : Int) / 16) + ((k : Int) / 3)) - 1))), (0, .ref h), (1, .int (zI (x : Int))), (2, .int (bI dark)), (3, .int (bI b)), (4, .int (zI (k : Int)))]) xX xB dX6_isNear_23 wl (by decide) rfl (fun ls wl => ?_)
        refine lv_iload_n xX xB dX6_isNear_25 rfl (lv_at wl 2 rfl) ?_
        refine z_bipush xX xB dX6_isNear_26 (by decide) ?_
        refine z_irem xX xB dX6_isNear_28 (by omega) (by decide) ?_
        refine lv_iload xX xB dX6_isNear_29 (lv_at wl 5 rfl) ?_
        refine z_iconst xX xB dX6_isNear_31 ?_
        refine z_irem xX xB dX6_isNear_32 (by omega) (by decide) ?_
        refine z_iadd xX xB dX6_isNear_33 ?_
        refine z_iconst xX xB dX6_isNear_34 ?_
        refine z_isub xX xB dX6_isNear_35 ?_
        refine lv_istore (lv' := [(6, .int (zI ((((x : Int) % 16) + ((k : Int) % 3)) - 1))), (5, .int (zI ((((x : Int) / 16) + ((k : Int) / 3)) - 1))), (0, .ref h), (1, .int (zI (x : Int))), (2, .int (bI dark)), (3, .int (bI b)), (4, .int (zI (k : Int)))]) xX xB dX6_isNear_36 wl (by decide) rfl (fun ls wl => ?_)
        have J11 : ∀ (nr : Bool), (nr = (decide (¬ k = 4) && (m8 || decide (k % 2 = 1)))) → ∀ (H : Heap) (locs : List Loc) (ls : Array Slot), va_P D gC [(h, .inr (6, [.ref a0, .ref a1, .int (zI sd), .ref a3, .ref a4, .int (zI dM), .int (zI lM), .int (zI hM), .ref a8, .ref a9, .ref a10, .int (zI uM), .int (zI uA), .ref a13, .ref a14, .ref a15, .ref a16])), (a0, .inl (kI, 17, .inl (aZ F)))] H → va_S (fun _ => False) xs.heap H locs → lv_has ls 8 [(6, .int (zI ((((x : Int) % 16) + ((k : Int) % 3)) - 1))), (5, .int (zI ((((x : Int) / 16) + ((k : Int) / 3)) - 1))), (0, .ref h), (1, .int (zI (x : Int))), (2, .int (bI dark)), (3, .int (bI b)), (4, .int (zI (k : Int)))] → W xp l xe ({ frames := 2, cells := 0, slots := 0, locals := 43 } : Room) xs xm (List.toArray [.ref h, .int (zI (x : Int)), .int (bI dark)]) xbl xmt xc H locs 0 0 xQ (F0 xm 69 ls [.int (bI nr)]) := by
          intro nr hnr H locs ls wP wS wl
          refine lv_istore (lv' := [(7, .int (bI nr)), (6, .int (zI ((((x : Int) % 16) + ((k : Int) % 3)) - 1))), (5, .int (zI ((((x : Int) / 16) + ((k : Int) / 3)) - 1))), (0, .ref h), (1, .int (zI (x : Int))), (2, .int (bI dark)), (3, .int (bI b)), (4, .int (zI (k : Int)))]) xX xB dX6_isNear_69 wl (by decide) rfl (fun ls wl => ?_)
          have J22 : ∀ (b2 : Bool), (b2 = (b || nrT P m8 x dark k)) → ∀ (H : Heap) (locs : List Loc) (ls : Array Slot), va_P D gC [(h, .inr (6, [.ref a0, .ref a1, .int (zI sd), .ref a3, .ref a4, .int (zI dM), .int (zI lM), .int (zI hM), .ref a8, .ref a9, .ref a10, .int (zI uM), .int (zI uA), .ref a13, .ref a14, .ref a15, .ref a16])), (a0, .inl (kI, 17, .inl (aZ F)))] H → va_S (fun _ => False) xs.heap H locs → lv_has ls 8 [(7, .int (bI nr)), (6, .int (zI ((((x : Int) % 16) + ((k : Int) % 3)) - 1))), (5, .int (zI ((((x : Int) / 16) + ((k : Int) / 3)) - 1))), (0, .ref h), (1, .int (zI (x : Int))), (2, .int (bI dark)), (3, .int (bI b)), (4, .int (zI (k : Int)))] → W xp l xe ({ frames := 2, cells := 0, slots := 0, locals := 43 } : Room) xs xm (List.toArray [.ref h, .int (zI (x : Int)), .int (bI dark)]) xbl xmt xc H locs 0 0 xQ (F0 xm 118 ls [.int (bI b2)]) := by
            intro b2 hb2 H locs ls wP wS wl
            refine lv_istore_n (lv' := [(3, .int (bI b2)), (7, .int (bI nr)), (6, .int (zI ((((x : Int) % 16) + ((k : Int) % 3)) - 1))), (5, .int (zI ((((x : Int) / 16) + ((k : Int) / 3)) - 1))), (0, .ref h), (1, .int (zI (x : Int))), (2, .int (bI dark)), (4, .int (zI (k : Int)))]) xX xB dX6_isNear_118 rfl wl (by decide) rfl (fun ls wl => ?_)
            refine lv_iinc (v := zI ((k : Int) + 1)) (lv' := [(4, .int (zI ((k : Int) + 1))), (3, .int (bI b2)), (7, .int (bI nr)), (6, .int (zI ((((x : Int) % 16) + ((k : Int) % 3)) - 1))), (5, .int (zI ((((x : Int) / 16) + ((k : Int) / 3)) - 1))), (0, .ref h), (1, .int (zI (x : Int))), (2, .int (bI dark))]) xX xB dX6_isNear_119 wl (k := 7) rfl (zI_add _ _) (by decide) rfl (fun ls wl => ?_)
            refine lv_goto (tgt := 5) xX xB dX6_isNear_122 (by decide) ?_
            exact ihK (k + 1) b2 (by omega) (by omega) (by rw [hb2, hb]; rfl) _ _ _ wP wS (lv_sub wl [5, 6, 7, 1, 0] rfl)
          refine lv_iload_n xX xB dX6_isNear_71 rfl (lv_at wl 6 rfl) ?_
          refine b_if_ne (tgt := 113) xX xB dX6_isNear_72 (by decide) (fun h72 => ?_) (fun h72 => ?_)
          · skip
            refine z_iconst xX xB dX6_isNear_113 ?_
            refine lv_goto (tgt := 118) xX xB dX6_isNear_114 (by decide) ?_
            refine lv_ri (y := bI true) rfl ?_
            exact J22 true (by first | (rw [h72]; rfl) | (unfold nrT; rw [← hnr, h77, if_pos (of_decide_eq_true h87), beq_eq_false_iff_ne.mpr h103]; simp) | (unfold nrT; rw [← hnr, h77, if_neg (of_decide_eq_false h87), h110]; simp)) _ _ _ wP wS (lv_sub wl [0, 1, 2, 3, 4, 5, 6, 7] rfl)
          · skip
            refine lv_iload xX xB dX6_isNear_75 (lv_at wl 0 rfl) ?_
            refine b_if_eq (tgt := 117) xX xB dX6_isNear_77 (by decide) (fun h77 => ?_) (fun h77 => ?_)
            · skip
              refine z_iconst xX xB dX6_isNear_117 ?_
              refine lv_ri (y := bI false) rfl ?_
              exact J22 false (by first | (rw [h72]; unfold nrT; rw [← hnr, h77]; rfl) | (rw [h72]; unfold nrT; rw [← hnr, h77, if_pos (of_decide_eq_true h87), beq_iff_eq.mpr h103]; rfl) | (rw [h72]; unfold nrT; rw [← hnr, h77, if_neg (of_decide_eq_false h87), h110]; rfl)) _ _ _ wP wS (lv_sub wl [0, 1, 2, 3, 4, 5, 6, 7] rfl)
            · skip
              refine lv_iload xX xB dX6_isNear_80 (lv_at wl 2 rfl) ?_
              refine lv_iload xX xB dX6_isNear_82 (lv_at wl 1 rfl) ?_
              refine g_pure (va_runS (As := [.int (zI ((((x : Int) / 16) + ((k : Int) / 3)) - 1)), .int (zI ((((x : Int) % 16) + ((k : Int) % 3)) - 1))]) (rest := []) ⟨xX, xB, xM, xO, xT⟩ (c_X6_isOn l D kI kB ((((x : Int) / 16) + ((k : Int) / 3)) - 1) ((((x : Int) % 16) + ((k : Int) % 3)) - 1) (by omega) (by omega)) (va_cwS 2 xT gX6_isNear_X6_isOn rfl rfl rfl hdn_X6_isOn ⟨Nat.le_of_ble_eq_true rfl, Nat.le_of_ble_eq_true rfl⟩) (g_preS wP wD wK [] (by decide) rfl) rfl rfl wl.1 rfl (lv_room (Nat.le_of_ble_eq_true rfl)) dX6_isNear_84 ⟨Nat.le_of_ble_eq_true rfl, Nat.le_of_ble_eq_true rfl⟩) wP wS (fun H locs wP wS => ?_)
              refine b_if_eq (tgt := 109) xX xB dX6_isNear_87 (by decide) (fun h87 => ?_) (fun h87 => ?_)
              · skip
                refine lv_iload_n xX xB dX6_isNear_109 rfl (lv_at wl 5 rfl) ?_
                refine b_if_eq (tgt := 117) xX xB dX6_isNear_110 (by decide) (fun h110 => ?_) (fun h110 => ?_)
                · skip
                  refine z_iconst xX xB dX6_isNear_117 ?_
                  refine lv_ri (y := bI false) rfl ?_
                  exact J22 false (by first | (rw [h72]; unfold nrT; rw [← hnr, h77]; rfl) | (rw [h72]; unfold nrT; rw [← hnr, h77, if_pos (of_decide_eq_true h87), beq_iff_eq.mpr h103]; rfl) | (rw [h72]; unfold nrT; rw [← hnr, h77, if_neg (of_decide_eq_false h87), h110]; rfl)) _ _ _ wP wS (lv_sub wl [0, 1, 2, 3, 4, 5, 6, 7] rfl)
                · skip
                  refine z_iconst xX xB dX6_isNear_113 ?_
                  refine lv_goto (tgt := 118) xX xB dX6_isNear_114 (by decide) ?_
                  refine lv_ri (y := bI true) rfl ?_
                  exact J22 true (by first | (rw [h72]; rfl) | (unfold nrT; rw [← hnr, h77, if_pos (of_decide_eq_true h87), beq_eq_false_iff_ne.mpr h103]; simp) | (unfold nrT; rw [← hnr, h77, if_neg (of_decide_eq_false h87), h110]; simp)) _ _ _ wP wS (lv_sub wl [0, 1, 2, 3, 4, 5, 6, 7] rfl)
              · skip
                refine lv_aload_n xX xB dX6_isNear_90 rfl (lv_at wl 3 rfl) ?_
                refine va_get (D := D) (ci := 6) (v := .ref a0) (C := RX6) (T := TX6) (N := 17) xX xB xT in_X6_isNear_X6 xO wK.1 wP 0 rfl rfl 0 (by decide) (xT _ (List.mem_of_getElem? (i := 1) rfl)) (fun _ h9 => h9) rfl dX6_isNear_91 ?_
                refine lv_iload xX xB dX6_isNear_94 (lv_at wl 2 rfl) ?_
                refine z_iald xX xB wK wP 1 rfl (((x : Int) / 16 + (k : Int) / 3 - 1).toNat) (by have := of_decide_eq_true h87; omega) (by have := of_decide_eq_true h87; omega) (Nat.le_of_ble_eq_true rfl) dX6_isNear_96 ?_
                refine lv_ri (y := zI (P ((x : Int) / 16 + (k : Int) / 3 - 1).toNat : Int)) (congrArg zI (hF ((x : Int) / 16 + (k : Int) / 3 - 1).toNat (by have := of_decide_eq_true h87; omega)).1) ?_
                refine lv_iload xX xB dX6_isNear_97 (lv_at wl 1 rfl) ?_
                refine lv_ri (y := zI ((((x : Int) % 16 + (k : Int) % 3 - 1).toNat : Nat) : Int)) (congrArg zI (by have := of_decide_eq_true h87; omega)) ?_
                refine g_pure (va_runS (As := [.int (zI ((P ((x : Int) / 16 + (k : Int) / 3 - 1).toNat : Nat) : Int)), .int (zI ((((x : Int) % 16 + (k : Int) % 3 - 1).toNat : Nat) : Int))]) (rest := []) ⟨xX, xB, xM, xO, xT⟩ (c_X6_has l D kI kB (P ((x : Int) / 16 + (k : Int) / 3 - 1).toNat) (((x : Int) % 16 + (k : Int) % 3 - 1).toNat) (hF _ (by have := of_decide_eq_true h87; omega)).2 (by have := of_decide_eq_true h87; omega)) (va_cwS 2 xT gX6_isNear_X6_has rfl rfl rfl hdn_X6_has ⟨Nat.le_of_ble_eq_true rfl, Nat.le_of_ble_eq_true rfl⟩) (g_preS wP wD wK [] (by decide) rfl) rfl rfl wl.1 rfl (lv_room (Nat.le_of_ble_eq_true rfl)) dX6_isNear_99 ⟨Nat.le_of_ble_eq_true rfl, Nat.le_of_ble_eq_true rfl⟩) wP wS (fun H locs wP wS => ?_)
                refine lv_iload_n xX xB dX6_isNear_102 rfl (lv_at wl 5 rfl) ?_
                refine b_icmp_eq (tgt := 117) xX xB dX6_isNear_103 (by decide) (fun h103 => ?_) (fun h103 => ?_)
                · skip
                  refine z_iconst xX xB dX6_isNear_117 ?_
                  refine lv_ri (y := bI false) rfl ?_
                  exact J22 false (by first | (rw [h72]; unfold nrT; rw [← hnr, h77]; rfl) | (rw [h72]; unfold nrT; rw [← hnr, h77, if_pos (of_decide_eq_true h87), beq_iff_eq.mpr h103]; rfl) | (rw [h72]; unfold nrT; rw [← hnr, h77, if_neg (of_decide_eq_false h87), h110]; rfl)) _ _ _ wP wS (lv_sub wl [0, 1, 2, 3, 4, 5, 6, 7] rfl)
                · skip
                  refine lv_goto (tgt := 113) xX xB dX6_isNear_106 (by decide) ?_
                  refine z_iconst xX xB dX6_isNear_113 ?_
                  refine lv_goto (tgt := 118) xX xB dX6_isNear_114 (by decide) ?_
                  refine lv_ri (y := bI true) rfl ?_
                  exact J22 true (by first | (rw [h72]; rfl) | (unfold nrT; rw [← hnr, h77, if_pos (of_decide_eq_true h87), beq_eq_false_iff_ne.mpr h103]; simp) | (unfold nrT; rw [← hnr, h77, if_neg (of_decide_eq_false h87), h110]; simp)) _ _ _ wP wS (lv_sub wl [0, 1, 2, 3, 4, 5, 6, 7] rfl)
        refine lv_iload xX xB dX6_isNear_38 (lv_at wl 6 rfl) ?_
        refine z_iconst xX xB dX6_isNear_40 ?_
        refine z_icmp_eq (tgt := 68) xX xB dX6_isNear_41 (by decide) (by omega) (by omega) (fun h41 => ?_) (fun h41 => ?_)
        · skip
          refine z_iconst xX xB dX6_isNear_68 ?_
          refine lv_ri (y := bI false) rfl ?_
          exact J11 false (by first | (rw [decide_eq_false (by omega)]; rfl) | (rw [hm, decide_eq_false h53, decide_eq_false (show ¬ k % 2 = 1 by omega)]; simp)) _ _ _ wP wS (lv_sub wl [0, 1, 2, 3, 4, 5, 6] rfl)
        · skip
          refine lv_aload_n xX xB dX6_isNear_44 rfl (lv_at wl 2 rfl) ?_
          refine va_get (D := D) (ci := 6) (v := .ref a0) (C := RX6) (T := TX6) (N := 17) xX xB xT in_X6_isNear_X6 xO wK.1 wP 0 rfl rfl 0 (by decide) (xT _ (List.mem_of_getElem? (i := 1) rfl)) (fun _ h9 => h9) rfl dX6_isNear_45 ?_
          refine z_bipush xX xB dX6_isNear_48 (by decide) ?_
          refine z_iald xX xB wK wP 1 rfl 16 rfl (by decide) (Nat.le_of_ble_eq_true rfl) dX6_isNear_50 ?_
          refine z_bipush xX xB dX6_isNear_51 (by decide) ?_
          refine z_icmp_eq (tgt := 64) xX xB dX6_isNear_53 (by decide) (by omega) (by omega) (fun h53 => ?_) (fun h53 => ?_)
          · skip
            refine z_iconst xX xB dX6_isNear_64 ?_
            refine lv_goto (tgt := 69) xX xB dX6_isNear_65 (by decide) ?_
            refine lv_ri (y := bI true) rfl ?_
            exact J11 true (by first | (rw [decide_eq_true (by omega), hm, decide_eq_true h53]; rfl) | (rw [decide_eq_true (by omega), decide_eq_true (show k % 2 = 1 by omega), Bool.or_true]; rfl)) _ _ _ wP wS (lv_sub wl [0, 1, 2, 3, 4, 5, 6] rfl)
          · skip
            refine lv_iload xX xB dX6_isNear_56 (lv_at wl 6 rfl) ?_
            refine z_iconst xX xB dX6_isNear_58 ?_
            refine z_irem xX xB dX6_isNear_59 (by omega) (by decide) ?_
            refine z_iconst xX xB dX6_isNear_60 ?_
            refine z_icmp_ne (tgt := 68) xX xB dX6_isNear_61 (by decide) (by omega) (by omega) (fun h61 => ?_) (fun h61 => ?_)
            · skip
              refine z_iconst xX xB dX6_isNear_68 ?_
              refine lv_ri (y := bI false) rfl ?_
              exact J11 false (by first | (rw [decide_eq_false (by omega)]; rfl) | (rw [hm, decide_eq_false h53, decide_eq_false (show ¬ k % 2 = 1 by omega)]; simp)) _ _ _ wP wS (lv_sub wl [0, 1, 2, 3, 4, 5, 6] rfl)
            · skip
              refine z_iconst xX xB dX6_isNear_64 ?_
              refine lv_goto (tgt := 69) xX xB dX6_isNear_65 (by decide) ?_
              refine lv_ri (y := bI true) rfl ?_
              exact J11 true (by first | (rw [decide_eq_true (by omega), hm, decide_eq_true h53]; rfl) | (rw [decide_eq_true (by omega), decide_eq_true (show k % 2 = 1 by omega), Bool.or_true]; rfl)) _ _ _ wP wS (lv_sub wl [0, 1, 2, 3, 4, 5, 6] rfl)
  exact K _ 0 false (Nat.lt_succ_self _) (by omega) rfl _ _ _ wP wS (lv_sub wl [2, 3, 4, 1, 0] rfl)
