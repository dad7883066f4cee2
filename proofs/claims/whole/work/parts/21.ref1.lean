set_option maxRecDepth 20000 in
theorem in_X6_sidesOf_X6 : ∀ w ∈ u_ws RX6 TX6 17, w ∈ wsX6_sidesOf := by decide +kernel
theorem hdn_X6_has : yX6_has.cls ≠ "java/lang/invoke/MethodHandle" ∧ yX6_has.cls ≠ "java/lang/invoke/VarHandle" ∧ (parseMethodDescriptor yX6_has.desc).map (fun d => d.parameters.length) = some 2 := by decide +kernel
theorem hdn_X6_in : yX6_in.cls ≠ "java/lang/invoke/MethodHandle" ∧ yX6_in.cls ≠ "java/lang/invoke/VarHandle" ∧ (parseMethodDescriptor yX6_in.desc).map (fun d => d.parameters.length) = some 3 := by decide +kernel
theorem hdn_X6_isOn : yX6_isOn.cls ≠ "java/lang/invoke/MethodHandle" ∧ yX6_isOn.cls ≠ "java/lang/invoke/VarHandle" ∧ (parseMethodDescriptor yX6_isOn.desc).map (fun d => d.parameters.length) = some 2 := by decide +kernel
theorem hdn_X6_bits : yX6_bits.cls ≠ "java/lang/invoke/MethodHandle" ∧ yX6_bits.cls ≠ "java/lang/invoke/VarHandle" ∧ (parseMethodDescriptor yX6_bits.desc).map (fun d => d.parameters.length) = some 1 := by decide +kernel
theorem hdn_X6_isRim : yX6_isRim.cls ≠ "java/lang/invoke/MethodHandle" ∧ yX6_isRim.cls ≠ "java/lang/invoke/VarHandle" ∧ (parseMethodDescriptor yX6_isRim.desc).map (fun d => d.parameters.length) = some 3 := by decide +kernel
set_option maxHeartbeats 4000000 in
set_option maxRecDepth 100000 in
theorem c_X6_in (l : Launch) (D : va_G) (kI kB : ClassId) (v : Int) (lo : Int) (hi : Int) (rv : -2147483648 ≤ v ∧ v ≤ 2147483647) (rl : -2147483648 ≤ lo ∧ lo ≤ 2147483647) (rh : -2147483648 ≤ hi ∧ hi ≤ 2147483647) : gI l yX6_in wsX6_in ({ frames := 0, cells := 0, slots := 0, locals := 0 } : Room) D kI kB [.int (zI v), .int (zI lo), .int (zI hi)] [] (bI (decide (lo ≤ v ∧ v ≤ hi))) := by
  refine g_start (cc := cX6_in) (maxL := 3) (ret := (some .boolean)) (by decide) rfl (Nat.le_of_ble_eq_true rfl) ?_
  intro xp xe xs xm xbl xmt xc xX xB xR xM xT xO xL xN wP wD wK ls wl
  have wS : va_S (fun _ => False) xs.heap xs.heap [] := va_S.rf
  have wl : lv_has ls 3 [(0, .int (zI v)), (1, .int (zI lo)), (2, .int (zI hi))] := wl
  refine lv_iload_n xX xB dX6_in_0 rfl (lv_at wl 0 rfl) ?_
  refine lv_iload_n xX xB dX6_in_1 rfl (lv_at wl 1 rfl) ?_
  refine z_icmp_lt (tgt := 14) xX xB dX6_in_2 (by decide) (by omega) (by omega) (fun h2 => ?_) (fun h2 => ?_)
  · skip
    refine z_iconst xX xB dX6_in_14 ?_
    refine lv_ri (y := bI false) rfl ?_
    exact g_zret xX xB xR xL wS dX6_in_15 (decide_eq_false (by omega)).symm
  · skip
    refine lv_iload_n xX xB dX6_in_5 rfl (lv_at wl 0 rfl) ?_
    refine lv_iload_n xX xB dX6_in_6 rfl (lv_at wl 2 rfl) ?_
    refine t_icmp_gt xX xB dX6_in_7 dX6_in_10 dX6_in_11 dX6_in_14 (by omega) (by omega) ?_
    exact g_zret xX xB xR xL wS dX6_in_15 (decide_eq_decide.mpr (by omega))

set_option maxHeartbeats 4000000 in
set_option maxRecDepth 100000 in
theorem c_X6_has (l : Launch) (D : va_G) (kI kB : ClassId) (n : Nat) (k : Nat) (hn : n < 65536) (hk : k < 16) : gI l yX6_has wsX6_has ({ frames := 0, cells := 0, slots := 0, locals := 0 } : Room) D kI kB [.int (zI (n : Int)), .int (zI (k : Int))] [] (bI (n.testBit k)) := by
  refine g_start (cc := cX6_has) (maxL := 2) (ret := (some .boolean)) (by decide) rfl (Nat.le_of_ble_eq_true rfl) ?_
  intro xp xe xs xm xbl xmt xc xX xB xR xM xT xO xL xN wP wD wK ls wl
  have wS : va_S (fun _ => False) xs.heap xs.heap [] := va_S.rf
  have wl : lv_has ls 2 [(0, .int (zI (n : Int))), (1, .int (zI (k : Int)))] := wl
  refine lv_iload_n xX xB dX6_has_0 rfl (lv_at wl 0 rfl) ?_
  refine lv_iload_n xX xB dX6_has_1 rfl (lv_at wl 1 rfl) ?_
  refine lv_ishr xX xB dX6_has_2 ?_
  refine lv_ri (y := zI ((n >>> k : Nat) : Int)) (zb_shr (by omega) (by omega)) ?_
  refine z_iconst xX xB dX6_has_3 ?_
  refine lv_iand xX xB dX6_has_4 ?_
  refine lv_ri (y := bI ((n).testBit k)) ((zb_and _ 1).trans (by rw [zb_bit]; unfold bI; cases (n).testBit k <;> rfl)) ?_
  refine z_iconst xX xB dX6_has_5 ?_
  refine b_icmp_ne1 (tgt := 13) xX xB dX6_has_6 (by decide) (fun h6 => ?_) (fun h6 => ?_)
  · skip
    refine z_iconst xX xB dX6_has_13 ?_
    refine lv_ri (y := bI false) rfl ?_
    exact g_zret xX xB xR xL wS dX6_has_14 h6.symm
  · skip
    refine z_iconst xX xB dX6_has_9 ?_
    refine lv_goto (tgt := 14) xX xB dX6_has_10 (by decide) ?_
    refine lv_ri (y := bI true) rfl ?_
    exact g_zret xX xB xR xL wS dX6_has_14 h6.symm

set_option maxHeartbeats 4000000 in
set_option maxRecDepth 100000 in
theorem c_X6_bits (l : Launch) (D : va_G) (kI kB : ClassId) (n : Nat) (hn : n < 65536) : gI l yX6_bits wsX6_bits ({ frames := 0, cells := 0, slots := 0, locals := 0 } : Room) D kI kB [.int (zI (n : Int))] [] (zI ((pop n : Nat) : Int)) := by
  refine g_start (cc := cX6_bits) (maxL := 3) (ret := (some .int)) (by decide) rfl (Nat.le_of_ble_eq_true rfl) ?_
  intro xp xe xs xm xbl xmt xc xX xB xR xM xT xO xL xN wP wD wK ls wl
  have wS : va_S (fun _ => False) xs.heap xs.heap [] := va_S.rf
  have wl : lv_has ls 3 [(0, .int (zI (n : Int)))] := wl
  generalize hQ : MQ xbl _ _ xs 0 0 _ = xQ
  refine z_iconst xX xB dX6_bits_0 ?_
  refine lv_istore_n (lv' := [(1, .int (zI 0)), (0, .int (zI (n : Int)))]) xX xB dX6_bits_1 rfl wl (by decide) rfl (fun ls wl => ?_)
  refine lv_iload_n xX xB dX6_bits_2 rfl (lv_at wl 1 rfl) ?_
  refine lv_istore_n (lv' := [(2, .int (zI (n : Int))), (1, .int (zI 0)), (0, .int (zI (n : Int)))]) xX xB dX6_bits_3 rfl wl (by decide) rfl (fun ls wl => ?_)
  have K : ∀ n_ : Nat, ∀ (k_ : Nat) (t_ : Nat), t_ < n_ → (k_ + pop t_ = pop n) → (t_ < 65536) → ∀ (H : Heap) (locs : List Loc) (ls : Array Slot), va_P D gC [] H → va_S (fun _ => False) xs.heap H locs → lv_has ls 3 [(0, .int (zI (n : Int))), (1, .int (zI (k_ : Int))), (2, .int (zI (t_ : Int)))] → W xp l xe ({ frames := 0, cells := 0, slots := 0, locals := 0 } : Room) xs xm (List.toArray [.int (zI (n : Int))]) xbl xmt xc H locs 0 0 xQ (F0 xm 4 ls []) := by
    intro n_
    induction n_ with
    | zero =>
      intro k_ t_ hme
      exact absurd hme (Nat.not_lt_zero _)
    | succ n_ ihK =>
      intro k_ t_ hme h1 h2 H locs ls wP wS wl
      have hp := pop_le n
      refine lv_iload_n xX xB dX6_bits_4 rfl (lv_at wl 2 rfl) ?_
      refine z_if_eq (tgt := 20) xX xB dX6_bits_5 (by decide) (by omega) (fun h5 => ?_) (fun h5 => ?_)
      · skip
        refine lv_iload_n xX xB dX6_bits_20 rfl (lv_at wl 1 rfl) ?_
        subst hQ
        exact g_iret xX xB xR xL wS dX6_bits_21 (congrArg (fun z : Nat => zI (z : Int)) (kn_end h1 h5))
      · skip
        refine lv_iinc (v := zI ((k_ : Int) + 1)) (lv' := [(1, .int (zI ((k_ : Int) + 1))), (0, .int (zI (n : Int))), (2, .int (zI (t_ : Int)))]) xX xB dX6_bits_8 wl (k := 1) rfl (zI_add _ _) (by decide) rfl (fun ls wl => ?_)
        refine lv_iload_n xX xB dX6_bits_11 rfl (lv_at wl 2 rfl) ?_
        refine lv_iload_n xX xB dX6_bits_12 rfl (lv_at wl 2 rfl) ?_
        refine z_iconst xX xB dX6_bits_13 ?_
        refine z_isub xX xB dX6_bits_14 ?_
        have hs0 : t_ ≠ 0 := fun z => h5 (by omega)
        refine lv_ri (y := zI ((t_ - 1 : Nat) : Int)) (congrArg zI (by omega)) ?_
        refine lv_iand xX xB dX6_bits_15 ?_
        refine lv_ri (y := zI ((t_ &&& (t_ - 1) : Nat) : Int)) (zb_and _ _) ?_
        refine lv_istore_n (lv' := [(2, .int (zI ((t_ &&& (t_ - 1) : Nat) : Int))), (1, .int (zI ((k_ : Int) + 1))), (0, .int (zI (n : Int)))]) xX xB dX6_bits_16 rfl wl (by decide) rfl (fun ls wl => ?_)
        refine lv_goto (tgt := 4) xX xB dX6_bits_17 (by decide) ?_
        exact ihK (k_ + 1) (t_ &&& (t_ - 1)) (by have : t_ &&& (t_ - 1) ≤ t_ - 1 := Nat.and_le_right; omega) (by have := kn_pop h2 hs0; omega) (and_leL h2 _) _ _ _ wP wS (lv_sub wl [2, 1, 0] rfl)
  exact K _ 0 n (Nat.lt_succ_self _) (Nat.zero_add _) hn _ _ _ wP wS (lv_sub wl [2, 1, 0] rfl)

set_option maxHeartbeats 4000000 in
set_option maxRecDepth 100000 in
theorem c_X6_isDark (l : Launch) (D : va_G) (kI kB : ClassId) (a : Nat) (F : Nat → Int) (P : Nat → Nat) (x : Nat) (hF : Pic F P) (hx : x < 256) : gI l yX6_isDark wsX6_isDark ({ frames := 1, cells := 0, slots := 0, locals := 21 } : Room) D kI kB [.ref a, .int (zI (x : Int))] [(a, .inl (kI, 17, .inl (aZ F)))] (bI (dk P x)) := by
  refine g_start (cc := cX6_isDark) (maxL := 2) (ret := (some .boolean)) (by decide) rfl (Nat.le_of_ble_eq_true rfl) ?_
  intro xp xe xs xm xbl xmt xc xX xB xR xM xT xO xL xN wP wD wK ls wl
  have wS : va_S (fun _ => False) xs.heap xs.heap [] := va_S.rf
  have wl : lv_has ls 2 [(0, .ref a), (1, .int (zI (x : Int)))] := wl
  refine lv_aload_n xX xB dX6_isDark_0 rfl (lv_at wl 0 rfl) ?_
  refine lv_iload_n xX xB dX6_isDark_1 rfl (lv_at wl 1 rfl) ?_
  refine z_bipush xX xB dX6_isDark_2 (by decide) ?_
  refine z_idiv xX xB dX6_isDark_4 (by omega) (by decide) ?_
  refine z_iald xX xB wK wP 0 rfl (x / 16) (by omega) (by omega) (Nat.le_of_ble_eq_true rfl) dX6_isDark_5 ?_
  refine lv_ri (y := zI (P (x / 16) : Int)) (congrArg zI (hF (x / 16) (by omega)).1) ?_
  refine lv_iload_n xX xB dX6_isDark_6 rfl (lv_at wl 1 rfl) ?_
  refine z_bipush xX xB dX6_isDark_7 (by decide) ?_
  refine z_irem xX xB dX6_isDark_9 (by omega) (by decide) ?_
  refine g_pure (va_runS (As := [.int (zI ((P (x / 16) : Nat) : Int)), .int (zI ((x : Int) % 16))]) (rest := []) ⟨xX, xB, xM, xO, xT⟩ (c_X6_has l D kI kB (P (x / 16)) (x % 16) (hF _ (by omega)).2 (by omega)) (va_cwS 2 xT gX6_isDark_X6_has rfl rfl rfl hdn_X6_has ⟨Nat.le_of_ble_eq_true rfl, Nat.le_of_ble_eq_true rfl⟩) (g_preS wP wD wK [] (by decide) rfl) rfl rfl wl.1 rfl (lv_room (Nat.le_of_ble_eq_true rfl)) dX6_isDark_10 ⟨Nat.le_of_ble_eq_true rfl, Nat.le_of_ble_eq_true rfl⟩) wP wS (fun H locs wP wS => ?_)
  exact g_zret xX xB xR xL wS dX6_isDark_13 rfl

set_option maxHeartbeats 4000000 in
set_option maxRecDepth 100000 in
theorem c_X6_copies (l : Launch) (D : va_G) (kI kB : ClassId) (a : Nat) (b : Nat) (F : Nat → Int) (G : Nat → Int) : gV l yX6_copies wsX6_copies ({ frames := 0, cells := 0, slots := 0, locals := 0 } : Room) D kI kB [.ref a, .ref b] [(a, .inl (kI, 17, .inl (aZ F))), (b, .inl (kI, 17, .inl (aZ G)))] (fun (G1 : Nat → Int) => [(a, .inl (kI, 17, .inl (aZ F))), (b, .inl (kI, 17, .inl (aZ G1)))]) (fun (G1 : Nat → Int) => ∀ k, k < 17 → G1 k = F k) := by
  refine g_start (cc := cX6_copies) (maxL := 3) (ret := none) (by decide) rfl (Nat.le_of_ble_eq_true rfl) ?_
  intro xp xe xs xm xbl xmt xc xX xB xR xM xT xO xL xN wP wD wK ls wl
  have wS : va_S (gA [(a, .inl (kI, 17, .inl (aZ F))), (b, .inl (kI, 17, .inl (aZ G)))]) xs.heap xs.heap [] := va_S.rf
  have wl : lv_has ls 3 [(0, .ref a), (1, .ref b)] := wl
  generalize hQ : MQ xbl _ _ xs 0 0 _ = xQ
  refine z_iconst xX xB dX6_copies_0 ?_
  refine lv_istore_n (lv' := [(2, .int (zI 0)), (0, .ref a), (1, .ref b)]) xX xB dX6_copies_1 rfl wl (by decide) rfl (fun ls wl => ?_)
  have K : ∀ n_ : Nat, ∀ (i : Nat) (G1 : Nat → Int), 17 - i < n_ → (i ≤ 17) → (∀ k, k < i → G1 k = F k) → ∀ (H : Heap) (locs : List Loc) (ls : Array Slot), va_P D gC [(a, .inl (kI, 17, .inl (aZ F))), (b, .inl (kI, 17, .inl (aZ G1)))] H → va_D (gA [(a, .inl (kI, 17, .inl (aZ F))), (b, .inl (kI, 17, .inl (aZ G)))]) [(a, .inl (kI, 17, .inl (aZ F))), (b, .inl (kI, 17, .inl (aZ G1)))] → va_S (gA [(a, .inl (kI, 17, .inl (aZ F))), (b, .inl (kI, 17, .inl (aZ G)))]) xs.heap H locs → lv_has ls 3 [(0, .ref a), (1, .ref b), (2, .int (zI (i : Int)))] → W xp l xe ({ frames := 0, cells := 0, slots := 0, locals := 0 } : Room) xs xm (List.toArray [.ref a, .ref b]) xbl xmt xc H locs 0 0 xQ (F0 xm 2 ls []) := by
    intro n_
    induction n_ with
    | zero =>
      intro i G1 hme
      exact absurd hme (Nat.not_lt_zero _)
    | succ n_ ihK =>
      intro i G1 hme hi hG H locs ls wP wD wS wl
      refine lv_iload_n xX xB dX6_copies_2 rfl (lv_at wl 2 rfl) ?_
      refine z_bipush xX xB dX6_copies_3 (by decide) ?_
      refine z_icmp_ge (tgt := 20) xX xB dX6_copies_5 (by decide) (by omega) (by omega) (fun h5 => ?_) (fun h5 => ?_)
      · skip
        subst hQ
        exact g_vret G1 xX xB xR xL wP wS dX6_copies_20 (fun k hk => hG k (by omega))
      · skip
        refine lv_aload_n xX xB dX6_copies_8 rfl (lv_at wl 1 rfl) ?_
        refine lv_iload_n xX xB dX6_copies_9 rfl (lv_at wl 2 rfl) ?_
        refine lv_aload_n xX xB dX6_copies_10 rfl (lv_at wl 0 rfl) ?_
        refine lv_iload_n xX xB dX6_copies_11 rfl (lv_at wl 2 rfl) ?_
        refine z_iald xX xB wK wP 0 rfl i rfl (by omega) (Nat.le_of_ble_eq_true rfl) dX6_copies_12 ?_
        refine z_iast xX xB wK wP wD wS 1 rfl i rfl (by omega) (Nat.le_of_ble_eq_true rfl) dX6_copies_13 (fun H locs wP wD wS => ?_)
        have wP : va_P D gC [(a, .inl (kI, 17, .inl (aZ F))), (b, .inl (kI, 17, .inl (aZ (uZ G1 i (F i)))))] H := wP
        have wD : va_D (gA [(a, .inl (kI, 17, .inl (aZ F))), (b, .inl (kI, 17, .inl (aZ G)))]) [(a, .inl (kI, 17, .inl (aZ F))), (b, .inl (kI, 17, .inl (aZ (uZ G1 i (F i)))))] := wD
        refine lv_iinc (v := zI ((i : Int) + 1)) (lv' := [(2, .int (zI ((i : Int) + 1))), (0, .ref a), (1, .ref b)]) xX xB dX6_copies_14 wl (k := 2) rfl (zI_add _ _) (by decide) rfl (fun ls wl => ?_)
        refine lv_goto (tgt := 2) xX xB dX6_copies_17 (by decide) ?_
        exact ihK (i + 1) (uZ G1 i (F i)) (by omega) (by omega) (ext_eq hG) _ _ _ wP wD wS (lv_sub wl [1, 2, 0] rfl)
  exact K _ 0 G (Nat.lt_succ_self _) (by omega) (fun k hk => absurd hk (Nat.not_lt_zero k)) _ _ _ wP wD wS (lv_sub wl [1, 2, 0] rfl)

set_option maxHeartbeats 4000000 in
set_option maxRecDepth 100000 in
theorem c_X6_isOn (l : Launch) (D : va_G) (kI kB : ClassId) (r : Int) (q : Int) (rr : -2147483648 ≤ r ∧ r ≤ 2147483647) (rq : -2147483648 ≤ q ∧ q ≤ 2147483647) : gI l yX6_isOn wsX6_isOn ({ frames := 1, cells := 0, slots := 0, locals := 22 } : Room) D kI kB [.int (zI r), .int (zI q)] [] (bI (decide ((0 ≤ r ∧ r ≤ 15) ∧ (0 ≤ q ∧ q ≤ 15)))) := by
  refine g_start (cc := cX6_isOn) (maxL := 2) (ret := (some .boolean)) (by decide) rfl (Nat.le_of_ble_eq_true rfl) ?_
  intro xp xe xs xm xbl xmt xc xX xB xR xM xT xO xL xN wP wD wK ls wl
  have wS : va_S (fun _ => False) xs.heap xs.heap [] := va_S.rf
  have wl : lv_has ls 2 [(0, .int (zI r)), (1, .int (zI q))] := wl
  refine lv_iload_n xX xB dX6_isOn_0 rfl (lv_at wl 0 rfl) ?_
  refine z_iconst xX xB dX6_isOn_1 ?_
  refine z_bipush xX xB dX6_isOn_2 (by decide) ?_
  refine g_pure (va_runS (As := [.int (zI r), .int (zI 0), .int (zI 15)]) (rest := []) ⟨xX, xB, xM, xO, xT⟩ (c_X6_in l D kI kB r 0 15 (by omega) (by omega) (by omega)) (va_cwS 3 xT gX6_isOn_X6_in rfl rfl rfl hdn_X6_in ⟨Nat.le_of_ble_eq_true rfl, Nat.le_of_ble_eq_true rfl⟩) (g_preS wP wD wK [] (by decide) rfl) rfl rfl wl.1 rfl (lv_room (Nat.le_of_ble_eq_true rfl)) dX6_isOn_4 ⟨Nat.le_of_ble_eq_true rfl, Nat.le_of_ble_eq_true rfl⟩) wP wS (fun H locs wP wS => ?_)
  refine b_if_eq (tgt := 24) xX xB dX6_isOn_7 (by decide) (fun h7 => ?_) (fun h7 => ?_)
  · skip
    refine z_iconst xX xB dX6_isOn_24 ?_
    refine lv_ri (y := bI false) rfl ?_
    exact g_zret xX xB xR xL wS dX6_isOn_25 (decide_eq_false (fun z => of_decide_eq_false h7 z.1)).symm
  · skip
    refine lv_iload_n xX xB dX6_isOn_10 rfl (lv_at wl 1 rfl) ?_
    refine z_iconst xX xB dX6_isOn_11 ?_
    refine z_bipush xX xB dX6_isOn_12 (by decide) ?_
    refine g_pure (va_runS (As := [.int (zI q), .int (zI 0), .int (zI 15)]) (rest := []) ⟨xX, xB, xM, xO, xT⟩ (c_X6_in l D kI kB q 0 15 (by omega) (by omega) (by omega)) (va_cwS 3 xT gX6_isOn_X6_in rfl rfl rfl hdn_X6_in ⟨Nat.le_of_ble_eq_true rfl, Nat.le_of_ble_eq_true rfl⟩) (g_preS wP wD wK [] (by decide) rfl) rfl rfl wl.1 rfl (lv_room (Nat.le_of_ble_eq_true rfl)) dX6_isOn_14 ⟨Nat.le_of_ble_eq_true rfl, Nat.le_of_ble_eq_true rfl⟩) wP wS (fun H locs wP wS => ?_)
    refine t_b_eq xX xB dX6_isOn_17 dX6_isOn_20 dX6_isOn_21 dX6_isOn_24 ?_
    exact g_zret xX xB xR xL wS dX6_isOn_25 (decide_eq_decide.mpr ⟨fun z => ⟨of_decide_eq_true h7, z⟩, fun z => z.2⟩)

set_option maxHeartbeats 4000000 in
set_option maxRecDepth 100000 in
theorem c_X6_isRim (l : Launch) (D : va_G) (kI kB : ClassId) (a : Nat) (F : Nat → Int) (P : Nat → Nat) (r : Int) (q : Int) (hF : Pic F P) (rr : -100 ≤ r ∧ r ≤ 100) (rq : -100 ≤ q ∧ q ≤ 100) : gI l yX6_isRim wsX6_isRim ({ frames := 2, cells := 0, slots := 0, locals := 43 } : Room) D kI kB [.ref a, .int (zI r), .int (zI q)] [(a, .inl (kI, 17, .inl (aZ F)))] (bI (!(dz P r q))) := by
  refine g_start (cc := cX6_isRim) (maxL := 3) (ret := (some .boolean)) (by decide) rfl (Nat.le_of_ble_eq_true rfl) ?_
  intro xp xe xs xm xbl xmt xc xX xB xR xM xT xO xL xN wP wD wK ls wl
  have wS : va_S (fun _ => False) xs.heap xs.heap [] := va_S.rf
  have wl : lv_has ls 3 [(0, .ref a), (1, .int (zI r)), (2, .int (zI q))] := wl
  refine lv_iload_n xX xB dX6_isRim_0 rfl (lv_at wl 1 rfl) ?_
  refine lv_iload_n xX xB dX6_isRim_1 rfl (lv_at wl 2 rfl) ?_
  refine g_pure (va_runS (As := [.int (zI r), .int (zI q)]) (rest := []) ⟨xX, xB, xM, xO, xT⟩ (c_X6_isOn l D kI kB r q (by omega) (by omega)) (va_cwS 2 xT gX6_isRim_X6_isOn rfl rfl rfl hdn_X6_isOn ⟨Nat.le_of_ble_eq_true rfl, Nat.le_of_ble_eq_true rfl⟩) (g_preS wP wD wK [] (by decide) rfl) rfl rfl wl.1 rfl (lv_room (Nat.le_of_ble_eq_true rfl)) dX6_isRim_2 ⟨Nat.le_of_ble_eq_true rfl, Nat.le_of_ble_eq_true rfl⟩) wP wS (fun H locs wP wS => ?_)
  refine b_if_eq (tgt := 18) xX xB dX6_isRim_5 (by decide) (fun h5 => ?_) (fun h5 => ?_)
  · skip
    refine z_iconst xX xB dX6_isRim_18 ?_
    refine lv_goto (tgt := 23) xX xB dX6_isRim_19 (by decide) ?_
    refine lv_ri (y := bI true) rfl ?_
    exact g_zret xX xB xR xL wS dX6_isRim_23 (by rw [dz_out (of_decide_eq_false h5)]; rfl)
  · skip
    refine lv_aload_n xX xB dX6_isRim_8 rfl (lv_at wl 0 rfl) ?_
    refine lv_iload_n xX xB dX6_isRim_9 rfl (lv_at wl 1 rfl) ?_
    refine z_iald xX xB wK wP 0 rfl r.toNat (by have := of_decide_eq_true h5; omega) (by have := of_decide_eq_true h5; omega) (Nat.le_of_ble_eq_true rfl) dX6_isRim_10 ?_
    refine lv_ri (y := zI (P r.toNat : Int)) (congrArg zI (hF r.toNat (by have := of_decide_eq_true h5; omega)).1) ?_
    refine lv_iload_n xX xB dX6_isRim_11 rfl (lv_at wl 2 rfl) ?_
    refine lv_ri (y := zI ((q.toNat : Nat) : Int)) (congrArg zI (by have := of_decide_eq_true h5; omega)) ?_
    refine g_pure (va_runS (As := [.int (zI ((P r.toNat : Nat) : Int)), .int (zI (q.toNat : Int))]) (rest := []) ⟨xX, xB, xM, xO, xT⟩ (c_X6_has l D kI kB (P r.toNat) q.toNat (hF _ (by have := of_decide_eq_true h5; omega)).2 (by have := of_decide_eq_true h5; omega)) (va_cwS 2 xT gX6_isRim_X6_has rfl rfl rfl hdn_X6_has ⟨Nat.le_of_ble_eq_true rfl, Nat.le_of_ble_eq_true rfl⟩) (g_preS wP wD wK [] (by decide) rfl) rfl rfl wl.1 rfl (lv_room (Nat.le_of_ble_eq_true rfl)) dX6_isRim_12 ⟨Nat.le_of_ble_eq_true rfl, Nat.le_of_ble_eq_true rfl⟩) wP wS (fun H locs wP wS => ?_)
    refine t_b_ne xX xB dX6_isRim_15 dX6_isRim_18 dX6_isRim_19 dX6_isRim_22 ?_
    exact g_zret xX xB xR xL wS dX6_isRim_23 (by rw [dz_in (of_decide_eq_true h5)])

set_option maxHeartbeats 4000000 in
set_option maxRecDepth 100000 in
theorem c_X6_runsOf (l : Launch) (D : va_G) (kI kB : ClassId) (n : Nat) (hn : n < 65536) : gI l yX6_runsOf wsX6_runsOf ({ frames := 1, cells := 0, slots := 0, locals := 22 } : Room) D kI kB [.int (zI (n : Int))] [] (zI ((rnN n : Nat) : Int)) := by
  refine g_start (cc := cX6_runsOf) (maxL := 1) (ret := (some .int)) (by decide) rfl (Nat.le_of_ble_eq_true rfl) ?_
  intro xp xe xs xm xbl xmt xc xX xB xR xM xT xO xL xN wP wD wK ls wl
  have wS : va_S (fun _ => False) xs.heap xs.heap [] := va_S.rf
  have wl : lv_has ls 1 [(0, .int (zI (n : Int)))] := wl
  refine lv_iload_n xX xB dX6_runsOf_0 rfl (lv_at wl 0 rfl) ?_
  refine lv_iload_n xX xB dX6_runsOf_1 rfl (lv_at wl 0 rfl) ?_
  refine z_iconst xX xB dX6_runsOf_2 ?_
  refine lv_ishl xX xB dX6_runsOf_3 ?_
  refine lv_ri (y := zI ((n <<< 1 : Nat) : Int)) (zb_shl1 hn) ?_
  refine z_iconst xX xB dX6_runsOf_4 ?_
  refine lv_ixor xX xB dX6_runsOf_5 ?_
  refine lv_iand xX xB dX6_runsOf_6 ?_
  refine lv_ri (y := zI ((andn n (n <<< 1) : Nat) : Int)) (zb_andn _ _ hn (by rw [Nat.shiftLeft_eq]; omega)) ?_
  refine g_pure (va_runS (As := [.int (zI ((andn n (n <<< 1) : Nat) : Int))]) (rest := []) ⟨xX, xB, xM, xO, xT⟩ (c_X6_bits l D kI kB (andn n (n <<< 1)) (andn_le _ _ hn)) (va_cwS 1 xT gX6_runsOf_X6_bits rfl rfl rfl hdn_X6_bits ⟨Nat.le_of_ble_eq_true rfl, Nat.le_of_ble_eq_true rfl⟩) (g_preS wP wD wK [] (by decide) rfl) rfl rfl wl.1 rfl (lv_room (Nat.le_of_ble_eq_true rfl)) dX6_runsOf_7 ⟨Nat.le_of_ble_eq_true rfl, Nat.le_of_ble_eq_true rfl⟩) wP wS (fun H locs wP wS => ?_)
  exact g_iret xX xB xR xL wS dX6_runsOf_10 rfl

set_option maxHeartbeats 4000000 in
set_option maxRecDepth 100000 in
theorem c_X6_darkOf (l : Launch) (D : va_G) (kI kB : ClassId) (h : Nat) (a0 : Nat) (a1 : Nat) (a3 : Nat) (a4 : Nat) (a8 : Nat) (a9 : Nat) (a10 : Nat) (a13 : Nat) (a14 : Nat) (a15 : Nat) (a16 : Nat) (sd : Int) (dM : Int) (lM : Int) (hM : Int) (uM : Int) (uA : Int) (a : Nat) (F : Nat → Int) (P : Nat → Nat) (hF : Pic F P) : gI l yX6_darkOf wsX6_darkOf ({ frames := 1, cells := 0, slots := 0, locals := 22 } : Room) D kI kB [.ref h, .ref a] [(h, .inr (6, [.ref a0, .ref a1, .int (zI sd), .ref a3, .ref a4, .int (zI dM), .int (zI lM), .int (zI hM), .ref a8, .ref a9, .ref a10, .int (zI uM), .int (zI uA), .ref a13, .ref a14, .ref a15, .ref a16])), (a, .inl (kI, 17, .inl (aZ F)))] (zI ((dots P : Nat) : Int)) := by
  refine g_start (cc := cX6_darkOf) (maxL := 4) (ret := (some .int)) (by decide) rfl (Nat.le_of_ble_eq_true rfl) ?_
  intro xp xe xs xm xbl xmt xc xX xB xR xM xT xO xL xN wP wD wK ls wl
  have wS : va_S (fun _ => False) xs.heap xs.heap [] := va_S.rf
  have wl : lv_has ls 4 [(0, .ref h), (1, .ref a)] := wl
  generalize hQ : MQ xbl _ _ xs 0 0 _ = xQ
  refine z_iconst xX xB dX6_darkOf_0 ?_
  refine lv_istore_n (lv' := [(2, .int (zI 0)), (0, .ref h), (1, .ref a)]) xX xB dX6_darkOf_1 rfl wl (by decide) rfl (fun ls wl => ?_)
  refine z_iconst xX xB dX6_darkOf_2 ?_
  refine lv_istore_n (lv' := [(3, .int (zI 0)), (2, .int (zI 0)), (0, .ref h), (1, .ref a)]) xX xB dX6_darkOf_3 rfl wl (by decide) rfl (fun ls wl => ?_)
  have K : ∀ n_ : Nat, ∀ (i : Nat) (t : Nat), 16 - i < n_ → (i ≤ 16) → (t = fb_sm (fun r => pop (P r)) i) → ∀ (H : Heap) (locs : List Loc) (ls : Array Slot), va_P D gC [(h, .inr (6, [.ref a0, .ref a1, .int (zI sd), .ref a3, .ref a4, .int (zI dM), .int (zI lM), .int (zI hM), .ref a8, .ref a9, .ref a10, .int (zI uM), .int (zI uA), .ref a13, .ref a14, .ref a15, .ref a16])), (a, .inl (kI, 17, .inl (aZ F)))] H → va_S (fun _ => False) xs.heap H locs → lv_has ls 4 [(0, .ref h), (1, .ref a), (2, .int (zI (t : Int))), (3, .int (zI (i : Int)))] → W xp l xe ({ frames := 1, cells := 0, slots := 0, locals := 22 } : Room) xs xm (List.toArray [.ref h, .ref a]) xbl xmt xc H locs 0 0 xQ (F0 xm 4 ls []) := by
    intro n_
    induction n_ with
    | zero =>
      intro i t hme
      exact absurd hme (Nat.not_lt_zero _)
    | succ n_ ihK =>
      intro i t hme hi ht H locs ls wP wS wl
      have hbd := sm_bd P i
      refine lv_iload_n xX xB dX6_darkOf_4 rfl (lv_at wl 3 rfl) ?_
      refine z_bipush xX xB dX6_darkOf_5 (by decide) ?_
      refine z_icmp_ge (tgt := 25) xX xB dX6_darkOf_7 (by decide) (by omega) (by omega) (fun h7 => ?_) (fun h7 => ?_)
      · skip
        refine lv_iload_n xX xB dX6_darkOf_25 rfl (lv_at wl 2 rfl) ?_
        subst hQ
        exact g_iret xX xB xR xL wS dX6_darkOf_26 (congrArg (fun z : Nat => zI (z : Int)) (by rw [ht, show i = 16 by omega]; rfl))
      · skip
        refine lv_iload_n xX xB dX6_darkOf_10 rfl (lv_at wl 2 rfl) ?_
        refine lv_aload_n xX xB dX6_darkOf_11 rfl (lv_at wl 1 rfl) ?_
        refine lv_iload_n xX xB dX6_darkOf_12 rfl (lv_at wl 3 rfl) ?_
        refine z_iald xX xB wK wP 1 rfl i rfl (by omega) (Nat.le_of_ble_eq_true rfl) dX6_darkOf_13 ?_
        refine lv_ri (y := zI (P (i) : Int)) (congrArg zI (hF (i) (by omega)).1) ?_
        refine g_pure (va_runS (As := [.int (zI ((P (i) : Nat) : Int))]) (rest := [.int (zI (t : Int))]) ⟨xX, xB, xM, xO, xT⟩ (c_X6_bits l D kI kB (P (i)) (hF i (by omega)).2) (va_cwS 1 xT gX6_darkOf_X6_bits rfl rfl rfl hdn_X6_bits ⟨Nat.le_of_ble_eq_true rfl, Nat.le_of_ble_eq_true rfl⟩) (g_preS wP wD wK [] (by decide) rfl) rfl rfl wl.1 rfl (lv_room (Nat.le_of_ble_eq_true rfl)) dX6_darkOf_14 ⟨Nat.le_of_ble_eq_true rfl, Nat.le_of_ble_eq_true rfl⟩) wP wS (fun H locs wP wS => ?_)
        refine z_iadd xX xB dX6_darkOf_17 ?_
        refine lv_istore_n (lv' := [(2, .int (zI ((t : Int) + ((pop (P (i)) : Nat) : Int)))), (0, .ref h), (1, .ref a), (3, .int (zI (i : Int)))]) xX xB dX6_darkOf_18 rfl wl (by decide) rfl (fun ls wl => ?_)
        refine lv_iinc (v := zI ((i : Int) + 1)) (lv' := [(3, .int (zI ((i : Int) + 1))), (2, .int (zI ((t : Int) + ((pop (P (i)) : Nat) : Int)))), (0, .ref h), (1, .ref a)]) xX xB dX6_darkOf_19 wl (k := 3) rfl (zI_add _ _) (by decide) rfl (fun ls wl => ?_)
        refine lv_goto (tgt := 4) xX xB dX6_darkOf_22 (by decide) ?_
        exact ihK (i + 1) (t + (pop (P (i)))) (by omega) (by omega) (by rw [ht]; rfl) _ _ _ wP wS (lv_sub wl [2, 3, 1, 0] rfl)
  exact K _ 0 0 (Nat.lt_succ_self _) (by omega) rfl _ _ _ wP wS (lv_sub wl [2, 3, 1, 0] rfl)

set_option maxHeartbeats 4000000 in
set_option maxRecDepth 100000 in
theorem c_X6_sidesOf (l : Launch) (D : va_G) (kI kB : ClassId) (h : Nat) (a0 : Nat) (a1 : Nat) (a3 : Nat) (a4 : Nat) (a8 : Nat) (a9 : Nat) (a10 : Nat) (a13 : Nat) (a14 : Nat) (a15 : Nat) (a16 : Nat) (sd : Int) (dM : Int) (lM : Int) (hM : Int) (uM : Int) (uA : Int) (F : Nat → Int) (P : Nat → Nat) (x : Nat) (hF : Pic F P) (hx : x < 256) : gI l yX6_sidesOf wsX6_sidesOf ({ frames := 3, cells := 0, slots := 0, locals := 65 } : Room) D kI kB [.ref h, .int (zI (x : Int))] [(h, .inr (6, [.ref a0, .ref a1, .int (zI sd), .ref a3, .ref a4, .int (zI dM), .int (zI lM), .int (zI hM), .ref a8, .ref a9, .ref a10, .int (zI uM), .int (zI uA), .ref a13, .ref a14, .ref a15, .ref a16])), (a0, .inl (kI, 17, .inl (aZ F)))] (zI ((sdN P x : Nat) : Int)) := by
  refine g_start (cc := cX6_sidesOf) (maxL := 4) (ret := (some .int)) (by decide) rfl (Nat.le_of_ble_eq_true rfl) ?_
  intro xp xe xs xm xbl xmt xc xX xB xR xM xT xO xL xN wP wD wK ls wl
  have wS : va_S (fun _ => False) xs.heap xs.heap [] := va_S.rf
  have wl : lv_has ls 4 [(0, .ref h), (1, .int (zI (x : Int)))] := wl
  refine lv_iload_n xX xB dX6_sidesOf_0 rfl (lv_at wl 1 rfl) ?_
  refine z_bipush xX xB dX6_sidesOf_1 (by decide) ?_
  refine z_idiv xX xB dX6_sidesOf_3 (by omega) (by decide) ?_
  refine lv_istore_n (lv' := [(2, .int (zI ((x : Int) / 16))), (0, .ref h), (1, .int (zI (x : Int)))]) xX xB dX6_sidesOf_4 rfl wl (by decide) rfl (fun ls wl => ?_)
  refine lv_iload_n xX xB dX6_sidesOf_5 rfl (lv_at wl 2 rfl) ?_
  refine z_bipush xX xB dX6_sidesOf_6 (by decide) ?_
  refine z_irem xX xB dX6_sidesOf_8 (by omega) (by decide) ?_
  refine lv_istore_n (lv' := [(3, .int (zI ((x : Int) % 16))), (2, .int (zI ((x : Int) / 16))), (0, .ref h), (1, .int (zI (x : Int)))]) xX xB dX6_sidesOf_9 rfl wl (by decide) rfl (fun ls wl => ?_)
  refine lv_aload_n xX xB dX6_sidesOf_10 rfl (lv_at wl 2 rfl) ?_
  refine va_get (D := D) (ci := 6) (v := .ref a0) (C := RX6) (T := TX6) (N := 17) xX xB xT in_X6_sidesOf_X6 xO wK.1 wP 0 rfl rfl 0 (by decide) (xT _ (List.mem_of_getElem? (i := 1) rfl)) (fun _ h9 => h9) rfl dX6_sidesOf_11 ?_
  refine lv_iload_n xX xB dX6_sidesOf_14 rfl (lv_at wl 1 rfl) ?_
  refine z_iconst xX xB dX6_sidesOf_15 ?_
  refine z_isub xX xB dX6_sidesOf_16 ?_
  refine lv_iload_n xX xB dX6_sidesOf_17 rfl (lv_at wl 0 rfl) ?_
  refine g_pure (va_runS (As := [.ref a0, .int (zI (((x : Int) / 16) - 1)), .int (zI ((x : Int) % 16))]) (rest := []) ⟨xX, xB, xM, xO, xT⟩ (c_X6_isRim l D kI kB a0 F P (((x : Int) / 16) - 1) ((x : Int) % 16) hF (by omega) (by omega)) (va_cwS 3 xT gX6_sidesOf_X6_isRim rfl rfl rfl hdn_X6_isRim ⟨Nat.le_of_ble_eq_true rfl, Nat.le_of_ble_eq_true rfl⟩) (g_preS wP wD wK [1] (by decide) rfl) rfl rfl wl.1 rfl (lv_room (Nat.le_of_ble_eq_true rfl)) dX6_sidesOf_18 ⟨Nat.le_of_ble_eq_true rfl, Nat.le_of_ble_eq_true rfl⟩) wP wS (fun H locs wP wS => ?_)
  refine t_b_eq xX xB dX6_sidesOf_21 dX6_sidesOf_24 dX6_sidesOf_25 dX6_sidesOf_28 ?_
  refine lv_ri (bI_Z _) ?_
  refine lv_aload_n xX xB dX6_sidesOf_29 rfl (lv_at wl 2 rfl) ?_
  refine va_get (D := D) (ci := 6) (v := .ref a0) (C := RX6) (T := TX6) (N := 17) xX xB xT in_X6_sidesOf_X6 xO wK.1 wP 0 rfl rfl 0 (by decide) (xT _ (List.mem_of_getElem? (i := 1) rfl)) (fun _ h9 => h9) rfl dX6_sidesOf_30 ?_
  refine lv_iload_n xX xB dX6_sidesOf_33 rfl (lv_at wl 1 rfl) ?_
  refine z_iconst xX xB dX6_sidesOf_34 ?_
  refine z_iadd xX xB dX6_sidesOf_35 ?_
  refine lv_iload_n xX xB dX6_sidesOf_36 rfl (lv_at wl 0 rfl) ?_
  refine g_pure (va_runS (As := [.ref a0, .int (zI (((x : Int) / 16) + 1)), .int (zI ((x : Int) % 16))]) (rest := [.int (zI ((bZ (!(dz P (((x : Int) / 16) - 1) ((x : Int) % 16))) : Nat) : Int))]) ⟨xX, xB, xM, xO, xT⟩ (c_X6_isRim l D kI kB a0 F P (((x : Int) / 16) + 1) ((x : Int) % 16) hF (by omega) (by omega)) (va_cwS 3 xT gX6_sidesOf_X6_isRim rfl rfl rfl hdn_X6_isRim ⟨Nat.le_of_ble_eq_true rfl, Nat.le_of_ble_eq_true rfl⟩) (g_preS wP wD wK [1] (by decide) rfl) rfl rfl wl.1 rfl (lv_room (Nat.le_of_ble_eq_true rfl)) dX6_sidesOf_37 ⟨Nat.le_of_ble_eq_true rfl, Nat.le_of_ble_eq_true rfl⟩) wP wS (fun H locs wP wS => ?_)
  refine t_b_eq xX xB dX6_sidesOf_40 dX6_sidesOf_43 dX6_sidesOf_44 dX6_sidesOf_47 ?_
  refine lv_ri (bI_Z _) ?_
  refine z_iadd xX xB dX6_sidesOf_48 ?_
  refine lv_aload_n xX xB dX6_sidesOf_49 rfl (lv_at wl 2 rfl) ?_
  refine va_get (D := D) (ci := 6) (v := .ref a0) (C := RX6) (T := TX6) (N := 17) xX xB xT in_X6_sidesOf_X6 xO wK.1 wP 0 rfl rfl 0 (by decide) (xT _ (List.mem_of_getElem? (i := 1) rfl)) (fun _ h9 => h9) rfl dX6_sidesOf_50 ?_
  refine lv_iload_n xX xB dX6_sidesOf_53 rfl (lv_at wl 1 rfl) ?_
  refine lv_iload_n xX xB dX6_sidesOf_54 rfl (lv_at wl 0 rfl) ?_
  refine z_iconst xX xB dX6_sidesOf_55 ?_
  refine z_isub xX xB dX6_sidesOf_56 ?_
  refine g_pure (va_runS (As := [.ref a0, .int (zI ((x : Int) / 16)), .int (zI (((x : Int) % 16) - 1))]) (rest := [.int (zI (((bZ (!(dz P (((x : Int) / 16) - 1) ((x : Int) % 16))) : Nat) : Int) + ((bZ (!(dz P (((x : Int) / 16) + 1) ((x : Int) % 16))) : Nat) : Int)))]) ⟨xX, xB, xM, xO, xT⟩ (c_X6_isRim l D kI kB a0 F P ((x : Int) / 16) (((x : Int) % 16) - 1) hF (by omega) (by omega)) (va_cwS 3 xT gX6_sidesOf_X6_isRim rfl rfl rfl hdn_X6_isRim ⟨Nat.le_of_ble_eq_true rfl, Nat.le_of_ble_eq_true rfl⟩) (g_preS wP wD wK [1] (by decide) rfl) rfl rfl wl.1 rfl (lv_room (Nat.le_of_ble_eq_true rfl)) dX6_sidesOf_57 ⟨Nat.le_of_ble_eq_true rfl, Nat.le_of_ble_eq_true rfl⟩) wP wS (fun H locs wP wS => ?_)
  refine t_b_eq xX xB dX6_sidesOf_60 dX6_sidesOf_63 dX6_sidesOf_64 dX6_sidesOf_67 ?_
  refine lv_ri (bI_Z _) ?_
  refine z_iadd xX xB dX6_sidesOf_68 ?_
  refine lv_aload_n xX xB dX6_sidesOf_69 rfl (lv_at wl 2 rfl) ?_
  refine va_get (D := D) (ci := 6) (v := .ref a0) (C := RX6) (T := TX6) (N := 17) xX xB xT in_X6_sidesOf_X6 xO wK.1 wP 0 rfl rfl 0 (by decide) (xT _ (List.mem_of_getElem? (i := 1) rfl)) (fun _ h9 => h9) rfl dX6_sidesOf_70 ?_
  refine lv_iload_n xX xB dX6_sidesOf_73 rfl (lv_at wl 1 rfl) ?_
  refine lv_iload_n xX xB dX6_sidesOf_74 rfl (lv_at wl 0 rfl) ?_
  refine z_iconst xX xB dX6_sidesOf_75 ?_
  refine z_iadd xX xB dX6_sidesOf_76 ?_
  refine g_pure (va_runS (As := [.ref a0, .int (zI ((x : Int) / 16)), .int (zI (((x : Int) % 16) + 1))]) (rest := [.int (zI ((((bZ (!(dz P (((x : Int) / 16) - 1) ((x : Int) % 16))) : Nat) : Int) + ((bZ (!(dz P (((x : Int) / 16) + 1) ((x : Int) % 16))) : Nat) : Int)) + ((bZ (!(dz P ((x : Int) / 16) (((x : Int) % 16) - 1))) : Nat) : Int)))]) ⟨xX, xB, xM, xO, xT⟩ (c_X6_isRim l D kI kB a0 F P ((x : Int) / 16) (((x : Int) % 16) + 1) hF (by omega) (by omega)) (va_cwS 3 xT gX6_sidesOf_X6_isRim rfl rfl rfl hdn_X6_isRim ⟨Nat.le_of_ble_eq_true rfl, Nat.le_of_ble_eq_true rfl⟩) (g_preS wP wD wK [1] (by decide) rfl) rfl rfl wl.1 rfl (lv_room (Nat.le_of_ble_eq_true rfl)) dX6_sidesOf_77 ⟨Nat.le_of_ble_eq_true rfl, Nat.le_of_ble_eq_true rfl⟩) wP wS (fun H locs wP wS => ?_)
  refine t_b_eq xX xB dX6_sidesOf_80 dX6_sidesOf_83 dX6_sidesOf_84 dX6_sidesOf_87 ?_
  refine lv_ri (bI_Z _) ?_
  refine z_iadd xX xB dX6_sidesOf_88 ?_
  exact g_iret xX xB xR xL wS dX6_sidesOf_89 rfl
