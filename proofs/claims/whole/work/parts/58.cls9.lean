theorem g_ofF {l : Launch} {y : MethodName} {ws ws' : List Cond} {rm : Room} {Pc : Array Value → State → Prop} {Qc : Array Value → State → Outcome → State → Prop} {mc ms : Nat} {free : Addr → Prop} {cc : ByteArray} {maxL : Nat} {ret : Option FieldType} (hy : plainFor y = true) (hw : ws = Cond.code y cc maxL ret :: ws') (body : ∀ p e s m args below meth c s₁, BodyLoose p l y (headSpec ws rm) cc maxL ret e s m args below meth c s₁ → c.maxLocals = maxL → Pc args s → W p l e (headSpec ws rm).room s m args below meth c s.heap [] 0 0 (MQ below Qc args s mc ms free) (entryFrame m args maxL)) : Met l y ws rm Pc Qc mc ms free :=
  MetFree.of_bodySF (code := cc) (maxLocals := maxL) (ret := ret) hy
    (fun args s m h hn => by
      obtain ⟨meth, c, h1, h2, h3, h4, h5, h6, -, -⟩ := Cond.code_spec hn (atoms_spec (ws := ws) h _ (by rw [hw]; exact List.mem_cons_self))
      exact ⟨meth, c, h1, h2, h3, h4, h5, h6⟩)
    (fun p e s m args below meth c s₁ B hml hP _ => by
      obtain ⟨t, a1, o, b1, b2, b3⟩ := body p e s m args below meth c s₁ B hml hP s₁ (by rw [B.state]; rfl) (Stand.of_body B)
      exact ⟨t, o, a1, b1, b2, ⟨b3.1, b3.2⟩⟩)
theorem g_startF {l : Launch} {y : MethodName} {ws ws' : List Cond} {rm : Room} {av : List Value} {wc : va_W} {Qc : Array Value → State → Outcome → State → Prop} {mc ms : Nat} {free : Addr → Prop} {cc : ByteArray} {maxL : Nat} {ret : Option FieldType} {D : va_G} {kI kB : ClassId}
    (hy : plainFor y = true) (hw : ws = Cond.code y cc maxL ret :: ws') (hlen : (lg_sl av).length ≤ maxL)
    (body : ∀ (p : Program) (e : Env) (s : State) (m : MethodId) (below : List Frame) (meth : Method) (c : Code), p.tables.exec = Jvm.exec → c.code = cc → meth.sig.returnType = ret → c.maxLocals = maxL → (∀ w ∈ ws, w.before av.toArray s = true) → s.vm.findClass y.cls = some m.cls → meth.locks = false → meth.name = y.name → va_P D gC wc s.heap → va_D (gA wc) wc → gK D kI kB s → ∀ ls, lv_has ls maxL (lv_args 0 av) → W p l e rm s m av.toArray below meth c s.heap [] 0 0 (MQ below Qc av.toArray s mc ms free) (F0 m 0 ls [])) : Met l y ws rm (gPre D kI kB av wc) Qc mc ms free := by
  refine g_ofF (cc := cc) (maxL := maxL) (ret := ret) hy hw ?_
  intro p e s m args below meth c s₁ B hml hv
  obtain ⟨rfl, hP, hD, hK⟩ := hv
  have hl := lv_entry av (n := maxL) hlen
  rw [lg_entry_eq]
  exact body p e s m below meth c B.exec B.bytes B.returns hml (atoms_spec (ws := ws) B.pre) (findClass_of_methodNamed B.named) B.notSynchronized (name_of_methodNamed B.named B.method).1 hP ⟨hD.1, fun k q hk => List.mem_map.mpr ⟨q, List.mem_of_getElem? hk, rfl⟩⟩ hK _ hl
def fmR (x : Int) : Int := Int.tmod x 30
def fmX (x : Int) : Int := (zI x ^^^ zI 30).toInt
theorem fm_x (x : Int) : zI x ^^^ zI 30 = zI (fmX x) := (Int32.ofInt_toInt (zI x ^^^ zI 30)).symm
theorem fmX_r (x : Int) : -2147483648 ≤ fmX x ∧ fmX x ≤ 2147483647 := ⟨Int32.le_toInt _, Int.le_of_lt_add_one (Int32.toInt_lt _)⟩
theorem fm_all : ∀ i : Fin 60, (zI ((i.val : Int) - 30) - zI ((i.val : Int) - 30) / zI 30 * zI 30 = zI (fmR ((i.val : Int) - 30))) ∧ (fmR ((i.val : Int) - 30) = if i.val = 0 then 0 else (i.val : Int) - 30) ∧ ((0 ≤ fmX ((i.val : Int) - 30)) ↔ 30 ≤ i.val) := by decide +kernel
theorem fm_ex {x : Int} (h : -30 ≤ x ∧ x < 30) : ∃ i : Fin 60, x = (i.val : Int) - 30 := ⟨⟨(x + 30).toNat, by omega⟩, by dsimp only; omega⟩
theorem fm_rem {x : Int} (h : -30 ≤ x ∧ x < 30) : zI x - zI x / zI 30 * zI 30 = zI (fmR x) := by
  obtain ⟨i, rfl⟩ := fm_ex h
  exact (fm_all i).1
theorem fmR_eq {x : Int} (h : -30 ≤ x ∧ x < 30) : fmR x = if x = -30 then 0 else x := by
  obtain ⟨i, rfl⟩ := fm_ex h
  rw [(fm_all i).2.1]
  split <;> split <;> omega
theorem fmX_s {x : Int} (h : -30 ≤ x ∧ x < 30) : (0 ≤ fmX x ∧ 0 ≤ x) ∨ (fmX x < 0 ∧ x < 0) := by
  obtain ⟨i, rfl⟩ := fm_ex h
  have := (fm_all i).2.2
  by_cases q : 30 ≤ i.val
  · exact Or.inl ⟨this.mpr q, by omega⟩
  · exact Or.inr ⟨by have : ¬ 0 ≤ fmX ((i.val : Int) - 30) := fun z => q (this.mp z); omega, by omega⟩
theorem push_at {n : Nat} {U F : Nat → Int} {jb : Int} {a : Nat} : ∀ k, k < n → uZ (cpZ F U 0 (a * 17) 16) (a * 17 + 16) jb k = pushN U (uZ F 16 jb) a 17 k := by
  intro k hk
  unfold pushN
  by_cases e : k = a * 17 + 16
  · rw [e, uZ_s, if_pos (by omega), show a * 17 + 16 - 17 * a = 16 by omega, uZ_s]
  · rw [uZ_n _ _ e]
    unfold cpZ
    by_cases q : a * 17 ≤ k ∧ k < a * 17 + 16
    · rw [if_pos q, if_pos (by omega), uZ_n _ _ (by omega)]; congr 1; omega
    · rw [if_neg q, if_neg (by omega)]
theorem push_cls {U F : Nat → Int} {jb : Int} {a : Nat} (_ : a < 30) : ∀ k, k < 510 → uZ (cpZ F U 0 (a * 17) 16) (a * 17 + 16) jb k = pushN U (uZ F 16 jb) a 17 k := push_at
theorem push_cls34 {U F : Nat → Int} {jb : Int} {a : Nat} (_ : a < 2) : ∀ k, k < 34 → uZ (cpZ F U 0 (a * 17) 16) (a * 17 + 16) jb k = pushN U (uZ F 16 jb) a 17 k := push_at
set_option maxRecDepth 20000 in
theorem in_X2_push_X2 : ∀ w ∈ u_ws RX2 TX2 3, w ∈ wsX2_push := by decide +kernel
set_option maxRecDepth 20000 in
theorem in_X2_goBackBy_X2 : ∀ w ∈ u_ws RX2 TX2 3, w ∈ wsX2_goBackBy := by decide +kernel
set_option maxRecDepth 20000 in
theorem in_X2_forget_X2 : ∀ w ∈ u_ws RX2 TX2 3, w ∈ wsX2_forget := by decide +kernel
set_option maxRecDepth 20000 in
theorem in_X0_isTaken_X0 : ∀ w ∈ u_ws RX0 TX0 3, w ∈ wsX0_isTaken := by decide +kernel
set_option maxRecDepth 20000 in
theorem in_X0_seedOf_X0 : ∀ w ∈ u_ws RX0 TX0 3, w ∈ wsX0_seedOf := by decide +kernel
set_option maxRecDepth 20000 in
theorem in_X0_take_X0 : ∀ w ∈ u_ws RX0 TX0 3, w ∈ wsX0_take := by decide +kernel
set_option maxRecDepth 20000 in
theorem in_X0_show_X0 : ∀ w ∈ u_ws RX0 TX0 3, w ∈ wsX0_show := by decide +kernel
theorem hd_X3_layBy : yX3_layBy.cls = RX3 ∧ yX3_layBy.cls ≠ "java/lang/invoke/MethodHandle" ∧ yX3_layBy.cls ≠ "java/lang/invoke/VarHandle" ∧ (parseMethodDescriptor yX3_layBy.desc).map (fun d => d.parameters.length) = some 2 := by decide +kernel
theorem hdn_J9_floorMod_7cf53 : yJ9_floorMod_7cf53.cls ≠ "java/lang/invoke/MethodHandle" ∧ yJ9_floorMod_7cf53.cls ≠ "java/lang/invoke/VarHandle" ∧ (parseMethodDescriptor yJ9_floorMod_7cf53.desc).map (fun d => d.parameters.length) = some 2 := by decide +kernel
theorem hd_X3_takeUp : yX3_takeUp.cls = RX3 ∧ yX3_takeUp.cls ≠ "java/lang/invoke/MethodHandle" ∧ yX3_takeUp.cls ≠ "java/lang/invoke/VarHandle" ∧ (parseMethodDescriptor yX3_takeUp.desc).map (fun d => d.parameters.length) = some 2 := by decide +kernel
theorem hdn_X5_isImage : yX5_isImage.cls ≠ "java/lang/invoke/MethodHandle" ∧ yX5_isImage.cls ≠ "java/lang/invoke/VarHandle" ∧ (parseMethodDescriptor yX5_isImage.desc).map (fun d => d.parameters.length) = some 1 := by decide +kernel
set_option maxHeartbeats 4000000 in
set_option maxRecDepth 100000 in
theorem c_J9_floorMod_7cf53 (l : Launch) (D : va_G) (kI kB : ClassId) (x : Int) (hx : -30 ≤ x ∧ x < 30) : gI l yJ9_floorMod_7cf53 wsJ9_floorMod_7cf53 ({ frames := 0, cells := 0, slots := 0, locals := 0 } : Room) D kI kB [.int (zI x), .int (zI 30)] [] (zI ((x + 30) % 30)) := by
  refine g_startF (cc := cJ9_floorMod_7cf53) (maxL := 3) (ret := (some .int)) (by decide +kernel) rfl (Nat.le_of_ble_eq_true rfl) ?_
  intro xp xe xs xm xbl xmt xc xX xB xR xM xT xO xL xN wP wD wK ls wl
  have wS : va_S (fun _ => False) xs.heap xs.heap [] := va_S.rf
  have wl : lv_has ls 3 [(0, .int (zI x)), (1, .int (zI 30))] := wl
  refine lv_iload_n xX xB dJ9_floorMod_7cf53_0 rfl (lv_at wl 0 rfl) ?_
  refine lv_iload_n xX xB dJ9_floorMod_7cf53_1 rfl (lv_at wl 1 rfl) ?_
  refine lv_irem xX xB dJ9_floorMod_7cf53_2 (by decide) ?_
  refine lv_ri (y := zI (fmR x)) (fm_rem hx) ?_
  refine lv_istore_n (lv' := [(2, .int (zI (fmR x))), (0, .int (zI x)), (1, .int (zI 30))]) xX xB dJ9_floorMod_7cf53_3 rfl wl (by decide) rfl (fun ls wl => ?_)
  refine lv_iload_n xX xB dJ9_floorMod_7cf53_4 rfl (lv_at wl 1 rfl) ?_
  refine lv_iload_n xX xB dJ9_floorMod_7cf53_5 rfl (lv_at wl 2 rfl) ?_
  refine lv_ixor xX xB dJ9_floorMod_7cf53_6 ?_
  refine lv_ri (y := zI (fmX x)) (fm_x x) ?_
  refine z_if_ge (tgt := 18) xX xB dJ9_floorMod_7cf53_7 (by decide) (fmX_r x) (fun h7 => ?_) (fun h7 => ?_)
  · skip
    refine lv_iload_n xX xB dJ9_floorMod_7cf53_18 rfl (lv_at wl 0 rfl) ?_
    exact g_iret xX xB xR xL wS dJ9_floorMod_7cf53_19 (congrArg zI (by have := fmR_eq hx; have := fmX_s hx; omega))
  · skip
    refine lv_iload_n xX xB dJ9_floorMod_7cf53_10 rfl (lv_at wl 0 rfl) ?_
    refine z_if_eq (tgt := 18) xX xB dJ9_floorMod_7cf53_11 (by decide) (by have := fmR_eq hx; omega) (fun h11 => ?_) (fun h11 => ?_)
    · skip
      refine lv_iload_n xX xB dJ9_floorMod_7cf53_18 rfl (lv_at wl 0 rfl) ?_
      exact g_iret xX xB xR xL wS dJ9_floorMod_7cf53_19 (congrArg zI (by have := fmR_eq hx; have := fmX_s hx; omega))
    · skip
      refine lv_iload_n xX xB dJ9_floorMod_7cf53_14 rfl (lv_at wl 0 rfl) ?_
      refine lv_iload_n xX xB dJ9_floorMod_7cf53_15 rfl (lv_at wl 2 rfl) ?_
      refine z_iadd xX xB dJ9_floorMod_7cf53_16 ?_
      exact g_iret xX xB xR xL wS dJ9_floorMod_7cf53_17 (congrArg zI (by have := fmR_eq hx; have := fmX_s hx; omega))

set_option maxHeartbeats 4000000 in
set_option maxRecDepth 100000 in
theorem c_X2_push (l : Launch) (D : va_G) (kI kB : ClassId) (pa : Nat) (ps : Nat) (ua : Nat) (um : Nat) (U : Nat → Int) (pp : Nat) (q1 : Nat) (q2 : Nat) (F : Nat → Int) (jb : Int) (hua : ua < 30) (hum : um ≤ 30) : gV l yX2_push wsX2_push ({ frames := 2, cells := 0, slots := 0, locals := 40 } : Room) D kI kB [.ref pa, .ref pp] [(pa, .inr (2, [.ref ps, .int (zI (ua : Int)), .int (zI (um : Int))])), (ps, .inl (kI, 510, .inl (aZ U))), (pp, .inr (3, [.ref q1, .ref q2, .int (zI jb)])), (q1, .inl (kI, 16, .inl (aZ F)))] (fun (U1 : Nat → Int) => [(pa, .inr (2, [.ref ps, .int (zI (((ua + 1) % 30 : Nat) : Int)), .int (zI ((if um < 30 then um + 1 else um : Nat) : Int))])), (ps, .inl (kI, 510, .inl (aZ U1))), (pp, .inr (3, [.ref q1, .ref q2, .int (zI jb)])), (q1, .inl (kI, 16, .inl (aZ F)))]) (fun (U1 : Nat → Int) => ∀ k, k < 510 → U1 k = pushN U (uZ F 16 jb) ua 17 k) := by
  refine g_start (cc := cX2_push) (maxL := 2) (ret := none) (by decide) rfl (Nat.le_of_ble_eq_true rfl) ?_
  intro xp xe xs xm xbl xmt xc xX xB xR xM xT xO xL xN wP wD wK ls wl
  have wS : va_S (gA [(pa, .inr (2, [.ref ps, .int (zI (ua : Int)), .int (zI (um : Int))])), (ps, .inl (kI, 510, .inl (aZ U))), (pp, .inr (3, [.ref q1, .ref q2, .int (zI jb)])), (q1, .inl (kI, 16, .inl (aZ F)))]) xs.heap xs.heap [] := va_S.rf
  have wl : lv_has ls 2 [(0, .ref pa), (1, .ref pp)] := wl
  refine lv_aload_n xX xB dX2_push_0 rfl (lv_at wl 1 rfl) ?_
  refine lv_aload_n xX xB dX2_push_1 rfl (lv_at wl 0 rfl) ?_
  refine va_get (D := D) (ci := 2) (v := .ref ps) (C := RX2) (T := TX2) (N := 3) xX xB xT in_X2_push_X2 xO wK.1 wP 0 rfl rfl 0 (by decide) (xT _ (List.mem_of_getElem? (i := 1) rfl)) (fun _ h9 => h9) rfl dX2_push_2 ?_
  refine lv_aload_n xX xB dX2_push_5 rfl (lv_at wl 0 rfl) ?_
  refine va_get (D := D) (ci := 2) (v := .int (zI (ua : Int))) (C := RX2) (T := TX2) (N := 3) xX xB xT in_X2_push_X2 xO wK.1 wP 0 rfl rfl 1 (by decide) (xT _ (List.mem_of_getElem? (i := 2) rfl)) (fun _ h9 => h9) rfl dX2_push_6 ?_
  refine z_bipush xX xB dX2_push_9 (by decide) ?_
  refine z_imul xX xB dX2_push_11 ?_
  refine g_modv (va_runV (As := [.ref ps, .int (zI ((ua : Int) * 17))]) (rest := []) ⟨xX, xB, xM, xO, xT⟩ (c_X3_layBy_510 l D kI kB pp q1 q2 F jb ps U (ua * 17) (by omega)) (cwV 2 xT gX2_push_X3_layBy rfl rfl rfl hd_X3_layBy ⟨Nat.le_of_ble_eq_true rfl, Nat.le_of_ble_eq_true rfl⟩) (g_preV (ci := 3) (q0 := 2) wP wD wK [2, 3, 1] (by decide) rfl rfl rfl) rfl rfl wl.1 rfl (lv_room (Nat.le_of_ble_eq_true rfl)) dX2_push_12 ⟨Nat.le_of_ble_eq_true rfl, Nat.le_of_ble_eq_true rfl⟩) wP wD wS [2, 3, 1] rfl (fun _ => rfl) (fun u_ H locs hc12 wP wD wS => ?_)
  try dsimp only at hc12
  have wP : va_P D gC [(pa, .inr (2, [.ref ps, .int (zI (ua : Int)), .int (zI (um : Int))])), (ps, .inl (kI, 510, .inl (aZ (uZ (cpZ F U 0 (ua * 17) 16) ((ua * 17) + 16) jb)))), (pp, .inr (3, [.ref q1, .ref q2, .int (zI jb)])), (q1, .inl (kI, 16, .inl (aZ F)))] H := wP
  have wD : va_D (gA [(pa, .inr (2, [.ref ps, .int (zI (ua : Int)), .int (zI (um : Int))])), (ps, .inl (kI, 510, .inl (aZ U))), (pp, .inr (3, [.ref q1, .ref q2, .int (zI jb)])), (q1, .inl (kI, 16, .inl (aZ F)))]) [(pa, .inr (2, [.ref ps, .int (zI (ua : Int)), .int (zI (um : Int))])), (ps, .inl (kI, 510, .inl (aZ (uZ (cpZ F U 0 (ua * 17) 16) ((ua * 17) + 16) jb)))), (pp, .inr (3, [.ref q1, .ref q2, .int (zI jb)])), (q1, .inl (kI, 16, .inl (aZ F)))] := wD
  refine lv_aload_n xX xB dX2_push_15 rfl (lv_at wl 0 rfl) ?_
  refine lv_aload_n xX xB dX2_push_16 rfl (lv_at wl 0 rfl) ?_
  refine va_get (D := D) (ci := 2) (v := .int (zI (ua : Int))) (C := RX2) (T := TX2) (N := 3) xX xB xT in_X2_push_X2 xO wK.1 wP 0 rfl rfl 1 (by decide) (xT _ (List.mem_of_getElem? (i := 2) rfl)) (fun _ h9 => h9) rfl dX2_push_17 ?_
  refine z_iconst xX xB dX2_push_20 ?_
  refine z_iadd xX xB dX2_push_21 ?_
  refine z_bipush xX xB dX2_push_22 (by decide) ?_
  refine z_irem xX xB dX2_push_24 (by omega) (by decide) ?_
  refine va_put (D := D) (ci := 2) (v := .int (zI (((ua : Int) + 1) % 30))) (ty := .int) (C := RX2) (T := TX2) (N := 3) xX xB xT in_X2_push_X2 tyX2 tyX2_ok nmX2 xO wK.1 wP wD wS 0 rfl rfl 1 (by decide) (xT _ (List.mem_of_getElem? (i := 2) rfl)) (fun _ h9 => h9) rfl (by decide +kernel) rfl rfl (Nat.le_of_ble_eq_true rfl) dX2_push_25 (fun H locs wP wD wS => ?_)
  have wP : va_P D gC [(pa, .inr (2, [.ref ps, .int (zI (((ua : Int) + 1) % 30)), .int (zI (um : Int))])), (ps, .inl (kI, 510, .inl (aZ (uZ (cpZ F U 0 (ua * 17) 16) ((ua * 17) + 16) jb)))), (pp, .inr (3, [.ref q1, .ref q2, .int (zI jb)])), (q1, .inl (kI, 16, .inl (aZ F)))] H := wP
  have wD : va_D (gA [(pa, .inr (2, [.ref ps, .int (zI (ua : Int)), .int (zI (um : Int))])), (ps, .inl (kI, 510, .inl (aZ U))), (pp, .inr (3, [.ref q1, .ref q2, .int (zI jb)])), (q1, .inl (kI, 16, .inl (aZ F)))]) [(pa, .inr (2, [.ref ps, .int (zI (((ua : Int) + 1) % 30)), .int (zI (um : Int))])), (ps, .inl (kI, 510, .inl (aZ (uZ (cpZ F U 0 (ua * 17) 16) ((ua * 17) + 16) jb)))), (pp, .inr (3, [.ref q1, .ref q2, .int (zI jb)])), (q1, .inl (kI, 16, .inl (aZ F)))] := wD
  refine lv_aload_n xX xB dX2_push_28 rfl (lv_at wl 0 rfl) ?_
  refine lv_aload_n xX xB dX2_push_29 rfl (lv_at wl 0 rfl) ?_
  refine va_get (D := D) (ci := 2) (v := .int (zI (um : Int))) (C := RX2) (T := TX2) (N := 3) xX xB xT in_X2_push_X2 xO wK.1 wP 0 rfl rfl 2 (by decide) (xT _ (List.mem_of_getElem? (i := 3) rfl)) (fun _ h9 => h9) rfl dX2_push_30 ?_
  refine z_iconst xX xB dX2_push_33 ?_
  refine z_iadd xX xB dX2_push_34 ?_
  refine z_bipush xX xB dX2_push_35 (by decide) ?_
  refine va_mmin xX xB (xM.trans wl.1.symm) xO (xT _ (List.mem_of_getElem? (i := 4) rfl)) (xT _ (List.mem_of_getElem? (i := 5) rfl)) (xT _ (List.mem_of_getElem? (i := 6) rfl)) (xT _ (List.mem_of_getElem? (i := 7) rfl)) (Nat.le_of_ble_eq_true rfl) (Nat.le_of_ble_eq_true rfl) (Nat.zero_le _) (Nat.zero_le _) dX2_push_37 ?_
  refine lv_ri (zI_min (by omega) (by omega)) ?_
  refine lv_ri (y := zI ((if um < 30 then um + 1 else um : Nat) : Int)) (congrArg zI (by split <;> omega)) ?_
  refine va_put (D := D) (ci := 2) (v := .int (zI ((if um < 30 then um + 1 else um : Nat) : Int))) (ty := .int) (C := RX2) (T := TX2) (N := 3) xX xB xT in_X2_push_X2 tyX2 tyX2_ok nmX2 xO wK.1 wP wD wS 0 rfl rfl 2 (by decide) (xT _ (List.mem_of_getElem? (i := 3) rfl)) (fun _ h9 => h9) rfl (by decide +kernel) rfl rfl (Nat.le_of_ble_eq_true rfl) dX2_push_40 (fun H locs wP wD wS => ?_)
  have wP : va_P D gC [(pa, .inr (2, [.ref ps, .int (zI (((ua : Int) + 1) % 30)), .int (zI ((if um < 30 then um + 1 else um : Nat) : Int))])), (ps, .inl (kI, 510, .inl (aZ (uZ (cpZ F U 0 (ua * 17) 16) ((ua * 17) + 16) jb)))), (pp, .inr (3, [.ref q1, .ref q2, .int (zI jb)])), (q1, .inl (kI, 16, .inl (aZ F)))] H := wP
  have wD : va_D (gA [(pa, .inr (2, [.ref ps, .int (zI (ua : Int)), .int (zI (um : Int))])), (ps, .inl (kI, 510, .inl (aZ U))), (pp, .inr (3, [.ref q1, .ref q2, .int (zI jb)])), (q1, .inl (kI, 16, .inl (aZ F)))]) [(pa, .inr (2, [.ref ps, .int (zI (((ua : Int) + 1) % 30)), .int (zI ((if um < 30 then um + 1 else um : Nat) : Int))])), (ps, .inl (kI, 510, .inl (aZ (uZ (cpZ F U 0 (ua * 17) 16) ((ua * 17) + 16) jb)))), (pp, .inr (3, [.ref q1, .ref q2, .int (zI jb)])), (q1, .inl (kI, 16, .inl (aZ F)))] := wD
  exact g_vret (uZ (cpZ F U 0 (ua * 17) 16) ((ua * 17) + 16) jb) xX xB xR xL wP wS dX2_push_43 (push_cls (by omega))

set_option maxHeartbeats 4000000 in
set_option maxRecDepth 100000 in
theorem c_X2_goBackBy (l : Launch) (D : va_G) (kI kB : ClassId) (pa : Nat) (ps : Nat) (ua : Nat) (um : Nat) (U : Nat → Int) (pp : Nat) (q1 : Nat) (q2 : Nat) (F : Nat → Int) (jb : Int) (n : Nat) (hua : ua < 30) (hum : um ≤ 30) (hk : 1 ≤ n ∧ n ≤ 30) (hb : n ≤ um) : gV l yX2_goBackBy wsX2_goBackBy ({ frames := 2, cells := 0, slots := 0, locals := 40 } : Room) D kI kB [.ref pa, .int (zI (n : Int)), .ref pp] [(pa, .inr (2, [.ref ps, .int (zI (ua : Int)), .int (zI (um : Int))])), (ps, .inl (kI, 510, .inl (aZ U))), (pp, .inr (3, [.ref q1, .ref q2, .int (zI jb)])), (q1, .inl (kI, 16, .inl (aZ F)))] (fun (_ : Unit) => [(pa, .inr (2, [.ref ps, .int (zI (((ua + 30 - n) % 30 : Nat) : Int)), .int (zI ((um - n : Nat) : Int))])), (ps, .inl (kI, 510, .inl (aZ U))), (pp, .inr (3, [.ref q1, .ref q2, .int (zI (U (((ua + 30 - n) % 30) * 17 + 16)))])), (q1, .inl (kI, 16, .inl (aZ (cpZ U F (((ua + 30 - n) % 30) * 17) 0 16))))]) (fun (_ : Unit) => True) := by
  refine g_start (cc := cX2_goBackBy) (maxL := 3) (ret := none) (by decide) rfl (Nat.le_of_ble_eq_true rfl) ?_
  intro xp xe xs xm xbl xmt xc xX xB xR xM xT xO xL xN wP wD wK ls wl
  have wS : va_S (gA [(pa, .inr (2, [.ref ps, .int (zI (ua : Int)), .int (zI (um : Int))])), (ps, .inl (kI, 510, .inl (aZ U))), (pp, .inr (3, [.ref q1, .ref q2, .int (zI jb)])), (q1, .inl (kI, 16, .inl (aZ F)))]) xs.heap xs.heap [] := va_S.rf
  have wl : lv_has ls 3 [(0, .ref pa), (1, .int (zI (n : Int))), (2, .ref pp)] := wl
  refine lv_aload_n xX xB dX2_goBackBy_0 rfl (lv_at wl 0 rfl) ?_
  refine lv_aload_n xX xB dX2_goBackBy_1 rfl (lv_at wl 0 rfl) ?_
  refine va_get (D := D) (ci := 2) (v := .int (zI (ua : Int))) (C := RX2) (T := TX2) (N := 3) xX xB xT in_X2_goBackBy_X2 xO wK.1 wP 0 rfl rfl 1 (by decide) (xT _ (List.mem_of_getElem? (i := 1) rfl)) (fun _ h9 => h9) rfl dX2_goBackBy_2 ?_
  refine lv_iload_n xX xB dX2_goBackBy_5 rfl (lv_at wl 1 rfl) ?_
  refine z_isub xX xB dX2_goBackBy_6 ?_
  refine z_bipush xX xB dX2_goBackBy_7 (by decide) ?_
  refine g_pure (va_runS (As := [.int (zI ((ua : Int) - (n : Int))), .int (zI 30)]) (rest := [.ref pa]) ⟨xX, xB, xM, xO, xT⟩ (c_J9_floorMod_7cf53 l D kI kB ((ua : Int) - (n : Int)) (by omega)) (va_cwS 2 xT gX2_goBackBy_J9_floorMod_7cf53 rfl rfl rfl hdn_J9_floorMod_7cf53 ⟨Nat.le_of_ble_eq_true rfl, Nat.le_of_ble_eq_true rfl⟩) (g_preS wP wD wK [] (by decide) rfl) rfl rfl wl.1 rfl (lv_room (Nat.le_of_ble_eq_true rfl)) dX2_goBackBy_9 ⟨Nat.le_of_ble_eq_true rfl, Nat.le_of_ble_eq_true rfl⟩) wP wS (fun H locs wP wS => ?_)
  refine lv_ri (y := zI (((ua + 30 - n) % 30 : Nat) : Int)) (congrArg zI (by omega)) ?_
  refine va_put (D := D) (ci := 2) (v := .int (zI (((ua + 30 - n) % 30 : Nat) : Int))) (ty := .int) (C := RX2) (T := TX2) (N := 3) xX xB xT in_X2_goBackBy_X2 tyX2 tyX2_ok nmX2 xO wK.1 wP wD wS 0 rfl rfl 1 (by decide) (xT _ (List.mem_of_getElem? (i := 1) rfl)) (fun _ h9 => h9) rfl (by decide +kernel) rfl rfl (Nat.le_of_ble_eq_true rfl) dX2_goBackBy_12 (fun H locs wP wD wS => ?_)
  have wP : va_P D gC [(pa, .inr (2, [.ref ps, .int (zI (((ua + 30 - n) % 30 : Nat) : Int)), .int (zI (um : Int))])), (ps, .inl (kI, 510, .inl (aZ U))), (pp, .inr (3, [.ref q1, .ref q2, .int (zI jb)])), (q1, .inl (kI, 16, .inl (aZ F)))] H := wP
  have wD : va_D (gA [(pa, .inr (2, [.ref ps, .int (zI (ua : Int)), .int (zI (um : Int))])), (ps, .inl (kI, 510, .inl (aZ U))), (pp, .inr (3, [.ref q1, .ref q2, .int (zI jb)])), (q1, .inl (kI, 16, .inl (aZ F)))]) [(pa, .inr (2, [.ref ps, .int (zI (((ua + 30 - n) % 30 : Nat) : Int)), .int (zI (um : Int))])), (ps, .inl (kI, 510, .inl (aZ U))), (pp, .inr (3, [.ref q1, .ref q2, .int (zI jb)])), (q1, .inl (kI, 16, .inl (aZ F)))] := wD
  refine lv_aload_n xX xB dX2_goBackBy_15 rfl (lv_at wl 0 rfl) ?_
  refine lv_dup xX xB dX2_goBackBy_16 rfl ?_
  refine va_get (D := D) (ci := 2) (v := .int (zI (um : Int))) (C := RX2) (T := TX2) (N := 3) xX xB xT in_X2_goBackBy_X2 xO wK.1 wP 0 rfl rfl 2 (by decide) (xT _ (List.mem_of_getElem? (i := 2) rfl)) (fun _ h9 => h9) rfl dX2_goBackBy_17 ?_
  refine lv_iload_n xX xB dX2_goBackBy_20 rfl (lv_at wl 1 rfl) ?_
  refine z_isub xX xB dX2_goBackBy_21 ?_
  refine lv_ri (y := zI ((um - n : Nat) : Int)) (congrArg zI (by omega)) ?_
  refine va_put (D := D) (ci := 2) (v := .int (zI ((um - n : Nat) : Int))) (ty := .int) (C := RX2) (T := TX2) (N := 3) xX xB xT in_X2_goBackBy_X2 tyX2 tyX2_ok nmX2 xO wK.1 wP wD wS 0 rfl rfl 2 (by decide) (xT _ (List.mem_of_getElem? (i := 2) rfl)) (fun _ h9 => h9) rfl (by decide +kernel) rfl rfl (Nat.le_of_ble_eq_true rfl) dX2_goBackBy_22 (fun H locs wP wD wS => ?_)
  have wP : va_P D gC [(pa, .inr (2, [.ref ps, .int (zI (((ua + 30 - n) % 30 : Nat) : Int)), .int (zI ((um - n : Nat) : Int))])), (ps, .inl (kI, 510, .inl (aZ U))), (pp, .inr (3, [.ref q1, .ref q2, .int (zI jb)])), (q1, .inl (kI, 16, .inl (aZ F)))] H := wP
  have wD : va_D (gA [(pa, .inr (2, [.ref ps, .int (zI (ua : Int)), .int (zI (um : Int))])), (ps, .inl (kI, 510, .inl (aZ U))), (pp, .inr (3, [.ref q1, .ref q2, .int (zI jb)])), (q1, .inl (kI, 16, .inl (aZ F)))]) [(pa, .inr (2, [.ref ps, .int (zI (((ua + 30 - n) % 30 : Nat) : Int)), .int (zI ((um - n : Nat) : Int))])), (ps, .inl (kI, 510, .inl (aZ U))), (pp, .inr (3, [.ref q1, .ref q2, .int (zI jb)])), (q1, .inl (kI, 16, .inl (aZ F)))] := wD
  refine lv_aload_n xX xB dX2_goBackBy_25 rfl (lv_at wl 2 rfl) ?_
  refine lv_aload_n xX xB dX2_goBackBy_26 rfl (lv_at wl 0 rfl) ?_
  refine va_get (D := D) (ci := 2) (v := .ref ps) (C := RX2) (T := TX2) (N := 3) xX xB xT in_X2_goBackBy_X2 xO wK.1 wP 0 rfl rfl 0 (by decide) (xT _ (List.mem_of_getElem? (i := 3) rfl)) (fun _ h9 => h9) rfl dX2_goBackBy_27 ?_
  refine lv_aload_n xX xB dX2_goBackBy_30 rfl (lv_at wl 0 rfl) ?_
  refine va_get (D := D) (ci := 2) (v := .int (zI (((ua + 30 - n) % 30 : Nat) : Int))) (C := RX2) (T := TX2) (N := 3) xX xB xT in_X2_goBackBy_X2 xO wK.1 wP 0 rfl rfl 1 (by decide) (xT _ (List.mem_of_getElem? (i := 1) rfl)) (fun _ h9 => h9) rfl dX2_goBackBy_31 ?_
  refine z_bipush xX xB dX2_goBackBy_34 (by decide) ?_
  refine z_imul xX xB dX2_goBackBy_36 ?_
  refine g_modv (va_runV (As := [.ref ps, .int (zI ((((ua + 30 - n) % 30 : Nat) : Int) * 17))]) (rest := []) ⟨xX, xB, xM, xO, xT⟩ (c_X3_takeUp_510 l D kI kB pp q1 q2 F jb ps U (((ua + 30 - n) % 30) * 17) (by omega)) (cwV 2 xT gX2_goBackBy_X3_takeUp rfl rfl rfl hd_X3_takeUp ⟨Nat.le_of_ble_eq_true rfl, Nat.le_of_ble_eq_true rfl⟩) (g_preV (ci := 3) (q0 := 2) wP wD wK [2, 3, 1] (by decide) rfl rfl rfl) rfl rfl wl.1 rfl (lv_room (Nat.le_of_ble_eq_true rfl)) dX2_goBackBy_37 ⟨Nat.le_of_ble_eq_true rfl, Nat.le_of_ble_eq_true rfl⟩) wP wD wS [2, 3, 1] rfl (fun _ => rfl) (fun u_ H locs hc37 wP wD wS => ?_)
  try dsimp only at hc37
  have wP : va_P D gC [(pa, .inr (2, [.ref ps, .int (zI (((ua + 30 - n) % 30 : Nat) : Int)), .int (zI ((um - n : Nat) : Int))])), (ps, .inl (kI, 510, .inl (aZ U))), (pp, .inr (3, [.ref q1, .ref q2, .int (zI (U ((((ua + 30 - n) % 30) * 17) + 16)))])), (q1, .inl (kI, 16, .inl (aZ (cpZ U F (((ua + 30 - n) % 30) * 17) 0 16))))] H := wP
  have wD : va_D (gA [(pa, .inr (2, [.ref ps, .int (zI (ua : Int)), .int (zI (um : Int))])), (ps, .inl (kI, 510, .inl (aZ U))), (pp, .inr (3, [.ref q1, .ref q2, .int (zI jb)])), (q1, .inl (kI, 16, .inl (aZ F)))]) [(pa, .inr (2, [.ref ps, .int (zI (((ua + 30 - n) % 30 : Nat) : Int)), .int (zI ((um - n : Nat) : Int))])), (ps, .inl (kI, 510, .inl (aZ U))), (pp, .inr (3, [.ref q1, .ref q2, .int (zI (U ((((ua + 30 - n) % 30) * 17) + 16)))])), (q1, .inl (kI, 16, .inl (aZ (cpZ U F (((ua + 30 - n) % 30) * 17) 0 16))))] := wD
  exact g_vret () xX xB xR xL wP wS dX2_goBackBy_40 trivial

set_option maxHeartbeats 4000000 in
set_option maxRecDepth 100000 in
theorem c_X2_forget (l : Launch) (D : va_G) (kI kB : ClassId) (pa : Nat) (ps : Nat) (ua : Nat) (um : Nat) : gV l yX2_forget wsX2_forget ({ frames := 0, cells := 0, slots := 0, locals := 0 } : Room) D kI kB [.ref pa] [(pa, .inr (2, [.ref ps, .int (zI (ua : Int)), .int (zI (um : Int))]))] (fun (_ : Unit) => [(pa, .inr (2, [.ref ps, .int (zI (ua : Int)), .int (zI 0)]))]) (fun (_ : Unit) => True) := by
  refine g_start (cc := cX2_forget) (maxL := 1) (ret := none) (by decide) rfl (Nat.le_of_ble_eq_true rfl) ?_
  intro xp xe xs xm xbl xmt xc xX xB xR xM xT xO xL xN wP wD wK ls wl
  have wS : va_S (gA [(pa, .inr (2, [.ref ps, .int (zI (ua : Int)), .int (zI (um : Int))]))]) xs.heap xs.heap [] := va_S.rf
  have wl : lv_has ls 1 [(0, .ref pa)] := wl
  refine lv_aload_n xX xB dX2_forget_0 rfl (lv_at wl 0 rfl) ?_
  refine z_iconst xX xB dX2_forget_1 ?_
  refine va_put (D := D) (ci := 2) (v := .int (zI 0)) (ty := .int) (C := RX2) (T := TX2) (N := 3) xX xB xT in_X2_forget_X2 tyX2 tyX2_ok nmX2 xO wK.1 wP wD wS 0 rfl rfl 2 (by decide) (xT _ (List.mem_of_getElem? (i := 1) rfl)) (fun _ h9 => h9) rfl (by decide +kernel) rfl rfl (Nat.le_of_ble_eq_true rfl) dX2_forget_2 (fun H locs wP wD wS => ?_)
  have wP : va_P D gC [(pa, .inr (2, [.ref ps, .int (zI (ua : Int)), .int (zI 0)]))] H := wP
  have wD : va_D (gA [(pa, .inr (2, [.ref ps, .int (zI (ua : Int)), .int (zI (um : Int))]))]) [(pa, .inr (2, [.ref ps, .int (zI (ua : Int)), .int (zI 0)]))] := wD
  exact g_vret () xX xB xR xL wP wS dX2_forget_5 trivial

set_option maxHeartbeats 4000000 in
set_option maxRecDepth 100000 in
theorem c_X0_isTaken (l : Launch) (D : va_G) (kI kB : ClassId) (im : Nat) (i0 : Nat) (i1 : Nat) (i2 : Nat) (KB : Nat → Bool) (i : Nat) (hi : i < 2) : gI l yX0_isTaken wsX0_isTaken ({ frames := 1, cells := 0, slots := 0, locals := 20 } : Room) D kI kB [.ref im, .int (zI (i : Int))] [(im, .inr (0, [.ref i0, .ref i1, .ref i2])), (i2, .inl (kB, 2, .inl (aB KB)))] (bI (KB i)) := by
  refine g_start (cc := cX0_isTaken) (maxL := 2) (ret := (some .boolean)) (by decide) rfl (Nat.le_of_ble_eq_true rfl) ?_
  intro xp xe xs xm xbl xmt xc xX xB xR xM xT xO xL xN wP wD wK ls wl
  have wS : va_S (fun _ => False) xs.heap xs.heap [] := va_S.rf
  have wl : lv_has ls 2 [(0, .ref im), (1, .int (zI (i : Int)))] := wl
  refine lv_iload_n xX xB dX0_isTaken_0 rfl (lv_at wl 1 rfl) ?_
  refine g_pure (va_runSN (As := [.int (zI (i : Int))]) (rest := []) ⟨xX, xB, xM, xO, xT⟩ (c_X5_isImage l D kI kB (i : Int) (by omega)) ⟨va_cnB 1 xT ggX0_isTaken_X5_isImage rfl rfl rfl (wK.2 _ (List.mem_of_getElem? (i := 8) rfl)) (xT _ (List.mem_of_getElem? (i := 3) rfl)) hdn_X5_isImage ⟨Nat.le_of_ble_eq_true rfl, Nat.le_of_ble_eq_true rfl⟩, (xT _ (List.mem_of_getElem? (i := 2) rfl)), trivial⟩ (g_preS wP wD wK [] (by decide) rfl) rfl rfl wl.1 rfl (lv_room (Nat.le_of_ble_eq_true rfl)) dX0_isTaken_1 ⟨Nat.le_of_ble_eq_true rfl, Nat.le_of_ble_eq_true rfl⟩) wP wS (fun H locs wP wS => ?_)
  refine b_if_eq (tgt := 20) xX xB dX0_isTaken_4 (by decide) (fun h4 => ?_) (fun h4 => ?_)
  · exact absurd h4 (by rw [decide_eq_true (by omega)]; decide)
  · skip
    refine lv_aload_n xX xB dX0_isTaken_7 rfl (lv_at wl 0 rfl) ?_
    refine va_get (D := D) (ci := 0) (v := .ref i2) (C := RX0) (T := TX0) (N := 3) xX xB xT in_X0_isTaken_X0 xO wK.1 wP 0 rfl rfl 2 (by decide) (xT _ (List.mem_of_getElem? (i := 1) rfl)) (fun _ h9 => h9) rfl dX0_isTaken_8 ?_
    refine lv_iload_n xX xB dX0_isTaken_11 rfl (lv_at wl 1 rfl) ?_
    refine z_bald xX xB wK wP 1 rfl i rfl (by omega) (Nat.le_of_ble_eq_true rfl) dX0_isTaken_12 ?_
    refine t_b_eq xX xB dX0_isTaken_13 dX0_isTaken_16 dX0_isTaken_17 dX0_isTaken_20 ?_
    exact g_zret xX xB xR xL wS dX0_isTaken_21 rfl

set_option maxHeartbeats 4000000 in
set_option maxRecDepth 100000 in
theorem c_X0_seedOf (l : Launch) (D : va_G) (kI kB : ClassId) (im : Nat) (i0 : Nat) (i1 : Nat) (i2 : Nat) (KS : Nat → Int) (i : Nat) (hi : i < 2) : gI l yX0_seedOf wsX0_seedOf ({ frames := 1, cells := 0, slots := 0, locals := 20 } : Room) D kI kB [.ref im, .int (zI (i : Int))] [(im, .inr (0, [.ref i0, .ref i1, .ref i2])), (i1, .inl (kI, 2, .inl (aZ KS)))] (zI (KS i)) := by
  refine g_start (cc := cX0_seedOf) (maxL := 2) (ret := (some .int)) (by decide) rfl (Nat.le_of_ble_eq_true rfl) ?_
  intro xp xe xs xm xbl xmt xc xX xB xR xM xT xO xL xN wP wD wK ls wl
  have wS : va_S (fun _ => False) xs.heap xs.heap [] := va_S.rf
  have wl : lv_has ls 2 [(0, .ref im), (1, .int (zI (i : Int)))] := wl
  refine lv_iload_n xX xB dX0_seedOf_0 rfl (lv_at wl 1 rfl) ?_
  refine g_pure (va_runSN (As := [.int (zI (i : Int))]) (rest := []) ⟨xX, xB, xM, xO, xT⟩ (c_X5_isImage l D kI kB (i : Int) (by omega)) ⟨va_cnB 1 xT ggX0_seedOf_X5_isImage rfl rfl rfl (wK.2 _ (List.mem_of_getElem? (i := 8) rfl)) (xT _ (List.mem_of_getElem? (i := 3) rfl)) hdn_X5_isImage ⟨Nat.le_of_ble_eq_true rfl, Nat.le_of_ble_eq_true rfl⟩, (xT _ (List.mem_of_getElem? (i := 2) rfl)), trivial⟩ (g_preS wP wD wK [] (by decide) rfl) rfl rfl wl.1 rfl (lv_room (Nat.le_of_ble_eq_true rfl)) dX0_seedOf_1 ⟨Nat.le_of_ble_eq_true rfl, Nat.le_of_ble_eq_true rfl⟩) wP wS (fun H locs wP wS => ?_)
  refine b_if_eq (tgt := 16) xX xB dX0_seedOf_4 (by decide) (fun h4 => ?_) (fun h4 => ?_)
  · exact absurd h4 (by rw [decide_eq_true (by omega)]; decide)
  · skip
    refine lv_aload_n xX xB dX0_seedOf_7 rfl (lv_at wl 0 rfl) ?_
    refine va_get (D := D) (ci := 0) (v := .ref i1) (C := RX0) (T := TX0) (N := 3) xX xB xT in_X0_seedOf_X0 xO wK.1 wP 0 rfl rfl 1 (by decide) (xT _ (List.mem_of_getElem? (i := 1) rfl)) (fun _ h9 => h9) rfl dX0_seedOf_8 ?_
    refine lv_iload_n xX xB dX0_seedOf_11 rfl (lv_at wl 1 rfl) ?_
    refine z_iald xX xB wK wP 1 rfl i rfl (by omega) (Nat.le_of_ble_eq_true rfl) dX0_seedOf_12 ?_
    refine lv_goto (tgt := 17) xX xB dX0_seedOf_13 (by decide) ?_
    exact g_iret xX xB xR xL wS dX0_seedOf_17 rfl

set_option maxHeartbeats 4000000 in
set_option maxRecDepth 100000 in
theorem c_X0_take (l : Launch) (D : va_G) (kI kB : ClassId) (im : Nat) (i0 : Nat) (i1 : Nat) (i2 : Nat) (KP : Nat → Int) (KS : Nat → Int) (KB : Nat → Bool) (pp : Nat) (q1 : Nat) (q2 : Nat) (F : Nat → Int) (jb : Int) (i : Nat) (sd : Int) (hi : i < 2) : gV l yX0_take wsX0_take ({ frames := 2, cells := 0, slots := 0, locals := 40 } : Room) D kI kB [.ref im, .int (zI (i : Int)), .ref pp, .int (zI sd)] [(im, .inr (0, [.ref i0, .ref i1, .ref i2])), (i0, .inl (kI, 34, .inl (aZ KP))), (i1, .inl (kI, 2, .inl (aZ KS))), (i2, .inl (kB, 2, .inl (aB KB))), (pp, .inr (3, [.ref q1, .ref q2, .int (zI jb)])), (q1, .inl (kI, 16, .inl (aZ F)))] (fun (KP1 : Nat → Int) => [(im, .inr (0, [.ref i0, .ref i1, .ref i2])), (i0, .inl (kI, 34, .inl (aZ KP1))), (i1, .inl (kI, 2, .inl (aZ (uZ KS i sd)))), (i2, .inl (kB, 2, .inl (aB (uB KB i true)))), (pp, .inr (3, [.ref q1, .ref q2, .int (zI jb)])), (q1, .inl (kI, 16, .inl (aZ F)))]) (fun (KP1 : Nat → Int) => ∀ k, k < 34 → KP1 k = pushN KP (uZ F 16 jb) i 17 k) := by
  refine g_start (cc := cX0_take) (maxL := 4) (ret := none) (by decide) rfl (Nat.le_of_ble_eq_true rfl) ?_
  intro xp xe xs xm xbl xmt xc xX xB xR xM xT xO xL xN wP wD wK ls wl
  have wS : va_S (gA [(im, .inr (0, [.ref i0, .ref i1, .ref i2])), (i0, .inl (kI, 34, .inl (aZ KP))), (i1, .inl (kI, 2, .inl (aZ KS))), (i2, .inl (kB, 2, .inl (aB KB))), (pp, .inr (3, [.ref q1, .ref q2, .int (zI jb)])), (q1, .inl (kI, 16, .inl (aZ F)))]) xs.heap xs.heap [] := va_S.rf
  have wl : lv_has ls 4 [(0, .ref im), (1, .int (zI (i : Int))), (2, .ref pp), (3, .int (zI sd))] := wl
  refine lv_iload_n xX xB dX0_take_0 rfl (lv_at wl 1 rfl) ?_
  refine g_pure (va_runSN (As := [.int (zI (i : Int))]) (rest := []) ⟨xX, xB, xM, xO, xT⟩ (c_X5_isImage l D kI kB (i : Int) (by omega)) ⟨va_cnB 1 xT ggX0_take_X5_isImage rfl rfl rfl (wK.2 _ (List.mem_of_getElem? (i := 8) rfl)) (xT _ (List.mem_of_getElem? (i := 5) rfl)) hdn_X5_isImage ⟨Nat.le_of_ble_eq_true rfl, Nat.le_of_ble_eq_true rfl⟩, (xT _ (List.mem_of_getElem? (i := 4) rfl)), trivial⟩ (g_preS wP wD wK [] (by decide) rfl) rfl rfl wl.1 rfl (lv_room (Nat.le_of_ble_eq_true rfl)) dX0_take_1 ⟨Nat.le_of_ble_eq_true rfl, Nat.le_of_ble_eq_true rfl⟩) wP wS (fun H locs wP wS => ?_)
  refine b_if_ne (tgt := 8) xX xB dX0_take_4 (by decide) (fun h4 => ?_) (fun h4 => ?_)
  · skip
    refine lv_aload_n xX xB dX0_take_8 rfl (lv_at wl 2 rfl) ?_
    refine lv_aload_n xX xB dX0_take_9 rfl (lv_at wl 0 rfl) ?_
    refine va_get (D := D) (ci := 0) (v := .ref i0) (C := RX0) (T := TX0) (N := 3) xX xB xT in_X0_take_X0 xO wK.1 wP 0 rfl rfl 0 (by decide) (xT _ (List.mem_of_getElem? (i := 1) rfl)) (fun _ h9 => h9) rfl dX0_take_10 ?_
    refine lv_iload_n xX xB dX0_take_13 rfl (lv_at wl 1 rfl) ?_
    refine z_bipush xX xB dX0_take_14 (by decide) ?_
    refine z_imul xX xB dX0_take_16 ?_
    refine g_modv (va_runV (As := [.ref i0, .int (zI ((i : Int) * 17))]) (rest := []) ⟨xX, xB, xM, xO, xT⟩ (c_X3_layBy_34 l D kI kB pp q1 q2 F jb i0 KP (i * 17) (by omega)) (cwV 2 xT gX0_take_X3_layBy rfl rfl rfl hd_X3_layBy ⟨Nat.le_of_ble_eq_true rfl, Nat.le_of_ble_eq_true rfl⟩) (g_preV (ci := 3) (q0 := 4) wP wD wK [4, 5, 1] (by decide) rfl rfl rfl) rfl rfl wl.1 rfl (lv_room (Nat.le_of_ble_eq_true rfl)) dX0_take_17 ⟨Nat.le_of_ble_eq_true rfl, Nat.le_of_ble_eq_true rfl⟩) wP wD wS [4, 5, 1] rfl (fun _ => rfl) (fun u_ H locs hc17 wP wD wS => ?_)
    try dsimp only at hc17
    have wP : va_P D gC [(im, .inr (0, [.ref i0, .ref i1, .ref i2])), (i0, .inl (kI, 34, .inl (aZ (uZ (cpZ F KP 0 (i * 17) 16) ((i * 17) + 16) jb)))), (i1, .inl (kI, 2, .inl (aZ KS))), (i2, .inl (kB, 2, .inl (aB KB))), (pp, .inr (3, [.ref q1, .ref q2, .int (zI jb)])), (q1, .inl (kI, 16, .inl (aZ F)))] H := wP
    have wD : va_D (gA [(im, .inr (0, [.ref i0, .ref i1, .ref i2])), (i0, .inl (kI, 34, .inl (aZ KP))), (i1, .inl (kI, 2, .inl (aZ KS))), (i2, .inl (kB, 2, .inl (aB KB))), (pp, .inr (3, [.ref q1, .ref q2, .int (zI jb)])), (q1, .inl (kI, 16, .inl (aZ F)))]) [(im, .inr (0, [.ref i0, .ref i1, .ref i2])), (i0, .inl (kI, 34, .inl (aZ (uZ (cpZ F KP 0 (i * 17) 16) ((i * 17) + 16) jb)))), (i1, .inl (kI, 2, .inl (aZ KS))), (i2, .inl (kB, 2, .inl (aB KB))), (pp, .inr (3, [.ref q1, .ref q2, .int (zI jb)])), (q1, .inl (kI, 16, .inl (aZ F)))] := wD
    refine lv_aload_n xX xB dX0_take_20 rfl (lv_at wl 0 rfl) ?_
    refine va_get (D := D) (ci := 0) (v := .ref i1) (C := RX0) (T := TX0) (N := 3) xX xB xT in_X0_take_X0 xO wK.1 wP 0 rfl rfl 1 (by decide) (xT _ (List.mem_of_getElem? (i := 2) rfl)) (fun _ h9 => h9) rfl dX0_take_21 ?_
    refine lv_iload_n xX xB dX0_take_24 rfl (lv_at wl 1 rfl) ?_
    refine lv_iload_n xX xB dX0_take_25 rfl (lv_at wl 3 rfl) ?_
    refine z_iast xX xB wK wP wD wS 2 rfl i rfl (by omega) (Nat.le_of_ble_eq_true rfl) dX0_take_26 (fun H locs wP wD wS => ?_)
    have wP : va_P D gC [(im, .inr (0, [.ref i0, .ref i1, .ref i2])), (i0, .inl (kI, 34, .inl (aZ (uZ (cpZ F KP 0 (i * 17) 16) ((i * 17) + 16) jb)))), (i1, .inl (kI, 2, .inl (aZ (uZ KS i sd)))), (i2, .inl (kB, 2, .inl (aB KB))), (pp, .inr (3, [.ref q1, .ref q2, .int (zI jb)])), (q1, .inl (kI, 16, .inl (aZ F)))] H := wP
    have wD : va_D (gA [(im, .inr (0, [.ref i0, .ref i1, .ref i2])), (i0, .inl (kI, 34, .inl (aZ KP))), (i1, .inl (kI, 2, .inl (aZ KS))), (i2, .inl (kB, 2, .inl (aB KB))), (pp, .inr (3, [.ref q1, .ref q2, .int (zI jb)])), (q1, .inl (kI, 16, .inl (aZ F)))]) [(im, .inr (0, [.ref i0, .ref i1, .ref i2])), (i0, .inl (kI, 34, .inl (aZ (uZ (cpZ F KP 0 (i * 17) 16) ((i * 17) + 16) jb)))), (i1, .inl (kI, 2, .inl (aZ (uZ KS i sd)))), (i2, .inl (kB, 2, .inl (aB KB))), (pp, .inr (3, [.ref q1, .ref q2, .int (zI jb)])), (q1, .inl (kI, 16, .inl (aZ F)))] := wD
    refine lv_aload_n xX xB dX0_take_27 rfl (lv_at wl 0 rfl) ?_
    refine va_get (D := D) (ci := 0) (v := .ref i2) (C := RX0) (T := TX0) (N := 3) xX xB xT in_X0_take_X0 xO wK.1 wP 0 rfl rfl 2 (by decide) (xT _ (List.mem_of_getElem? (i := 3) rfl)) (fun _ h9 => h9) rfl dX0_take_28 ?_
    refine lv_iload_n xX xB dX0_take_31 rfl (lv_at wl 1 rfl) ?_
    refine z_iconst xX xB dX0_take_32 ?_
    refine lv_ri (y := bI true) rfl ?_
    refine z_bast xX xB wK wP wD wS 3 rfl i rfl (by omega) (Nat.le_of_ble_eq_true rfl) dX0_take_33 (fun H locs wP wD wS => ?_)
    have wP : va_P D gC [(im, .inr (0, [.ref i0, .ref i1, .ref i2])), (i0, .inl (kI, 34, .inl (aZ (uZ (cpZ F KP 0 (i * 17) 16) ((i * 17) + 16) jb)))), (i1, .inl (kI, 2, .inl (aZ (uZ KS i sd)))), (i2, .inl (kB, 2, .inl (aB (uB KB i true)))), (pp, .inr (3, [.ref q1, .ref q2, .int (zI jb)])), (q1, .inl (kI, 16, .inl (aZ F)))] H := wP
    have wD : va_D (gA [(im, .inr (0, [.ref i0, .ref i1, .ref i2])), (i0, .inl (kI, 34, .inl (aZ KP))), (i1, .inl (kI, 2, .inl (aZ KS))), (i2, .inl (kB, 2, .inl (aB KB))), (pp, .inr (3, [.ref q1, .ref q2, .int (zI jb)])), (q1, .inl (kI, 16, .inl (aZ F)))]) [(im, .inr (0, [.ref i0, .ref i1, .ref i2])), (i0, .inl (kI, 34, .inl (aZ (uZ (cpZ F KP 0 (i * 17) 16) ((i * 17) + 16) jb)))), (i1, .inl (kI, 2, .inl (aZ (uZ KS i sd)))), (i2, .inl (kB, 2, .inl (aB (uB KB i true)))), (pp, .inr (3, [.ref q1, .ref q2, .int (zI jb)])), (q1, .inl (kI, 16, .inl (aZ F)))] := wD
    exact g_vret (uZ (cpZ F KP 0 (i * 17) 16) ((i * 17) + 16) jb) xX xB xR xL wP wS dX0_take_34 (push_cls34 (by omega))
  · exact absurd h4 (by rw [decide_eq_true (by omega)]; decide)

set_option maxHeartbeats 4000000 in
set_option maxRecDepth 100000 in
theorem c_X0_show (l : Launch) (D : va_G) (kI kB : ClassId) (im : Nat) (i0 : Nat) (i1 : Nat) (i2 : Nat) (KP : Nat → Int) (pp : Nat) (q1 : Nat) (q2 : Nat) (F : Nat → Int) (jb : Int) (i : Nat) (hi : i < 2) : gV l yX0_show wsX0_show ({ frames := 2, cells := 0, slots := 0, locals := 40 } : Room) D kI kB [.ref im, .int (zI (i : Int)), .ref pp] [(im, .inr (0, [.ref i0, .ref i1, .ref i2])), (i0, .inl (kI, 34, .inl (aZ KP))), (pp, .inr (3, [.ref q1, .ref q2, .int (zI jb)])), (q1, .inl (kI, 16, .inl (aZ F)))] (fun (_ : Unit) => [(im, .inr (0, [.ref i0, .ref i1, .ref i2])), (i0, .inl (kI, 34, .inl (aZ KP))), (pp, .inr (3, [.ref q1, .ref q2, .int (zI (KP (i * 17 + 16)))])), (q1, .inl (kI, 16, .inl (aZ (cpZ KP F (i * 17) 0 16))))]) (fun (_ : Unit) => True) := by
  refine g_start (cc := cX0_show) (maxL := 3) (ret := none) (by decide) rfl (Nat.le_of_ble_eq_true rfl) ?_
  intro xp xe xs xm xbl xmt xc xX xB xR xM xT xO xL xN wP wD wK ls wl
  have wS : va_S (gA [(im, .inr (0, [.ref i0, .ref i1, .ref i2])), (i0, .inl (kI, 34, .inl (aZ KP))), (pp, .inr (3, [.ref q1, .ref q2, .int (zI jb)])), (q1, .inl (kI, 16, .inl (aZ F)))]) xs.heap xs.heap [] := va_S.rf
  have wl : lv_has ls 3 [(0, .ref im), (1, .int (zI (i : Int))), (2, .ref pp)] := wl
  refine lv_aload_n xX xB dX0_show_0 rfl (lv_at wl 2 rfl) ?_
  refine lv_aload_n xX xB dX0_show_1 rfl (lv_at wl 0 rfl) ?_
  refine va_get (D := D) (ci := 0) (v := .ref i0) (C := RX0) (T := TX0) (N := 3) xX xB xT in_X0_show_X0 xO wK.1 wP 0 rfl rfl 0 (by decide) (xT _ (List.mem_of_getElem? (i := 1) rfl)) (fun _ h9 => h9) rfl dX0_show_2 ?_
  refine lv_iload_n xX xB dX0_show_5 rfl (lv_at wl 1 rfl) ?_
  refine z_bipush xX xB dX0_show_6 (by decide) ?_
  refine z_imul xX xB dX0_show_8 ?_
  refine g_modv (va_runV (As := [.ref i0, .int (zI ((i : Int) * 17))]) (rest := []) ⟨xX, xB, xM, xO, xT⟩ (c_X3_takeUp_34 l D kI kB pp q1 q2 F jb i0 KP (i * 17) (by omega)) (cwV 2 xT gX0_show_X3_takeUp rfl rfl rfl hd_X3_takeUp ⟨Nat.le_of_ble_eq_true rfl, Nat.le_of_ble_eq_true rfl⟩) (g_preV (ci := 3) (q0 := 2) wP wD wK [2, 3, 1] (by decide) rfl rfl rfl) rfl rfl wl.1 rfl (lv_room (Nat.le_of_ble_eq_true rfl)) dX0_show_9 ⟨Nat.le_of_ble_eq_true rfl, Nat.le_of_ble_eq_true rfl⟩) wP wD wS [2, 3, 1] rfl (fun _ => rfl) (fun u_ H locs hc9 wP wD wS => ?_)
  try dsimp only at hc9
  have wP : va_P D gC [(im, .inr (0, [.ref i0, .ref i1, .ref i2])), (i0, .inl (kI, 34, .inl (aZ KP))), (pp, .inr (3, [.ref q1, .ref q2, .int (zI (KP ((i * 17) + 16)))])), (q1, .inl (kI, 16, .inl (aZ (cpZ KP F (i * 17) 0 16))))] H := wP
  have wD : va_D (gA [(im, .inr (0, [.ref i0, .ref i1, .ref i2])), (i0, .inl (kI, 34, .inl (aZ KP))), (pp, .inr (3, [.ref q1, .ref q2, .int (zI jb)])), (q1, .inl (kI, 16, .inl (aZ F)))]) [(im, .inr (0, [.ref i0, .ref i1, .ref i2])), (i0, .inl (kI, 34, .inl (aZ KP))), (pp, .inr (3, [.ref q1, .ref q2, .int (zI (KP ((i * 17) + 16)))])), (q1, .inl (kI, 16, .inl (aZ (cpZ KP F (i * 17) 0 16))))] := wD
  exact g_vret () xX xB xR xL wP wS dX0_show_12 trivial
