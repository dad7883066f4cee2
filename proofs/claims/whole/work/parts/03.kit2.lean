/-! ===== the classes, the tables' words of nest mates, what every contract asks ===== -/
abbrev gC : List vw_C := [(RX0, TX0, 3), (RX1, TX1, 14), (RX2, TX2, 3), (RX3, TX3, 3), (RX4, TX4, 8), (RX5, TX5, 7), (RX6, TX6, 17)]
abbrev gTy (kI kB : ClassId) : List (ClassId × FieldType) := [(kI, .int), (kB, .boolean)]
def gN : List Cond := [.methodLinkNest RX5 11 yX3_init RX5, .methodLinkNest RX5 18 yX1_init RX5, .methodLinkNest RX1 11 yX4_init RX5, .methodLinkNest RX5 25 yX4_init RX5, .methodLinkNest RX5 32 yX2_init RX5, .methodLinkNest RX5 39 yX0_init RX5, .methodLinkNest RX3 36 yX5_runsOf RX5, .methodLinkNest RX1 157 yX5_isLine RX5, .methodLinkNest RX0 22 yX5_isImage RX5, .fieldLinkNest RX5 52 RX3 "joinedBy" "I" RX5, .fieldLinkNest RX1 64 RX4 "count" "I" RX5, .fieldLinkNest RX5 63 RX1 "partCount" "I" RX5, .fieldLinkNest RX5 66 RX1 "holeCount" "I" RX5, .fieldLinkNest RX5 69 RX1 "lightCount" "I" RX5, .fieldLinkNest RX5 84 RX2 "count" "I" RX5]
theorem gN_tab : ∀ w ∈ gN, w.onTables = true := by decide +kernel
theorem gN_warm {s U : State} (hW : s.WarmedH U.vm) : ∀ w ∈ gN, va_Nw w s → va_Nw w U :=
  List.forall_mem_cons.mpr ⟨va_Nw.warmM hW, List.forall_mem_cons.mpr ⟨va_Nw.warmM hW, List.forall_mem_cons.mpr ⟨va_Nw.warmM hW, List.forall_mem_cons.mpr ⟨va_Nw.warmM hW, List.forall_mem_cons.mpr ⟨va_Nw.warmM hW, List.forall_mem_cons.mpr ⟨va_Nw.warmM hW, List.forall_mem_cons.mpr ⟨va_Nw.warmM hW, List.forall_mem_cons.mpr ⟨va_Nw.warmM hW, List.forall_mem_cons.mpr ⟨va_Nw.warmM hW, List.forall_mem_cons.mpr ⟨va_Nw.warmF hW, List.forall_mem_cons.mpr ⟨va_Nw.warmF hW, List.forall_mem_cons.mpr ⟨va_Nw.warmF hW, List.forall_mem_cons.mpr ⟨va_Nw.warmF hW, List.forall_mem_cons.mpr ⟨va_Nw.warmF hW, List.forall_mem_cons.mpr ⟨va_Nw.warmF hW, fun _ h => absurd h List.not_mem_nil⟩⟩⟩⟩⟩⟩⟩⟩⟩⟩⟩⟩⟩⟩⟩
def gK (D : va_G) (kI kB : ClassId) (U : State) : Prop := va_K D gC (gTy kI kB) U ∧ ∀ w ∈ gN, va_Nw w U
theorem gK.warm {D : va_G} {kI kB : ClassId} {s U : State} (hW : s.WarmedH U.vm) (h : gK D kI kB s) : gK D kI kB U := ⟨va_K.moved hW.alike h.1, fun w hw => gN_warm hW w hw (h.2 w hw)⟩
theorem gK.call {D : va_G} {kI kB : ClassId} {U : State} {g : JFrame} {mk : MethodId} {a : Array Value} (h : gK D kI kB U) : gK D kI kB (U.calling g mk a) := ⟨va_K.moved (u := U) (U := U.calling g mk a) (Vm.Alike.refl U.vm) h.1, fun w hw => va_Nw.same (gN_tab w hw) (rfl : U.vm = (U.calling g mk a).vm) (h.2 w hw)⟩
/-- the addresses of a world -/
def gA (wc : va_W) : Nat → Prop := fun q => q ∈ wc.map Prod.fst
def gPre (D : va_G) (kI kB : ClassId) (av : List Value) (wc : va_W) : Array Value → State → Prop := va_Pc av (fun U => va_P D gC wc U.heap ∧ va_D (fun _ => True) wc ∧ gK D kI kB U)
theorem gPre_blind {D : va_G} {kI kB : ClassId} {av : List Value} {wc : va_W} : FrameBlind (gPre D kI kB av wc) := fun a U g mk q => by
  obtain ⟨q0, q1, q2, q3⟩ := q
  exact ⟨q0, q1, q2, q3.call⟩
/-- an int comes back, nothing changes -/
def gI (l : Launch) (y : MethodName) (ws : List Cond) (rm : Room) (D : va_G) (kI kB : ClassId) (av : List Value) (wc : va_W) (r : Int32) : Prop :=
  Met l y ws rm (gPre D kI kB av wc) (va_Qi (fun (r' : Int32) (_ : Unit) => r' = r) (fun _ _ => True) (fun _ => False)) 0 0 (fun _ => False)
/-- nothing comes back, the world becomes w1 u for some u as post tells -/
def gV (l : Launch) (y : MethodName) (ws : List Cond) (rm : Room) (D : va_G) (kI kB : ClassId) (av : List Value) (wc : va_W) {S : Type} (w1 : S → va_W) (post : S → Prop) : Prop :=
  Met l y ws rm (gPre D kI kB av wc) (va_Qv post (fun u t => va_P D gC (w1 u) t.heap) (gA wc)) 0 0 (gA wc)
/-- an int comes back, and the world changes -/
def gM (l : Launch) (y : MethodName) (ws : List Cond) (rm : Room) (D : va_G) (kI kB : ClassId) (av : List Value) (wc : va_W) {S : Type} (w1 : S → va_W) (post : Int32 → S → Prop) : Prop :=
  Met l y ws rm (gPre D kI kB av wc) (va_Qi post (fun u t => va_P D gC (w1 u) t.heap) (gA wc)) 0 0 (gA wc)
/-- a cell comes back, and the world changes -/
def gR (l : Launch) (y : MethodName) (ws : List Cond) (rm : Room) (D : va_G) (kI kB : ClassId) (av : List Value) (wc : va_W) {S : Type} (w1 : S → va_W) (q : Nat) (post : S → Prop) : Prop :=
  Met l y ws rm (gPre D kI kB av wc) (va_Qr post (fun u a t => a = q ∧ va_P D gC (w1 u) t.heap) (gA wc)) 0 0 (gA wc)
theorem g_start {l : Launch} {y : MethodName} {ws ws' : List Cond} {rm : Room} {av : List Value} {wc : va_W} {Qc : Array Value → State → Outcome → State → Prop} {mc ms : Nat} {free : Addr → Prop} {cc : ByteArray} {maxL : Nat} {ret : Option FieldType} {D : va_G} {kI kB : ClassId}
    (hy : plainName y.cls = true) (hw : ws = Cond.code y cc maxL ret :: ws') (hlen : (lg_sl av).length ≤ maxL)
    (body : ∀ (p : Program) (e : Env) (s : State) (m : MethodId) (below : List Frame) (meth : Method) (c : Code), p.tables.exec = Jvm.exec → c.code = cc → meth.sig.returnType = ret → c.maxLocals = maxL → (∀ w ∈ ws, w.before av.toArray s = true) → s.vm.findClass y.cls = some m.cls → meth.locks = false → meth.name = y.name → va_P D gC wc s.heap → va_D (gA wc) wc → gK D kI kB s → ∀ ls, lv_has ls maxL (lv_args 0 av) → W p l e rm s m av.toArray below meth c s.heap [] 0 0 (MQ below Qc av.toArray s mc ms free) (F0 m 0 ls [])) : Met l y ws rm (gPre D kI kB av wc) Qc mc ms free := by
  refine Met.ofW (cc := cc) (maxL := maxL) (ret := ret) hy hw ?_
  intro p e s m args below meth c s₁ B hml hv
  obtain ⟨rfl, hP, hD, hK⟩ := hv
  have hl := lv_entry av (n := maxL) hlen
  rw [lg_entry_eq]
  exact body p e s m below meth c B.exec B.bytes B.returns hml (atoms_spec (ws := ws) B.pre) (findClass_of_methodNamed B.named) B.notSynchronized (name_of_methodNamed B.named B.method).1 hP ⟨hD.1, fun k q hk => List.mem_map.mpr ⟨q, List.mem_of_getElem? hk, rfl⟩⟩ hK _ hl
/-! ===== ends ===== -/
section GE
variable {p : Program} {l : Launch} {e : Env} {R : Room} {s : State} {m : MethodId} {args : Array Value} {below : List Frame} {meth : Method} {c : Code} {H : Heap} {locs : List Loc} {cells slots : Nat} {Q : State → Prop}
variable {cc : ByteArray} {pc : Nat} {ls : Array Slot} {rest : List Value} {D : va_G} {wc : va_W}
theorem g_iret {r v : Int32} (hx : p.tables.exec = Jvm.exec) (hb : c.code = cc) (hr : meth.sig.returnType = some .int) (hlk : meth.locks = false) (hS : va_S (fun _ => False) s.heap H locs) (hdg : decode cc pc = .ok (.ireturn, 1)) (ev : v = r) :
    W p l e R s m args below meth c H locs cells slots (MQ below (va_Qi (fun (r' : Int32) (_ : Unit) => r' = r) (fun _ _ => True) (fun _ => False)) args s cells slots (fun _ => False)) (F0 m pc ls [.int v]) :=
  W.iret (v := v) hx hb hr (fun t ht _ => ⟨⟨v, (), rfl, ev, trivial⟩, hS.F ht⟩) hS.2.2 hdg hlk
theorem g_zret {b b' : Bool} (hx : p.tables.exec = Jvm.exec) (hb : c.code = cc) (hr : meth.sig.returnType = some .boolean) (hlk : meth.locks = false) (hS : va_S (fun _ => False) s.heap H locs) (hdg : decode cc pc = .ok (.ireturn, 1)) (ev : b = b') :
    W p l e R s m args below meth c H locs cells slots (MQ below (va_Qi (fun (r' : Int32) (_ : Unit) => r' = bI b') (fun _ _ => True) (fun _ => False)) args s cells slots (fun _ => False)) (F0 m pc ls [.int (bI b)]) :=
  W.zret (v := bI b) hx hb hr (bI_narrow b) (fun t ht _ => ⟨⟨bI b, (), rfl, by rw [ev], trivial⟩, hS.F ht⟩) hS.2.2 hdg hlk
theorem g_vret {S : Type} {w1 : S → va_W} {post : S → Prop} (u : S) (hx : p.tables.exec = Jvm.exec) (hb : c.code = cc) (hr : meth.sig.returnType = none) (hlk : meth.locks = false) (hP : va_P D gC (w1 u) H) (hS : va_S (gA wc) s.heap H locs) (hdg : decode cc pc = .ok (.return_, 1)) (hp : post u) :
    W p l e R s m args below meth c H locs cells slots (MQ below (va_Qv post (fun u t => va_P D gC (w1 u) t.heap) (gA wc)) args s cells slots (gA wc)) (F0 m pc ls []) :=
  W.vret hx hb hr (fun t ht _ => ⟨⟨u, rfl, hp, by subst ht; exact hP⟩, hS.F ht⟩) hS.2.2 hdg hlk
theorem g_mret {S : Type} {w1 : S → va_W} {post : Int32 → S → Prop} {v : Int32} (u : S) (hx : p.tables.exec = Jvm.exec) (hb : c.code = cc) (hr : meth.sig.returnType = some .int) (hlk : meth.locks = false) (hP : va_P D gC (w1 u) H) (hS : va_S (gA wc) s.heap H locs) (hdg : decode cc pc = .ok (.ireturn, 1)) (hp : post v u) :
    W p l e R s m args below meth c H locs cells slots (MQ below (va_Qi post (fun u t => va_P D gC (w1 u) t.heap) (gA wc)) args s cells slots (gA wc)) (F0 m pc ls [.int v]) :=
  W.iret (v := v) hx hb hr (fun t ht _ => ⟨⟨v, u, rfl, hp, by subst ht; exact hP⟩, hS.F ht⟩) hS.2.2 hdg hlk
theorem g_mzret {S : Type} {w1 : S → va_W} {post : Int32 → S → Prop} {b : Bool} (u : S) (hx : p.tables.exec = Jvm.exec) (hb : c.code = cc) (hr : meth.sig.returnType = some .boolean) (hlk : meth.locks = false) (hP : va_P D gC (w1 u) H) (hS : va_S (gA wc) s.heap H locs) (hdg : decode cc pc = .ok (.ireturn, 1)) (hp : post (bI b) u) :
    W p l e R s m args below meth c H locs cells slots (MQ below (va_Qi post (fun u t => va_P D gC (w1 u) t.heap) (gA wc)) args s cells slots (gA wc)) (F0 m pc ls [.int (bI b)]) :=
  W.zret (v := bI b) hx hb hr (bI_narrow b) (fun t ht _ => ⟨⟨bI b, u, rfl, hp, by subst ht; exact hP⟩, hS.F ht⟩) hS.2.2 hdg hlk
theorem g_aret {S : Type} {w1 : S → va_W} {post : S → Prop} {q : Nat} {cn : String} (u : S) (hx : p.tables.exec = Jvm.exec) (hb : c.code = cc) (hr : meth.sig.returnType = some (.object cn)) (hlk : meth.locks = false) (hP : va_P D gC (w1 u) H) (hS : va_S (gA wc) s.heap H locs) (hdg : decode cc pc = .ok (.areturn, 1)) (hp : post u) :
    W p l e R s m args below meth c H locs cells slots (MQ below (va_Qr post (fun u a t => a = q ∧ va_P D gC (w1 u) t.heap) (gA wc)) args s cells slots (gA wc)) (F0 m pc ls [.ref q]) :=
  W.aret (v := .ref q) hx hb hr (Or.inl ⟨cn, rfl⟩) (Or.inr ⟨q, rfl⟩) (fun t ht _ => ⟨⟨u, q, rfl, hp, rfl, by subst ht; exact hP⟩, hS.F ht⟩) hS.2.2 hdg hlk
end GE
/-! ===== calls ===== -/
def gSet (ws : va_W) : List Nat → va_W → va_W
  | i :: is, x :: xs => gSet (ws.set i x) is xs
  | _, _ => ws
theorem gSet_at : ∀ (is : List Nat) (xs : va_W) (ws : va_W), is.length = xs.length → ∀ (k : Nat) (q : Nat × va_E), (gSet ws is xs)[k]? = some q → (∃ j : Nat, is[j]? = some k ∧ xs[j]? = some q) ∨ (k ∉ is ∧ ws[k]? = some q)
  | [], [], ws, _, k, q, h => Or.inr ⟨List.not_mem_nil, h⟩
  | i :: is, x :: xs, ws, hl, k, q, h => by
    rcases gSet_at is xs (ws.set i x) (by simpa using hl) k q h with ⟨j, h1, h2⟩ | ⟨h1, h2⟩
    · exact Or.inl ⟨j + 1, by simpa using h1, by simpa using h2⟩
    · by_cases e : i = k
      · subst e
        rw [List.getElem?_set] at h2
        simp only [if_true] at h2
        split at h2
        · exact Or.inl ⟨0, by simp, by simpa using h2⟩
        · cases h2
      · rw [List.getElem?_set_ne e] at h2
        exact Or.inr ⟨by simp only [List.mem_cons, not_or]; exact ⟨fun z => e z.symm, h1⟩, h2⟩
  | [], _ :: _, _, hl, _, _, _ => by simp at hl
  | _ :: _, [], _, hl, _, _, _ => by simp at hl
theorem gSet_len : ∀ (is : List Nat) (xs ws : va_W), (gSet ws is xs).length = ws.length
  | [], [], _ => rfl
  | i :: is, x :: xs, ws => by rw [gSet, gSet_len is xs, List.length_set]
  | [], _ :: _, _ => rfl
  | _ :: _, [], _ => rfl
/-- behind a call that changed the cells at some places -/
theorem g_after {D : va_G} {A : Nat → Prop} {W wc w1 : va_W} {H H1 : Heap} (hP : va_P D gC W H) (hD : va_D A W) (is : List Nat) (his : is.map (fun i => W[i]?) = wc.map some) (hadr : w1.map Prod.fst = wc.map Prod.fst)
    (hk : ∀ q : Nat, q < H.size → ¬ gA wc q → H1[q]? = H[q]?) (hP1 : va_P D gC w1 H1) : va_P D gC (gSet W is w1) H1 ∧ va_D A (gSet W is w1) := by
  have hl : is.length = w1.length := by
    have a := congrArg List.length his
    have b := congrArg List.length hadr
    simp at a b
    omega
  have at_is : ∀ j k : Nat, is[j]? = some k → ∃ x, wc[j]? = some x ∧ W[k]? = some x := by
    intro j k h
    have e := congrArg (fun z => z[j]?) his
    simp only [List.getElem?_map, h, Option.map_some] at e
    cases hw : wc[j]? with
    | none => simp [hw] at e
    | some x => simp [hw] at e; exact ⟨x, rfl, e⟩
  have adr : ∀ (j : Nat) x y, w1[j]? = some x → wc[j]? = some y → x.1 = y.1 := by
    intro j x y h1 h2
    have e := congrArg (fun z => z[j]?) hadr
    simp [List.getElem?_map, h1, h2] at e
    exact e
  have same : ∀ (k : Nat) x, (gSet W is w1)[k]? = some x → ∃ y, W[k]? = some y ∧ x.1 = y.1 := by
    intro k x h
    rcases gSet_at is w1 W hl k x h with ⟨j, h1, h2⟩ | ⟨-, h2⟩
    · obtain ⟨y, hy1, hy2⟩ := at_is j k h1
      exact ⟨y, hy2, adr j x y h2 hy1⟩
    · exact ⟨x, h2, rfl⟩
  refine ⟨fun k q h => ?_, ⟨fun i j x y hx hy hxy => ?_, fun k q h => ?_⟩⟩
  · rcases gSet_at is w1 W hl k q h with ⟨j, h1, h2⟩ | ⟨h1, h2⟩
    · exact hP1 j q h2
    · refine (hP k q h2).kept (hk q.1 (hP k q h2).lt ?_)
      intro hm
      obtain ⟨y, hy1, hy2⟩ := List.mem_map.mp hm
      obtain ⟨j, hj⟩ := List.getElem?_of_mem hy1
      have e := congrArg (fun z => z[j]?) his
      simp only [List.getElem?_map, hj, Option.map_some] at e
      cases hi : is[j]? with
      | none => simp [hi] at e
      | some i =>
        simp [hi] at e
        have := hD.1 i k y q e h2 hy2
        subst this
        exact h1 (List.mem_of_getElem? hi)
  · obtain ⟨x', hx1, hx2⟩ := same i x hx
    obtain ⟨y', hy1, hy2⟩ := same j y hy
    exact hD.1 i j x' y' hx1 hy1 (by rw [← hx2, ← hy2]; exact hxy)
  · obtain ⟨x', hx1, hx2⟩ := same k q h
    rw [hx2]
    exact hD.2 k x' hx1
section GCL
variable {p : Program} {l : Launch} {e : Env} {R : Room} {s : State} {m : MethodId} {args : Array Value} {below : List Frame} {meth : Method} {c : Code} {H : Heap} {locs : List Loc} {cells slots : Nat} {Q : State → Prop}
variable {cc : ByteArray} {pc : Nat} {ls : Array Slot} {rest st0 : List Value} {D : va_G} {kI kB : ClassId} {wc W0 : va_W} {A A' : Nat → Prop} {H0 : Heap} {a : Array Value}
theorem g_preS {As : List Value} (hP : va_P D gC W0 H) (hD : va_D A W0) (hK : gK D kI kB s) (is : List Nat) (hn : va_nd is = true) (his : is.map (fun i => W0[i]?) = wc.map some) : PreS s H (gPre D kI kB As wc) As :=
  ⟨gPre_blind, fun U hU hW => ⟨rfl, by
    rw [hU]
    refine hP.sub is ?_
    have e : is.filterMap (fun i => W0[i]?) = (is.map (fun i => W0[i]?)).filterMap id := by rw [List.filterMap_map]; rfl
    rw [e, his, List.filterMap_map]
    show wc.filterMap (fun x => some x) = wc
    exact List.filterMap_some, ⟨(hD.sub is hn his).1, fun _ _ _ => trivial⟩, hK.warm hW⟩⟩
theorem g_preV {As : List Value} {b q0 ci : Nat} {C : String} {T : u_T} {N : Nat} {fs : List Value} (hP : va_P D gC W0 H) (hD : va_D A W0) (hK : gK D kI kB s) (is : List Nat) (hn : va_nd is = true) (his : is.map (fun i => W0[i]?) = wc.map some) (hc : gC[ci]? = some (C, T, N)) (he : W0[q0]? = some (b, .inr (ci, fs))) : PreV s H C b (gPre D kI kB (.ref b :: As) wc) As :=
  ⟨gPre_blind, va_recv hK.1 hP hc he, (g_preS hP hD hK is hn his).2⟩
theorem g_pure {r : Int32} (hr : va_Run p l e R s m args below meth c H locs cells slots 0 0 (F0 m pc ls st0) rest (va_Qi (fun (r' : Int32) (_ : Unit) => r' = r) (fun _ _ => True) (fun _ => False) a) (fun _ => False)) (hP : va_P D gC W0 H) (hS : va_S A H0 H locs)
    (kk : ∀ (H1 : Heap) (locs1 : List Loc), va_P D gC W0 H1 → va_S A H0 H1 locs1 → W p l e R s m args below meth c H1 locs1 cells slots Q (F0 m (pc + 3) ls (.int r :: rest))) : W p l e R s m args below meth c H locs cells slots Q (F0 m pc ls st0) :=
  va_calli hr hS (fun _ _ h => h.elim) (fun _ h => h.elim) (fun r' u t H1 locs1 _ _ hp _ _ hk hS1 => by
    subst hp
    exact kk H1 locs1 (hP.kept (fun k q hq => hk q.1 (hP k q hq).lt (fun h => h))) hS1)
theorem g_sub {is : List Nat} (hD : va_D A W0) (his : is.map (fun i => W0[i]?) = wc.map some) : ∀ q, gA wc q → A q := by
  intro q hm
  obtain ⟨y, hy1, rfl⟩ := List.mem_map.mp hm
  obtain ⟨j, hj⟩ := List.getElem?_of_mem hy1
  have e := congrArg (fun z => z[j]?) his
  simp only [List.getElem?_map, hj, Option.map_some] at e
  cases hi : is[j]? with
  | none => simp [hi] at e
  | some i =>
    simp [hi] at e
    exact hD.2 i y e
theorem g_modv {S : Type} {w1 : S → va_W} {post : S → Prop} (hr : va_Run p l e R s m args below meth c H locs cells slots 0 0 (F0 m pc ls st0) rest (va_Qv post (fun u t => va_P D gC (w1 u) t.heap) (gA wc) a) (gA wc)) (hP : va_P D gC W0 H) (hD : va_D A W0) (hS : va_S A H0 H locs) (is : List Nat) (his : is.map (fun i => W0[i]?) = wc.map some) (hadr : ∀ u, (w1 u).map Prod.fst = wc.map Prod.fst)
    (kk : ∀ (u : S) (H1 : Heap) (locs1 : List Loc), post u → va_P D gC (gSet W0 is (w1 u)) H1 → va_D A (gSet W0 is (w1 u)) → va_S A H0 H1 locs1 → W p l e R s m args below meth c H1 locs1 cells slots Q (F0 m (pc + 3) ls rest)) : W p l e R s m args below meth c H locs cells slots Q (F0 m pc ls st0) :=
  va_callv hr hS (fun q _ h => g_sub hD his q h) (g_sub hD his) (fun u t H1 locs1 ht _ hp hB _ hk hS1 => by
    subst ht
    obtain ⟨h1, h2⟩ := g_after hP hD is his (hadr u) hk hB
    exact kk u t.heap locs1 hp h1 h2 hS1)
theorem g_modi {S : Type} {w1 : S → va_W} {post : Int32 → S → Prop} (hr : va_Run p l e R s m args below meth c H locs cells slots 0 0 (F0 m pc ls st0) rest (va_Qi post (fun u t => va_P D gC (w1 u) t.heap) (gA wc) a) (gA wc)) (hP : va_P D gC W0 H) (hD : va_D A W0) (hS : va_S A H0 H locs) (is : List Nat) (his : is.map (fun i => W0[i]?) = wc.map some) (hadr : ∀ u, (w1 u).map Prod.fst = wc.map Prod.fst)
    (kk : ∀ (r : Int32) (u : S) (H1 : Heap) (locs1 : List Loc), post r u → va_P D gC (gSet W0 is (w1 u)) H1 → va_D A (gSet W0 is (w1 u)) → va_S A H0 H1 locs1 → W p l e R s m args below meth c H1 locs1 cells slots Q (F0 m (pc + 3) ls (.int r :: rest))) : W p l e R s m args below meth c H locs cells slots Q (F0 m pc ls st0) :=
  va_calli hr hS (fun q _ h => g_sub hD his q h) (g_sub hD his) (fun r u t H1 locs1 ht _ hp hB _ hk hS1 => by
    subst ht
    obtain ⟨h1, h2⟩ := g_after hP hD is his (hadr u) hk hB
    exact kk r u t.heap locs1 hp h1 h2 hS1)
theorem g_modr {S : Type} {w1 : S → va_W} {post : S → Prop} {q : Nat} (hr : va_Run p l e R s m args below meth c H locs cells slots 0 0 (F0 m pc ls st0) rest (va_Qr post (fun u a t => a = q ∧ va_P D gC (w1 u) t.heap) (gA wc) a) (gA wc)) (hP : va_P D gC W0 H) (hD : va_D A W0) (hS : va_S A H0 H locs) (is : List Nat) (his : is.map (fun i => W0[i]?) = wc.map some) (hadr : ∀ u, (w1 u).map Prod.fst = wc.map Prod.fst)
    (kk : ∀ (u : S) (H1 : Heap) (locs1 : List Loc), post u → va_P D gC (gSet W0 is (w1 u)) H1 → va_D A (gSet W0 is (w1 u)) → va_S A H0 H1 locs1 → W p l e R s m args below meth c H1 locs1 cells slots Q (F0 m (pc + 3) ls (.ref q :: rest))) : W p l e R s m args below meth c H locs cells slots Q (F0 m pc ls st0) :=
  va_callr hr hS (fun q _ h => g_sub hD his q h) (g_sub hD his) (fun u ra t H1 locs1 ht _ hp hB _ hk hS1 => by
    subst ht
    obtain ⟨rfl, hB⟩ := hB
    obtain ⟨h1, h2⟩ := g_after hP hD is his (hadr u) hk hB
    exact kk u t.heap locs1 hp h1 h2 hS1)
/-! ===== rows over whole numbers ===== -/
theorem lv_ri {x y : Int32} (h : x = y) (k : W p l e R s m args below meth c H locs cells slots Q (F0 m pc ls (.int y :: rest))) : W p l e R s m args below meth c H locs cells slots Q (F0 m pc ls (.int x :: rest)) := by rw [h]; exact k
theorem z_iadd (hx : p.tables.exec = Jvm.exec) (hb : c.code = cc) {a b : Int} (hdg : decode cc pc = .ok (.iadd, 1)) (k : W p l e R s m args below meth c H locs cells slots Q (F0 m (pc + 1) ls (.int (zI (a + b)) :: rest))) : W p l e R s m args below meth c H locs cells slots Q (F0 m pc ls (.int (zI b) :: .int (zI a) :: rest)) := lv_iadd hx hb hdg (by rw [zI_add]; exact k)
theorem z_isub (hx : p.tables.exec = Jvm.exec) (hb : c.code = cc) {a b : Int} (hdg : decode cc pc = .ok (.isub, 1)) (k : W p l e R s m args below meth c H locs cells slots Q (F0 m (pc + 1) ls (.int (zI (a - b)) :: rest))) : W p l e R s m args below meth c H locs cells slots Q (F0 m pc ls (.int (zI b) :: .int (zI a) :: rest)) := lv_isub hx hb hdg (by rw [zI_sub]; exact k)
theorem z_imul (hx : p.tables.exec = Jvm.exec) (hb : c.code = cc) {a b : Int} (hdg : decode cc pc = .ok (.imul, 1)) (k : W p l e R s m args below meth c H locs cells slots Q (F0 m (pc + 1) ls (.int (zI (a * b)) :: rest))) : W p l e R s m args below meth c H locs cells slots Q (F0 m pc ls (.int (zI b) :: .int (zI a) :: rest)) := lv_imul hx hb hdg (by rw [zI_mul]; exact k)
theorem z_ineg (hx : p.tables.exec = Jvm.exec) (hb : c.code = cc) {a : Int} (hdg : decode cc pc = .ok (.ineg, 1)) (k : W p l e R s m args below meth c H locs cells slots Q (F0 m (pc + 1) ls (.int (zI (-a)) :: rest))) : W p l e R s m args below meth c H locs cells slots Q (F0 m pc ls (.int (zI a) :: rest)) := lv_ineg hx hb hdg (by rw [zI_neg]; exact k)
theorem z_idiv (hx : p.tables.exec = Jvm.exec) (hb : c.code = cc) {a b : Int} (hdg : decode cc pc = .ok (.idiv, 1)) (ha : 0 ≤ a ∧ a ≤ 2147483647) (h2 : 0 < b ∧ b ≤ 2147483647) (k : W p l e R s m args below meth c H locs cells slots Q (F0 m (pc + 1) ls (.int (zI (a / b)) :: rest))) : W p l e R s m args below meth c H locs cells slots Q (F0 m pc ls (.int (zI b) :: .int (zI a) :: rest)) := lv_idiv hx hb hdg (fun z => by rw [← zI_0, zI_eq (by omega) (by omega)] at z; omega) (by rw [zI_div ha h2]; exact k)
theorem z_irem (hx : p.tables.exec = Jvm.exec) (hb : c.code = cc) {a b : Int} (hdg : decode cc pc = .ok (.irem, 1)) (ha : 0 ≤ a ∧ a ≤ 2147483647) (h2 : 0 < b ∧ b ≤ 2147483647) (k : W p l e R s m args below meth c H locs cells slots Q (F0 m (pc + 1) ls (.int (zI (a % b)) :: rest))) : W p l e R s m args below meth c H locs cells slots Q (F0 m pc ls (.int (zI b) :: .int (zI a) :: rest)) := lv_irem hx hb hdg (fun z => by rw [← zI_0, zI_eq (by omega) (by omega)] at z; omega) (by rw [zI_rem ha h2]; exact k)
theorem z_icmp_eq (hx : p.tables.exec = Jvm.exec) (hb : c.code = cc) {a b off : Int} {tgt : Nat} (hdg : decode cc pc = .ok (.if_icmp .eq off, 3)) (ht : (pc : Int) + off = (tgt : Int)) (ra : -2147483648 ≤ a ∧ a ≤ 2147483647) (rb : -2147483648 ≤ b ∧ b ≤ 2147483647) (kt : a = b → W p l e R s m args below meth c H locs cells slots Q (F0 m tgt ls rest)) (kf : ¬ a = b → W p l e R s m args below meth c H locs cells slots Q (F0 m (pc + 3) ls rest)) : W p l e R s m args below meth c H locs cells slots Q (F0 m pc ls (.int (zI b) :: .int (zI a) :: rest)) := lv_icmp_eq hx hb hdg ht (fun h => kt ((zI_eq ra rb).mp h)) (fun h => kf (fun z => h ((zI_eq ra rb).mpr z)))
theorem z_if_eq (hx : p.tables.exec = Jvm.exec) (hb : c.code = cc) {a off : Int} {tgt : Nat} (hdg : decode cc pc = .ok (.ifCond .eq off, 3)) (ht : (pc : Int) + off = (tgt : Int)) (ra : -2147483648 ≤ a ∧ a ≤ 2147483647) (kt : a = 0 → W p l e R s m args below meth c H locs cells slots Q (F0 m tgt ls rest)) (kf : ¬ a = 0 → W p l e R s m args below meth c H locs cells slots Q (F0 m (pc + 3) ls rest)) : W p l e R s m args below meth c H locs cells slots Q (F0 m pc ls (.int (zI a) :: rest)) := lv_if_eq hx hb hdg ht (fun h => kt ((zI_eq ra (by decide : (-2147483648 : Int) ≤ 0 ∧ (0 : Int) ≤ 2147483647)).mp h)) (fun h => kf (fun z => h ((zI_eq ra (by decide : (-2147483648 : Int) ≤ 0 ∧ (0 : Int) ≤ 2147483647)).mpr z)))
theorem z_icmp_ne (hx : p.tables.exec = Jvm.exec) (hb : c.code = cc) {a b off : Int} {tgt : Nat} (hdg : decode cc pc = .ok (.if_icmp .ne off, 3)) (ht : (pc : Int) + off = (tgt : Int)) (ra : -2147483648 ≤ a ∧ a ≤ 2147483647) (rb : -2147483648 ≤ b ∧ b ≤ 2147483647) (kt : ¬ a = b → W p l e R s m args below meth c H locs cells slots Q (F0 m tgt ls rest)) (kf : a = b → W p l e R s m args below meth c H locs cells slots Q (F0 m (pc + 3) ls rest)) : W p l e R s m args below meth c H locs cells slots Q (F0 m pc ls (.int (zI b) :: .int (zI a) :: rest)) := lv_icmp_ne hx hb hdg ht (fun h => kt (fun z => h ((zI_eq ra rb).mpr z))) (fun h => kf ((zI_eq ra rb).mp h))
theorem z_if_ne (hx : p.tables.exec = Jvm.exec) (hb : c.code = cc) {a off : Int} {tgt : Nat} (hdg : decode cc pc = .ok (.ifCond .ne off, 3)) (ht : (pc : Int) + off = (tgt : Int)) (ra : -2147483648 ≤ a ∧ a ≤ 2147483647) (kt : ¬ a = 0 → W p l e R s m args below meth c H locs cells slots Q (F0 m tgt ls rest)) (kf : a = 0 → W p l e R s m args below meth c H locs cells slots Q (F0 m (pc + 3) ls rest)) : W p l e R s m args below meth c H locs cells slots Q (F0 m pc ls (.int (zI a) :: rest)) := lv_if_ne hx hb hdg ht (fun h => kt (fun z => h ((zI_eq ra (by decide : (-2147483648 : Int) ≤ 0 ∧ (0 : Int) ≤ 2147483647)).mpr z))) (fun h => kf ((zI_eq ra (by decide : (-2147483648 : Int) ≤ 0 ∧ (0 : Int) ≤ 2147483647)).mp h))
theorem z_icmp_lt (hx : p.tables.exec = Jvm.exec) (hb : c.code = cc) {a b off : Int} {tgt : Nat} (hdg : decode cc pc = .ok (.if_icmp .lt off, 3)) (ht : (pc : Int) + off = (tgt : Int)) (ra : -2147483648 ≤ a ∧ a ≤ 2147483647) (rb : -2147483648 ≤ b ∧ b ≤ 2147483647) (kt : a < b → W p l e R s m args below meth c H locs cells slots Q (F0 m tgt ls rest)) (kf : ¬ a < b → W p l e R s m args below meth c H locs cells slots Q (F0 m (pc + 3) ls rest)) : W p l e R s m args below meth c H locs cells slots Q (F0 m pc ls (.int (zI b) :: .int (zI a) :: rest)) := lv_icmp_lt hx hb hdg ht (fun h => kt ((zI_lt ra rb).mp h)) (fun h => kf (fun z => h ((zI_lt ra rb).mpr z)))
theorem z_if_lt (hx : p.tables.exec = Jvm.exec) (hb : c.code = cc) {a off : Int} {tgt : Nat} (hdg : decode cc pc = .ok (.ifCond .lt off, 3)) (ht : (pc : Int) + off = (tgt : Int)) (ra : -2147483648 ≤ a ∧ a ≤ 2147483647) (kt : a < 0 → W p l e R s m args below meth c H locs cells slots Q (F0 m tgt ls rest)) (kf : ¬ a < 0 → W p l e R s m args below meth c H locs cells slots Q (F0 m (pc + 3) ls rest)) : W p l e R s m args below meth c H locs cells slots Q (F0 m pc ls (.int (zI a) :: rest)) := lv_if_lt hx hb hdg ht (fun h => kt ((zI_lt ra (by decide : (-2147483648 : Int) ≤ 0 ∧ (0 : Int) ≤ 2147483647)).mp h)) (fun h => kf (fun z => h ((zI_lt ra (by decide : (-2147483648 : Int) ≤ 0 ∧ (0 : Int) ≤ 2147483647)).mpr z)))
theorem z_icmp_ge (hx : p.tables.exec = Jvm.exec) (hb : c.code = cc) {a b off : Int} {tgt : Nat} (hdg : decode cc pc = .ok (.if_icmp .ge off, 3)) (ht : (pc : Int) + off = (tgt : Int)) (ra : -2147483648 ≤ a ∧ a ≤ 2147483647) (rb : -2147483648 ≤ b ∧ b ≤ 2147483647) (kt : b ≤ a → W p l e R s m args below meth c H locs cells slots Q (F0 m tgt ls rest)) (kf : ¬ b ≤ a → W p l e R s m args below meth c H locs cells slots Q (F0 m (pc + 3) ls rest)) : W p l e R s m args below meth c H locs cells slots Q (F0 m pc ls (.int (zI b) :: .int (zI a) :: rest)) := lv_icmp_ge hx hb hdg ht (fun h => kt ((zI_le rb ra).mp h)) (fun h => kf (fun z => h ((zI_le rb ra).mpr z)))
theorem z_if_ge (hx : p.tables.exec = Jvm.exec) (hb : c.code = cc) {a off : Int} {tgt : Nat} (hdg : decode cc pc = .ok (.ifCond .ge off, 3)) (ht : (pc : Int) + off = (tgt : Int)) (ra : -2147483648 ≤ a ∧ a ≤ 2147483647) (kt : 0 ≤ a → W p l e R s m args below meth c H locs cells slots Q (F0 m tgt ls rest)) (kf : ¬ 0 ≤ a → W p l e R s m args below meth c H locs cells slots Q (F0 m (pc + 3) ls rest)) : W p l e R s m args below meth c H locs cells slots Q (F0 m pc ls (.int (zI a) :: rest)) := lv_if_ge hx hb hdg ht (fun h => kt ((zI_le (by decide : (-2147483648 : Int) ≤ 0 ∧ (0 : Int) ≤ 2147483647) ra).mp h)) (fun h => kf (fun z => h ((zI_le (by decide : (-2147483648 : Int) ≤ 0 ∧ (0 : Int) ≤ 2147483647) ra).mpr z)))
theorem z_icmp_gt (hx : p.tables.exec = Jvm.exec) (hb : c.code = cc) {a b off : Int} {tgt : Nat} (hdg : decode cc pc = .ok (.if_icmp .gt off, 3)) (ht : (pc : Int) + off = (tgt : Int)) (ra : -2147483648 ≤ a ∧ a ≤ 2147483647) (rb : -2147483648 ≤ b ∧ b ≤ 2147483647) (kt : b < a → W p l e R s m args below meth c H locs cells slots Q (F0 m tgt ls rest)) (kf : ¬ b < a → W p l e R s m args below meth c H locs cells slots Q (F0 m (pc + 3) ls rest)) : W p l e R s m args below meth c H locs cells slots Q (F0 m pc ls (.int (zI b) :: .int (zI a) :: rest)) := lv_icmp_gt hx hb hdg ht (fun h => kt ((zI_lt rb ra).mp h)) (fun h => kf (fun z => h ((zI_lt rb ra).mpr z)))
theorem z_if_gt (hx : p.tables.exec = Jvm.exec) (hb : c.code = cc) {a off : Int} {tgt : Nat} (hdg : decode cc pc = .ok (.ifCond .gt off, 3)) (ht : (pc : Int) + off = (tgt : Int)) (ra : -2147483648 ≤ a ∧ a ≤ 2147483647) (kt : 0 < a → W p l e R s m args below meth c H locs cells slots Q (F0 m tgt ls rest)) (kf : ¬ 0 < a → W p l e R s m args below meth c H locs cells slots Q (F0 m (pc + 3) ls rest)) : W p l e R s m args below meth c H locs cells slots Q (F0 m pc ls (.int (zI a) :: rest)) := lv_if_gt hx hb hdg ht (fun h => kt ((zI_lt (by decide : (-2147483648 : Int) ≤ 0 ∧ (0 : Int) ≤ 2147483647) ra).mp h)) (fun h => kf (fun z => h ((zI_lt (by decide : (-2147483648 : Int) ≤ 0 ∧ (0 : Int) ≤ 2147483647) ra).mpr z)))
theorem z_icmp_le (hx : p.tables.exec = Jvm.exec) (hb : c.code = cc) {a b off : Int} {tgt : Nat} (hdg : decode cc pc = .ok (.if_icmp .le off, 3)) (ht : (pc : Int) + off = (tgt : Int)) (ra : -2147483648 ≤ a ∧ a ≤ 2147483647) (rb : -2147483648 ≤ b ∧ b ≤ 2147483647) (kt : a ≤ b → W p l e R s m args below meth c H locs cells slots Q (F0 m tgt ls rest)) (kf : ¬ a ≤ b → W p l e R s m args below meth c H locs cells slots Q (F0 m (pc + 3) ls rest)) : W p l e R s m args below meth c H locs cells slots Q (F0 m pc ls (.int (zI b) :: .int (zI a) :: rest)) := lv_icmp_le hx hb hdg ht (fun h => kt ((zI_le ra rb).mp h)) (fun h => kf (fun z => h ((zI_le ra rb).mpr z)))
theorem z_if_le (hx : p.tables.exec = Jvm.exec) (hb : c.code = cc) {a off : Int} {tgt : Nat} (hdg : decode cc pc = .ok (.ifCond .le off, 3)) (ht : (pc : Int) + off = (tgt : Int)) (ra : -2147483648 ≤ a ∧ a ≤ 2147483647) (kt : a ≤ 0 → W p l e R s m args below meth c H locs cells slots Q (F0 m tgt ls rest)) (kf : ¬ a ≤ 0 → W p l e R s m args below meth c H locs cells slots Q (F0 m (pc + 3) ls rest)) : W p l e R s m args below meth c H locs cells slots Q (F0 m pc ls (.int (zI a) :: rest)) := lv_if_le hx hb hdg ht (fun h => kt ((zI_le ra (by decide : (-2147483648 : Int) ≤ 0 ∧ (0 : Int) ≤ 2147483647)).mp h)) (fun h => kf (fun z => h ((zI_le ra (by decide : (-2147483648 : Int) ≤ 0 ∧ (0 : Int) ≤ 2147483647)).mpr z)))
theorem b_if_eq (hx : p.tables.exec = Jvm.exec) (hb : c.code = cc) {b : Bool} {off : Int} {tgt : Nat} (hdg : decode cc pc = .ok (.ifCond .eq off, 3)) (ht : (pc : Int) + off = (tgt : Int)) (kt : b = false → W p l e R s m args below meth c H locs cells slots Q (F0 m tgt ls rest)) (kf : b = true → W p l e R s m args below meth c H locs cells slots Q (F0 m (pc + 3) ls rest)) : W p l e R s m args below meth c H locs cells slots Q (F0 m pc ls (.int (bI b) :: rest)) := lv_if_eq hx hb hdg ht (fun h => kt ((bI_eq0 b).mp h)) (fun h => kf (by cases b; exact absurd rfl h; rfl))
theorem b_if_ne (hx : p.tables.exec = Jvm.exec) (hb : c.code = cc) {b : Bool} {off : Int} {tgt : Nat} (hdg : decode cc pc = .ok (.ifCond .ne off, 3)) (ht : (pc : Int) + off = (tgt : Int)) (kt : b = true → W p l e R s m args below meth c H locs cells slots Q (F0 m tgt ls rest)) (kf : b = false → W p l e R s m args below meth c H locs cells slots Q (F0 m (pc + 3) ls rest)) : W p l e R s m args below meth c H locs cells slots Q (F0 m pc ls (.int (bI b) :: rest)) := lv_if_ne hx hb hdg ht (fun h => kt (by cases b; exact absurd rfl h; rfl)) (fun h => kf ((bI_eq0 b).mp h))
theorem b_icmp_eq (hx : p.tables.exec = Jvm.exec) (hb : c.code = cc) {a b : Bool} {off : Int} {tgt : Nat} (hdg : decode cc pc = .ok (.if_icmp .eq off, 3)) (ht : (pc : Int) + off = (tgt : Int)) (kt : a = b → W p l e R s m args below meth c H locs cells slots Q (F0 m tgt ls rest)) (kf : ¬ a = b → W p l e R s m args below meth c H locs cells slots Q (F0 m (pc + 3) ls rest)) : W p l e R s m args below meth c H locs cells slots Q (F0 m pc ls (.int (bI b) :: .int (bI a) :: rest)) := lv_icmp_eq hx hb hdg ht (fun h => kt (bI_inj.mp h)) (fun h => kf (fun z => h (bI_inj.mpr z)))
theorem b_icmp_ne (hx : p.tables.exec = Jvm.exec) (hb : c.code = cc) {a b : Bool} {off : Int} {tgt : Nat} (hdg : decode cc pc = .ok (.if_icmp .ne off, 3)) (ht : (pc : Int) + off = (tgt : Int)) (kt : ¬ a = b → W p l e R s m args below meth c H locs cells slots Q (F0 m tgt ls rest)) (kf : a = b → W p l e R s m args below meth c H locs cells slots Q (F0 m (pc + 3) ls rest)) : W p l e R s m args below meth c H locs cells slots Q (F0 m pc ls (.int (bI b) :: .int (bI a) :: rest)) := lv_icmp_ne hx hb hdg ht (fun h => kt (fun z => h (bI_inj.mpr z))) (fun h => kf (bI_inj.mp h))
theorem z_iconst (hx : p.tables.exec = Jvm.exec) (hb : c.code = cc) {n : Int} (hdg : decode cc pc = .ok (.iconst n, 1)) (k : W p l e R s m args below meth c H locs cells slots Q (F0 m (pc + 1) ls (.int (zI n) :: rest))) : W p l e R s m args below meth c H locs cells slots Q (F0 m pc ls rest) := lv_iconst (v := zI n) hx hb hdg rfl k
theorem z_bipush (hx : p.tables.exec = Jvm.exec) (hb : c.code = cc) {n : Int} (hdg : decode cc pc = .ok (.bipush n, 2)) (hv : (Int8.ofInt n).toInt32 = zI n) (k : W p l e R s m args below meth c H locs cells slots Q (F0 m (pc + 2) ls (.int (zI n) :: rest))) : W p l e R s m args below meth c H locs cells slots Q (F0 m pc ls rest) := lv_bipush (v := zI n) hx hb hdg hv k
theorem z_sipush (hx : p.tables.exec = Jvm.exec) (hb : c.code = cc) {n : Int} (hdg : decode cc pc = .ok (.sipush n, 3)) (hv : (Int16.ofInt n).toInt32 = zI n) (k : W p l e R s m args below meth c H locs cells slots Q (F0 m (pc + 3) ls (.int (zI n) :: rest))) : W p l e R s m args below meth c H locs cells slots Q (F0 m pc ls rest) := lv_sipush (v := zI n) hx hb hdg hv k
theorem z_ldc (hx : p.tables.exec = Jvm.exec) (hb : c.code = cc) {own : String} {index : Nat} {v : Int32} (n : Int) (hv : v = zI n) (hown : s.vm.findClass own = some m.cls) (hconst : (Jvm.Cond.constant own index v).before args s = true) (hdg : decode cc pc = .ok (.ldc index, 2)) (k : W p l e R s m args below meth c H locs cells slots Q (F0 m (pc + 2) ls (.int (zI n) :: rest))) : W p l e R s m args below meth c H locs cells slots Q (F0 m pc ls rest) := lv_ldc (v := v) hx hb hown hconst hdg (by rw [hv]; exact k)
theorem z_ldcw (hx : p.tables.exec = Jvm.exec) (hb : c.code = cc) {own : String} {index : Nat} {v : Int32} (n : Int) (hv : v = zI n) (hown : s.vm.findClass own = some m.cls) (hconst : (Jvm.Cond.constant own index v).before args s = true) (hdg : decode cc pc = .ok (.ldc_w index, 3)) (k : W p l e R s m args below meth c H locs cells slots Q (F0 m (pc + 3) ls (.int (zI n) :: rest))) : W p l e R s m args below meth c H locs cells slots Q (F0 m pc ls rest) := lv_ldcw (v := v) hx hb hown hconst hdg (by rw [hv]; exact k)
theorem z_iald (hx : p.tables.exec = Jvm.exec) (hb : c.code = cc) (hK : gK D kI kB s) (hP : va_P D gC W0 H) (q0 : Nat) {n aa : Nat} {F : Nat → Int} (ha : W0[q0]? = some (aa, .inl (kI, n, .inl (aZ F)))) {i : Int} (k : Nat) (hi : i = (k : Int)) (hk : k < n) (hn : n ≤ 65536) (hdg : decode cc pc = .ok (.iaload, 1)) (kk : W p l e R s m args below meth c H locs cells slots Q (F0 m (pc + 1) ls (.int (zI (F k)) :: rest))) : W p l e R s m args below meth c H locs cells slots Q (F0 m pc ls (.int (zI i) :: .ref aa :: rest)) :=
  va_iald hx hb hK.1 hP q0 0 ha rfl (zI_in k hi hk hn) hdg (by subst hi; rw [zI_cl k (by omega)]; exact kk)
theorem z_bald (hx : p.tables.exec = Jvm.exec) (hb : c.code = cc) (hK : gK D kI kB s) (hP : va_P D gC W0 H) (q0 : Nat) {n aa : Nat} {F : Nat → Bool} (ha : W0[q0]? = some (aa, .inl (kB, n, .inl (aB F)))) {i : Int} (k : Nat) (hi : i = (k : Int)) (hk : k < n) (hn : n ≤ 65536) (hdg : decode cc pc = .ok (.baload, 1)) (kk : W p l e R s m args below meth c H locs cells slots Q (F0 m (pc + 1) ls (.int (bI (F k)) :: rest))) : W p l e R s m args below meth c H locs cells slots Q (F0 m pc ls (.int (zI i) :: .ref aa :: rest)) :=
  va_zald hx hb hK.1 hP q0 1 ha rfl (zI_in k hi hk hn) hdg (by subst hi; rw [zI_cl k (by omega)]; exact kk)
theorem z_iast (hx : p.tables.exec = Jvm.exec) (hb : c.code = cc) (hK : gK D kI kB s) (hP : va_P D gC W0 H) (hD : va_D A W0) (hS : va_S A H0 H locs) (q0 : Nat) {n aa : Nat} {F : Nat → Int} (ha : W0[q0]? = some (aa, .inl (kI, n, .inl (aZ F)))) {i v : Int} (k : Nat) (hi : i = (k : Int)) (hk : k < n) (hn : n ≤ 65536) (hdg : decode cc pc = .ok (.iastore, 1)) (kk : ∀ (H1 : Heap) (locs1 : List Loc), va_P D gC (W0.set q0 (aa, .inl (kI, n, .inl (aZ (uZ F k v))))) H1 → va_D A (W0.set q0 (aa, .inl (kI, n, .inl (aZ (uZ F k v))))) → va_S A H0 H1 locs1 → W p l e R s m args below meth c H1 locs1 cells slots Q (F0 m (pc + 1) ls rest)) : W p l e R s m args below meth c H locs cells slots Q (F0 m pc ls (.int (zI v) :: .int (zI i) :: .ref aa :: rest)) := by
  refine va_iast hx hb hK.1 hP hD hS q0 0 ha rfl (zI_in k hi hk hn) hdg ?_
  subst hi
  rw [zI_cl k (by omega), aZ_upd]
  exact kk
theorem z_bast (hx : p.tables.exec = Jvm.exec) (hb : c.code = cc) (hK : gK D kI kB s) (hP : va_P D gC W0 H) (hD : va_D A W0) (hS : va_S A H0 H locs) (q0 : Nat) {n aa : Nat} {F : Nat → Bool} (ha : W0[q0]? = some (aa, .inl (kB, n, .inl (aB F)))) {i : Int} {v : Bool} (k : Nat) (hi : i = (k : Int)) (hk : k < n) (hn : n ≤ 65536) (hdg : decode cc pc = .ok (.bastore, 1)) (kk : ∀ (H1 : Heap) (locs1 : List Loc), va_P D gC (W0.set q0 (aa, .inl (kB, n, .inl (aB (uB F k v))))) H1 → va_D A (W0.set q0 (aa, .inl (kB, n, .inl (aB (uB F k v))))) → va_S A H0 H1 locs1 → W p l e R s m args below meth c H1 locs1 cells slots Q (F0 m (pc + 1) ls rest)) : W p l e R s m args below meth c H locs cells slots Q (F0 m pc ls (.int (bI v) :: .int (zI i) :: .ref aa :: rest)) := by
  refine va_zast hx hb hK.1 hP hD hS q0 1 ha rfl (zI_in k hi hk hn) hdg ?_
  subst hi
  rw [zI_cl k (by omega), bI_nar, aB_upd]
  exact kk
theorem z_alen (hx : p.tables.exec = Jvm.exec) (hb : c.code = cc) (hK : gK D kI kB s) (hP : va_P D gC W0 H) (q0 : Nat) {n aa : Nat} {F : Nat → Int32} (ha : W0[q0]? = some (aa, .inl (kI, n, .inl F))) (hdg : decode cc pc = .ok (.arraylength, 1)) (kk : W p l e R s m args below meth c H locs cells slots Q (F0 m (pc + 1) ls (.int (zI (n : Int)) :: rest))) : W p l e R s m args below meth c H locs cells slots Q (F0 m pc ls (.ref aa :: rest)) :=
  va_alen (v := zI (n : Int)) hx hb hK.1 hP q0 0 ha rfl (zI_nat n).symm hdg kk
theorem b_icmp_eq1 (hx : p.tables.exec = Jvm.exec) (hb : c.code = cc) {a : Bool} {off : Int} {tgt : Nat} (hdg : decode cc pc = .ok (.if_icmp .eq off, 3)) (ht : (pc : Int) + off = (tgt : Int)) (kt : a = true → W p l e R s m args below meth c H locs cells slots Q (F0 m tgt ls rest)) (kf : a = false → W p l e R s m args below meth c H locs cells slots Q (F0 m (pc + 3) ls rest)) : W p l e R s m args below meth c H locs cells slots Q (F0 m pc ls (.int (zI 1) :: .int (bI a) :: rest)) := lv_icmp_eq hx hb hdg ht (fun h => kt (by cases a <;> first | rfl | exact absurd h (by decide))) (fun h => kf (by cases a <;> first | rfl | exact absurd rfl h | exact absurd h (by decide)))
theorem b_icmp_eq0 (hx : p.tables.exec = Jvm.exec) (hb : c.code = cc) {a : Bool} {off : Int} {tgt : Nat} (hdg : decode cc pc = .ok (.if_icmp .eq off, 3)) (ht : (pc : Int) + off = (tgt : Int)) (kt : a = false → W p l e R s m args below meth c H locs cells slots Q (F0 m tgt ls rest)) (kf : a = true → W p l e R s m args below meth c H locs cells slots Q (F0 m (pc + 3) ls rest)) : W p l e R s m args below meth c H locs cells slots Q (F0 m pc ls (.int (zI 0) :: .int (bI a) :: rest)) := lv_icmp_eq hx hb hdg ht (fun h => kt (by cases a <;> first | rfl | exact absurd h (by decide))) (fun h => kf (by cases a <;> first | rfl | exact absurd rfl h | exact absurd h (by decide)))
theorem b_icmp_ne1 (hx : p.tables.exec = Jvm.exec) (hb : c.code = cc) {a : Bool} {off : Int} {tgt : Nat} (hdg : decode cc pc = .ok (.if_icmp .ne off, 3)) (ht : (pc : Int) + off = (tgt : Int)) (kt : a = false → W p l e R s m args below meth c H locs cells slots Q (F0 m tgt ls rest)) (kf : a = true → W p l e R s m args below meth c H locs cells slots Q (F0 m (pc + 3) ls rest)) : W p l e R s m args below meth c H locs cells slots Q (F0 m pc ls (.int (zI 1) :: .int (bI a) :: rest)) := lv_icmp_ne hx hb hdg ht (fun h => kt (by cases a <;> first | rfl | exact absurd h (by decide))) (fun h => kf (by cases a <;> first | rfl | exact absurd rfl h | exact absurd h (by decide)))
theorem b_icmp_ne0 (hx : p.tables.exec = Jvm.exec) (hb : c.code = cc) {a : Bool} {off : Int} {tgt : Nat} (hdg : decode cc pc = .ok (.if_icmp .ne off, 3)) (ht : (pc : Int) + off = (tgt : Int)) (kt : a = true → W p l e R s m args below meth c H locs cells slots Q (F0 m tgt ls rest)) (kf : a = false → W p l e R s m args below meth c H locs cells slots Q (F0 m (pc + 3) ls rest)) : W p l e R s m args below meth c H locs cells slots Q (F0 m pc ls (.int (zI 0) :: .int (bI a) :: rest)) := lv_icmp_ne hx hb hdg ht (fun h => kt (by cases a <;> first | rfl | exact absurd h (by decide))) (fun h => kf (by cases a <;> first | rfl | exact absurd rfl h | exact absurd h (by decide)))
theorem z_m255 (hx : p.tables.exec = Jvm.exec) (hb : c.code = cc) {a : Int} (hdg : decode cc pc = .ok (.iand, 1)) (ha : 0 ≤ a ∧ a < 256) (k : W p l e R s m args below meth c H locs cells slots Q (F0 m (pc + 1) ls (.int (zI a) :: rest))) : W p l e R s m args below meth c H locs cells slots Q (F0 m pc ls (.int (zI 255) :: .int (zI a) :: rest)) := lv_iand hx hb hdg (by rw [zb_m255 ha]; exact k)
theorem z_m15 (hx : p.tables.exec = Jvm.exec) (hb : c.code = cc) {a : Int} (hdg : decode cc pc = .ok (.iand, 1)) (ha : 0 ≤ a ∧ a < 16) (k : W p l e R s m args below meth c H locs cells slots Q (F0 m (pc + 1) ls (.int (zI a) :: rest))) : W p l e R s m args below meth c H locs cells slots Q (F0 m pc ls (.int (zI 15) :: .int (zI a) :: rest)) := lv_iand hx hb hdg (by rw [zb_m15 ha]; exact k)
theorem z_tableOut (hx : p.tables.exec = Jvm.exec) (hb : c.code = cc) {a dflt lo hi : Int} {offs : Array Int} {len tgt : Nat} (hdg : decode cc pc = .ok (.tableswitch dflt lo hi offs, len)) (ra : -2147483648 ≤ a ∧ a ≤ 2147483647) (h : a < lo ∨ hi < a) (ht : (pc : Int) + dflt = (tgt : Int)) (k : W p l e R s m args below meth c H locs cells slots Q (F0 m tgt ls rest)) : W p l e R s m args below meth c H locs cells slots Q (F0 m pc ls (.int (zI a) :: rest)) := lv_tableOut hx hb hdg (by rw [zI_toInt ra]; exact h) ht k
theorem z_tableIn {a dflt lo hi off : Int} {offs : Array Int} {len tgt : Nat} (j : Nat) (hx : p.tables.exec = Jvm.exec) (hb : c.code = cc) (hdg : decode cc pc = .ok (.tableswitch dflt lo hi offs, len)) (ra : -2147483648 ≤ a ∧ a ≤ 2147483647) (h : a = lo + j) (h2 : lo + j ≤ hi) (ho : offs[j]? = some off) (ht : (pc : Int) + off = (tgt : Int)) (k : W p l e R s m args below meth c H locs cells slots Q (F0 m tgt ls rest)) : W p l e R s m args below meth c H locs cells slots Q (F0 m pc ls (.int (zI a) :: rest)) := lv_tableIn hx hb hdg (by rw [zI_toInt ra]; omega) (by rw [zI_toInt ra]; omega) (by rw [zI_toInt ra, h, show (lo + (j : Int) - lo).toNat = j by omega]; exact ho) ht k
theorem z_copy (hx : p.tables.exec = Jvm.exec) (hb : c.code = cc) (hml : c.maxLocals = ls.size) {own : String} {index : Nat} (hown : s.vm.findClass own = some m.cls) (hlink : (Cond.methodLink own index arraycopyName).before args s = true) (hnat : (Cond.native arraycopyName).before args s = true) (hstat : (Cond.static arraycopyName).before args s = true) (hini : (Cond.initialized "java/lang/System").before args s = true)
    (hK : gK D kI kB s) (hP : va_P D gC W0 H) (hD : va_D A W0) (hS : va_S A H0 H locs) (q0 q1 : Nat) {a0 a1 n0 n1 : Nat} {F G : Nat → Int} (ha0 : W0[q0]? = some (a0, .inl (kI, n0, .inl (aZ F)))) (ha1 : W0[q1]? = some (a1, .inl (kI, n1, .inl (aZ G)))) {sp dp n : Int} (ks kd kn : Nat) (e1 : sp = (ks : Int)) (e2 : dp = (kd : Int)) (e3 : n = (kn : Int)) (h4 : ks + kn ≤ n0) (h5 : kd + kn ≤ n1) (hn0 : n0 ≤ 65536) (hn1 : n1 ≤ 65536)
    (hframes : 1 ≤ R.frames) (hlocals : (rest.map fun v => v.category).sum + (nativeFrameWords "java/lang/System" "arraycopy" 5 + 11) ≤ R.locals) (hdg : decode cc pc = .ok (.invokestatic index, 3))
    (kk : ∀ (H1 : Heap) (locs1 : List Loc), va_P D gC (W0.set q1 (a1, .inl (kI, n1, .inl (aZ (cpZ F G ks kd kn))))) H1 → va_D A (W0.set q1 (a1, .inl (kI, n1, .inl (aZ (cpZ F G ks kd kn))))) → va_S A H0 H1 locs1 → W p l e R s m args below meth c H1 locs1 cells slots Q (F0 m (pc + 3) ls rest)) : W p l e R s m args below meth c H locs cells slots Q (F0 m pc ls (.int (zI n) :: .int (zI dp) :: .ref a1 :: .int (zI sp) :: .ref a0 :: rest)) := by
  subst e1; subst e2; subst e3
  have c1 := zI_cl ks (by omega)
  have c2 := zI_cl kd (by omega)
  have c3 := zI_cl kn (by omega)
  have nn : ∀ k : Nat, k ≤ 65536 → ¬ zI (k : Int) < 0 := fun k hk z => by
    rw [← zI_0, zI_lt (by omega) (by omega)] at z
    omega
  refine va_copyi hx hb hml hown hlink hnat hstat hini hK.1 hP hD hS q0 q1 0 0 ha0 ha1 rfl rfl rfl (nn ks (by omega)) (nn kd (by omega)) (nn kn (by omega)) (by rw [c1, c3]; exact h4) (by rw [c2, c3]; exact h5) (fun _ _ => rfl) hframes hlocals hdg ?_
  rw [c1, c2, c3, aZ_cpy]
  exact kk
end GCL
