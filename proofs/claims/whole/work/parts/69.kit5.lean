/-! ===== what makes new cells: arrays, objects, constructors ===== -/
/-- the addresses that came, by their places -/
def nv (q : List Nat) (k : Nat) : Nat := q.getD k 0
def gPreN (D : va_G) (kI kB : ClassId) (b : Nat) (c0 : va_E) (sz : Nat) : Array Value → State → Prop := va_Pc [.ref b] (fun U => U.heap.size = sz ∧ va_P D gC [(b, c0)] U.heap ∧ va_D (fun _ => True) [(b, c0)] ∧ gK D kI kB U)
theorem gPreN_blind {D : va_G} {kI kB : ClassId} {b : Nat} {c0 : va_E} {sz : Nat} : FrameBlind (gPreN D kI kB b c0 sz) := fun a U g mk q => by
  obtain ⟨q0, q1, q2, q3, q4⟩ := q
  exact ⟨q0, q1, q2, q3, q4.call⟩
/-- a constructor: the cell b, as it was made, becomes the world w1 u; mc cells of ms slots are new -/
def gNw (l : Launch) (y : MethodName) (ws : List Cond) (rm : Room) (D : va_G) (kI kB : ClassId) (b : Nat) (c0 : va_E) (mc ms : Nat) {S : Type} (w1 : S → va_W) : Prop :=
  ∀ sz : Nat, Met l y ws rm (gPreN D kI kB b c0 sz) (va_Qv (fun (_ : S) => True) (fun u t => va_P D gC (w1 u) t.heap ∧ va_D (va_A [(b, c0)] sz) (w1 u)) (va_A [(b, c0)] sz)) mc ms (va_A [(b, c0)] sz)
theorem g_startN {l : Launch} {y : MethodName} {ws ws' : List Cond} {rm : Room} {b : Nat} {c0 : va_E} {mc ms : Nat} {cc : ByteArray} {D : va_G} {kI kB : ClassId} {S : Type} {w1 : S → va_W}
    (hy : plainName y.cls = true) (hw : ws = Cond.code y cc 1 none :: ws')
    (body : ∀ (p : Program) (e : Env) (s : State) (m : MethodId) (below : List Frame) (meth : Method) (c : Code) (A : Nat → Prop), p.tables.exec = Jvm.exec → c.code = cc → meth.sig.returnType = none → c.maxLocals = 1 → (∀ w ∈ ws, w.before [Value.ref b].toArray s = true) → s.vm.findClass y.cls = some m.cls → meth.locks = false → meth.name = y.name → (∀ q, s.heap.size ≤ q → A q) → va_P D gC [(b, c0)] s.heap → va_D A [(b, c0)] → gK D kI kB s → va_S A s.heap s.heap [] → ∀ ls, lv_has ls 1 [(0, .ref b)] → W p l e rm s m [Value.ref b].toArray below meth c s.heap [] 0 0 (MQ below (va_Qv (fun (_ : S) => True) (fun u t => va_P D gC (w1 u) t.heap ∧ va_D A (w1 u)) A) [Value.ref b].toArray s mc ms A) (F0 m 0 ls [])) : gNw l y ws rm D kI kB b c0 mc ms w1 := by
  intro sz
  refine Met.ofW (cc := cc) (maxL := 1) (ret := none) hy hw ?_
  intro p e s m args below meth c s₁ B hml hv
  obtain ⟨rfl, hsz, hP, hD, hK⟩ := hv
  subst hsz
  have hl := lv_entry [Value.ref b] (n := 1) (Nat.le_refl _)
  rw [lg_entry_eq]
  exact body p e s m below meth c _ B.exec B.bytes B.returns hml (atoms_spec (ws := ws) B.pre) (findClass_of_methodNamed B.named) B.notSynchronized (name_of_methodNamed B.named B.method).1 (fun q h => Or.inr h) hP hD.self hK va_S.rf _ hl
section NK
variable {p : Program} {l : Launch} {e : Env} {R : Room} {s : State} {m : MethodId} {args : Array Value} {below : List Frame} {meth : Method} {c : Code} {H H0 : Heap} {locs : List Loc} {cells slots : Nat} {Q : State → Prop}
variable {cc : ByteArray} {pc : Nat} {ls : Array Slot} {rest st0 : List Value} {D : va_G} {W0 : va_W} {A : Nat → Prop} {kI kB : ClassId} {a : Array Value}
theorem g_nret {S : Type} {w1 : S → va_W} (u : S) (hx : p.tables.exec = Jvm.exec) (hb : c.code = cc) (hr : meth.sig.returnType = none) (hlk : meth.locks = false) (hP : va_P D gC (w1 u) H) (hD : va_D A (w1 u)) (hS : va_S A s.heap H locs) (hdg : decode cc pc = .ok (.return_, 1)) :
    W p l e R s m args below meth c H locs cells slots (MQ below (va_Qv (fun (_ : S) => True) (fun u t => va_P D gC (w1 u) t.heap ∧ va_D A (w1 u)) A) args s cells slots A) (F0 m pc ls []) :=
  W.vret hx hb hr (fun t ht _ => ⟨⟨u, rfl, trivial, by subst ht; exact hP, hD⟩, hS.F ht⟩) hS.2.2 hdg hlk
theorem bI_0 : bI false = 0 := by decide
theorem z_newI (hx : p.tables.exec = Jvm.exec) (hb : c.code = cc) (harr : (Cond.arrayClass .int).before args s = true) (hK : gK D kI kB s) (hP : va_P D gC W0 H) (hD : va_D A W0) (hS : va_S A H0 H locs) (hA : ∀ q, H0.size ≤ q → A q) {n : Int} (N' : Nat) (hn : n = (N' : Int)) (hN : N' ≤ 65536) (hcells : cells + 1 ≤ R.cells) (hslots : slots + N' ≤ R.slots) (hdg : decode cc pc = .ok (.newarray .int, 2))
    (kk : ∀ (q : Nat) (H1 : Heap), va_P D gC (W0 ++ [(q, .inl (kI, N', .inl (aZ (fun _ => 0))))]) H1 → va_D A (W0 ++ [(q, .inl (kI, N', .inl (aZ (fun _ => 0))))]) → va_S A H0 H1 locs → W p l e R s m args below meth c H1 locs (cells + 1) (slots + N') Q (F0 m (pc + 2) ls (.ref q :: rest))) : W p l e R s m args below meth c H locs cells slots Q (F0 m pc ls (.int (zI n) :: rest)) := by
  subst hn
  have hcl := zI_cl N' (by omega)
  refine va_newa (atype := .int) hx hb harr rfl hK.1 hP hD hS hA (a0 := (N', .inl (aZ (fun _ => 0)))) (fun cA => ?_) ?_ hcl ?_ hcells hslots hdg (fun q cA H1 hK1 hP1 hD1 hS1 => ?_)
  · rw [vp_cell_i]
    unfold aZ
    dsimp only
    rw [zI_0]
    rfl
  · intro z
    rw [Int32.lt_iff_toInt_lt, zI_toInt (by omega)] at z
    have : (0 : Int32).toInt = 0 := by decide
    omega
  · show N' * 4 ≤ _
    omega
  · have h1 : s.vm.findClass ("[" ++ (FieldType.int).toString) = some cA := (hK1.2 2 (cA, .int) rfl).2
    have h2 : s.vm.findClass ("[" ++ (FieldType.int).toString) = some kI := (hK.1.2 0 (kI, .int) rfl).2
    have e : cA = kI := Option.some.inj (h1.symm.trans h2)
    subst e
    exact kk q H1 hP1 hD1 hS1
theorem z_newB (hx : p.tables.exec = Jvm.exec) (hb : c.code = cc) (harr : (Cond.arrayClass .boolean).before args s = true) (hK : gK D kI kB s) (hP : va_P D gC W0 H) (hD : va_D A W0) (hS : va_S A H0 H locs) (hA : ∀ q, H0.size ≤ q → A q) {n : Int} (N' : Nat) (hn : n = (N' : Int)) (hN : N' ≤ 65536) (hcells : cells + 1 ≤ R.cells) (hslots : slots + N' ≤ R.slots) (hdg : decode cc pc = .ok (.newarray .boolean, 2))
    (kk : ∀ (q : Nat) (H1 : Heap), va_P D gC (W0 ++ [(q, .inl (kB, N', .inl (aB (fun _ => false))))]) H1 → va_D A (W0 ++ [(q, .inl (kB, N', .inl (aB (fun _ => false))))]) → va_S A H0 H1 locs → W p l e R s m args below meth c H1 locs (cells + 1) (slots + N') Q (F0 m (pc + 2) ls (.ref q :: rest))) : W p l e R s m args below meth c H locs cells slots Q (F0 m pc ls (.int (zI n) :: rest)) := by
  subst hn
  have hcl := zI_cl N' (by omega)
  refine va_newa (atype := .boolean) hx hb harr rfl hK.1 hP hD hS hA (a0 := (N', .inl (aB (fun _ => false)))) (fun cA => ?_) ?_ hcl ?_ hcells hslots hdg (fun q cA H1 hK1 hP1 hD1 hS1 => ?_)
  · rw [vp_cell_i]
    unfold aB
    dsimp only
    rw [bI_0]
    rfl
  · intro z
    rw [Int32.lt_iff_toInt_lt, zI_toInt (by omega)] at z
    have : (0 : Int32).toInt = 0 := by decide
    omega
  · show N' * 1 ≤ _
    omega
  · have h1 : s.vm.findClass ("[" ++ (FieldType.boolean).toString) = some cA := (hK1.2 2 (cA, .boolean) rfl).2
    have h2 : s.vm.findClass ("[" ++ (FieldType.boolean).toString) = some kB := (hK.1.2 1 (kB, .boolean) rfl).2
    have e : cA = kB := Option.some.inj (h1.symm.trans h2)
    subst e
    exact kk q H1 hP1 hD1 hS1
theorem g_preN {b : Nat} {c0 : va_E} (hP : va_P D gC W0 H) (hD : va_D A W0) (hK : gK D kI kB s) (k : Nat) (hk : [k].map (fun i => W0[i]?) = [(b, c0)].map some) : PreS s H (gPreN D kI kB b c0 H.size) [.ref b] :=
  ⟨gPreN_blind, fun U hU hW => ⟨rfl, by rw [hU], by
    rw [hU]
    refine hP.sub [k] ?_
    have e : [k].filterMap (fun i => W0[i]?) = ([k].map (fun i => W0[i]?)).filterMap id := by rw [List.filterMap_map]; rfl
    rw [e, hk, List.filterMap_map]
    rfl, ⟨(hD.sub [k] rfl hk).1, fun _ _ _ => trivial⟩, hK.warm hW⟩⟩
theorem g_mk {S : Type} {w1 : S → va_W} {b mc ms : Nat} {c0 : va_E} (hr : va_Run p l e R s m args below meth c H locs cells slots mc ms (F0 m pc ls st0) rest (va_Qv (fun (_ : S) => True) (fun u t => va_P D gC (w1 u) t.heap ∧ va_D (va_A [(b, c0)] H.size) (w1 u)) (va_A [(b, c0)] H.size) a) (va_A [(b, c0)] H.size)) (hP : va_P D gC W0 H) (hD : va_D A W0) (hS : va_S A H0 H locs) (hA : ∀ q, H0.size ≤ q → A q) (k : Nat) (isR : List Nat) (wr : va_W) (hC : [k].map (fun i => W0[i]?) = [(b, c0)].map some) (hR : isR.map (fun i => W0[i]?) = wr.map some) (hn : va_nd isR = true) (hdis : isR.contains k = false)
    (kk : ∀ (u : S) (H1 : Heap) (locs1 : List Loc), va_P D gC (wr ++ w1 u) H1 → va_D A (wr ++ w1 u) → va_S A H0 H1 locs1 → W p l e R s m args below meth c H1 locs1 (cells + mc) (slots + ms) Q (F0 m (pc + 3) ls rest)) : W p l e R s m args below meth c H locs cells slots Q (F0 m pc ls st0) := by
  have hFc := va_free (wc := [(b, c0)]) hD hS hA [k] hC
  refine va_callv hr hS (fun q _ h => hFc q h) hFc (fun u t H1 locs1 ht _ _ hB _ hk hS1 => ?_)
  obtain ⟨hP1, hD1⟩ := hB
  rw [ht] at hP1
  have hd : ∀ i ∈ isR, i ∉ [k] := by
    intro i hi hk
    rw [List.mem_singleton] at hk
    subst hk
    rw [List.contains_iff_mem.mpr hi] at hdis
    cases hdis
  obtain ⟨h1, h2⟩ := va_join (wr := wr) (w1 := w1 u) hP hD [k] isR hC hR hn hd hk hFc hP1 hD1
  exact kk u H1 locs1 h1 h2 hS1
end NK
