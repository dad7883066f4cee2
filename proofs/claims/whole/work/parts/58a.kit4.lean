/-! ===== a large world after a call: compared place by place ===== -/
theorem gSet_is {ws xs w1 : va_W} {is : List Nat} (rs : List Nat) (hl : is.length = xs.length) (ys : va_W) (h1 : is.map (fun i => w1[i]?) = xs.map some) (h2 : rs.map (fun i => w1[i]?) = ys.map some) (h4 : rs.map (fun i => ws[i]?) = ys.map some) (n : Nat) (hn : w1.length = n) (hw : ws.length = n) (h3 : (List.range n).all (fun k => is.contains k || rs.contains k) = true) : gSet ws is xs = w1 := by
  apply List.ext_getElem?
  intro k
  by_cases hk : k < ws.length
  · have hk2 : k < (gSet ws is xs).length := by rw [gSet_len]; exact hk
    have e := List.getElem?_eq_getElem hk2
    rw [e]
    rcases gSet_at is xs ws hl k _ e with ⟨j, a, b⟩ | ⟨a, b⟩
    · have z := congrArg (fun l => l[j]?) h1
      simp only [List.getElem?_map, a, b, Option.map_some] at z
      exact (Option.some.inj z).symm
    · have q0 := List.all_eq_true.mp h3 k (List.mem_range.mpr (by omega))
      rw [Bool.or_eq_true, List.contains_iff_mem, List.contains_iff_mem] at q0
      rcases q0 with q | q
      · exact absurd q a
      · have z : ∀ i, i ∈ rs → w1[i]? = ws[i]? := fun i hi => by
          have := List.map_inj_left.mp (h2.trans h4.symm) i hi
          exact this
        rw [z k q, b]
  · rw [List.getElem?_eq_none (by rw [gSet_len]; omega), List.getElem?_eq_none (by omega)]
theorem gP_is {D : va_G} {ws xs w1 : va_W} {is : List Nat} {H : Heap} (rs : List Nat) (h : va_P D gC (gSet ws is xs) H) (hl : is.length = xs.length) (ys : va_W) (h1 : is.map (fun i => w1[i]?) = xs.map some) (h2 : rs.map (fun i => w1[i]?) = ys.map some) (h4 : rs.map (fun i => ws[i]?) = ys.map some) (n : Nat) (hn : w1.length = n) (hw : ws.length = n) (h3 : (List.range n).all (fun k => is.contains k || rs.contains k) = true) : va_P D gC w1 H := by rw [← gSet_is rs hl ys h1 h2 h4 n hn hw h3]; exact h
theorem gD_is {A : Addr → Prop} {ws xs w1 : va_W} {is : List Nat} (rs : List Nat) (h : va_D A (gSet ws is xs)) (hl : is.length = xs.length) (ys : va_W) (h1 : is.map (fun i => w1[i]?) = xs.map some) (h2 : rs.map (fun i => w1[i]?) = ys.map some) (h4 : rs.map (fun i => ws[i]?) = ys.map some) (n : Nat) (hn : w1.length = n) (hw : ws.length = n) (h3 : (List.range n).all (fun k => is.contains k || rs.contains k) = true) : va_D A w1 := by rw [← gSet_is rs hl ys h1 h2 h4 n hn hw h3]; exact h
