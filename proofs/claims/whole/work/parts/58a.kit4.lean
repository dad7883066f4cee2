/-! ===== a large world after a call: compared place by place ===== -/
theorem gSet_is {ws xs w1 : va_W} {is : List Nat} (rs : List Nat) (hl : is.length = xs.length) (hn : w1.length = ws.length) (h1 : is.map (fun i => w1[i]?) = xs.map some) (h2 : rs.map (fun i => w1[i]?) = rs.map (fun i => ws[i]?)) (h3 : ∀ k, k < ws.length → k ∈ is ∨ k ∈ rs) : gSet ws is xs = w1 := by
  apply List.ext_getElem?
  intro k
  by_cases hk : k < ws.length
  · have hk2 : k < (gSet ws is xs).length := by rw [gSet_len]; exact hk
    have e := List.getElem?_eq_getElem hk2
    rw [e]
    rcases gSet_at is xs ws hl k _ e with ⟨j, a, b⟩ | ⟨a, b⟩
    · have z := congrArg (fun l => l[j]?) h1
      simp only [List.getElem?_map, a, b, Option.map_some] at z
      exact (Option.some.inj z).symm
    · rcases h3 k hk with q | q
      · exact absurd q a
      · have z : ∀ i, i ∈ rs → w1[i]? = ws[i]? := fun i hi => by
          have := List.map_inj_left.mp h2 i hi
          exact this
        rw [z k q, b]
  · rw [List.getElem?_eq_none (by rw [gSet_len]; omega), List.getElem?_eq_none (by omega)]
theorem gP_is {D : va_G} {ws xs w1 : va_W} {is : List Nat} {H : Heap} (rs : List Nat) (h : va_P D gC (gSet ws is xs) H) (hl : is.length = xs.length) (hn : w1.length = ws.length) (h1 : is.map (fun i => w1[i]?) = xs.map some) (h2 : rs.map (fun i => w1[i]?) = rs.map (fun i => ws[i]?)) (h3 : ∀ k, k < ws.length → k ∈ is ∨ k ∈ rs) : va_P D gC w1 H := by rw [← gSet_is rs hl hn h1 h2 h3]; exact h
theorem gD_is {A : Addr → Prop} {ws xs w1 : va_W} {is : List Nat} (rs : List Nat) (h : va_D A (gSet ws is xs)) (hl : is.length = xs.length) (hn : w1.length = ws.length) (h1 : is.map (fun i => w1[i]?) = xs.map some) (h2 : rs.map (fun i => w1[i]?) = rs.map (fun i => ws[i]?)) (h3 : ∀ k, k < ws.length → k ∈ is ∨ k ∈ rs) : va_D A w1 := by rw [← gSet_is rs hl hn h1 h2 h3]; exact h
