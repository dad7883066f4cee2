section DS
variable {P : Nat → Nat} {m8 : Bool} {x : Nat}
theorem dotS_1t (h : dk P x = true) : dotS P m8 x 1 = (cD P m8 (rp P m8 x) : Int) := by unfold dotS; rw [if_neg (by decide), if_pos rfl, if_pos h]
theorem dotS_1f (h : dk P x = false) : dotS P m8 x 1 = -1 := by unfold dotS; rw [if_neg (by decide), if_pos rfl, if_neg (by rw [h]; decide)]
theorem dotS_2t (h : dk P x = true) : dotS P m8 x 2 = -1 := by unfold dotS; rw [if_neg (by decide), if_neg (by decide), if_pos rfl, if_pos h]
theorem dotS_2f (h : dk P x = false) : dotS P m8 x 2 = if cb (opn P m8 x) then -1 else (cH P m8 (rp P m8 x) : Int) := by unfold dotS; rw [if_neg (by decide), if_neg (by decide), if_pos rfl, if_neg (by rw [h]; decide)]
theorem dotS_3t (h : dk P x = true) : dotS P m8 x 3 = -1 := by unfold dotS; rw [if_neg (by decide), if_neg (by decide), if_neg (by decide), if_pos rfl, if_pos h]
theorem dotS_3f (h : dk P x = false) : dotS P m8 x 3 = (cD P m8 256 : Int) - (cD (fl1 P x) m8 256 : Int) + 1 := by unfold dotS; rw [if_neg (by decide), if_neg (by decide), if_neg (by decide), if_pos rfl, if_neg (by rw [h]; decide)]
theorem dotS_4t (h : dk P x = true) : dotS P m8 x 4 = (cD (fl1 P x) m8 256 : Int) - (cD P m8 256 : Int) + 1 := by unfold dotS; rw [if_neg (by decide), if_neg (by decide), if_neg (by decide), if_neg (by decide), if_pos rfl, if_pos h]
theorem dotS_4f (h : dk P x = false) : dotS P m8 x 4 = -1 := by unfold dotS; rw [if_neg (by decide), if_neg (by decide), if_neg (by decide), if_neg (by decide), if_pos rfl, if_neg (by rw [h]; decide)]
end DS
