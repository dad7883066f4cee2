theorem in_ps {big : List Cond} (ws : List Cond) (ps : List Nat) (hp : ws = ps.filterMap (fun i => big[i]?)) : ∀ w ∈ ws, w ∈ big := by
  intro w hw
  rw [hp] at hw
  obtain ⟨i, -, hi⟩ := List.mem_filterMap.mp hw
  exact List.mem_of_getElem? hi
set_option maxRecDepth 20000 in
theorem inL_wsL_law_r1 : ∀ w ∈ wsL_law_r1, w ∈ lw_tbl := in_ps _ [53, 54, 43, 684, 685, 49, 55, 56, 57, 58, 59, 60, 61, 62, 44, 199, 79, 80, 45, 200, 164, 86, 46, 201] (by decide +kernel)
set_option maxRecDepth 20000 in
theorem inL_wsL_law_r2 : ∀ w ∈ wsL_law_r2, w ∈ lw_tbl := in_ps _ [166, 167, 47, 202, 183, 184, 48, 203, 204, 205, 64, 65, 66, 78, 67, 68, 69, 82, 83, 84, 85, 118, 119, 120] (by decide +kernel)
set_option maxRecDepth 20000 in
theorem inL_wsL_law_r3 : ∀ w ∈ wsL_law_r3, w ∈ lw_tbl := in_ps _ [121, 122, 123, 117, 124, 125, 126, 127, 128, 129, 131, 133, 88, 89, 90, 91, 92, 93, 94, 95, 96, 97, 98, 169] (by decide +kernel)
set_option maxRecDepth 20000 in
theorem inL_wsL_law_r4 : ∀ w ∈ wsL_law_r4, w ∈ lw_tbl := in_ps _ [170, 171, 172, 173, 174, 186, 187, 188, 189, 190, 191, 686, 687, 688, 689, 690, 691, 693, 694, 698, 699, 700, 703, 704] (by decide +kernel)
set_option maxRecDepth 20000 in
theorem inL_wsL_law_r5 : ∀ w ∈ wsL_law_r5, w ∈ lw_tbl := in_ps _ [705, 706, 221, 222, 223, 224, 405, 225, 226, 227, 228, 229, 230, 50, 231, 232, 233, 234, 235, 237, 0, 238, 239, 240] (by decide +kernel)
set_option maxRecDepth 20000 in
theorem inL_wsL_law_r6 : ∀ w ∈ wsL_law_r6, w ∈ lw_tbl := in_ps _ [241, 242, 243, 244, 245, 246, 251, 247, 248, 249, 250, 252, 254, 1, 255, 256, 258, 2, 259, 260, 261, 262, 263, 264] (by decide +kernel)
set_option maxRecDepth 20000 in
theorem inL_wsL_law_r7 : ∀ w ∈ wsL_law_r7, w ∈ lw_tbl := in_ps _ [266, 3, 267, 268, 270, 4, 271, 272, 273, 274, 275, 276, 277, 278, 279, 280, 281, 282, 283, 284, 286, 5, 287, 292] (by decide +kernel)
