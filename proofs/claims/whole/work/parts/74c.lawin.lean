set_option maxRecDepth 20000 in
theorem lin29 : ∀ w ∈ wsL_law_r29, w ∈ lw_tbl := fun w h => (goodIn_p wsL_law_r29 [596, 600, 1051, 604, 608, 1055] (by decide +kernel) (by decide +kernel) w h).1
set_option maxRecDepth 20000 in
theorem lin30 : ∀ w ∈ wsL_law_r30, w ∈ lw_tbl := fun w h => (goodIn_p wsL_law_r30 [612, 617, 646, 621, 625, 629] (by decide +kernel) (by decide +kernel) w h).1
set_option maxRecDepth 20000 in
theorem lin31 : ∀ w ∈ wsL_law_r31, w ∈ lw_tbl := fun w h => (goodIn_p wsL_law_r31 [637, 642, 1059, 1063] (by decide +kernel) (by decide +kernel) w h).1
set_option maxRecDepth 20000 in
theorem lin32 : ∀ w ∈ wsL_law_r32, w ∈ lw_tbl := fun w h => (goodIn_p wsL_law_r32 [1067, 1071, 1075, 1079, 650] (by decide +kernel) (by decide +kernel) w h).1
set_option maxRecDepth 20000 in
theorem lin33 : ∀ w ∈ wsL_law_r33, w ∈ lw_tbl := fun w h => (goodIn_p wsL_law_r33 [655, 1083, 659, 663, 1087, 668] (by decide +kernel) (by decide +kernel) w h).1
set_option maxRecDepth 20000 in
theorem lin34 : ∀ w ∈ wsL_law_r34, w ∈ lw_tbl := fun w h => (goodIn_p wsL_law_r34 [671, 675, 679, 683, 1091, 1094, 1098] (by decide +kernel) (by decide +kernel) w h).1
set_option maxRecDepth 20000 in
theorem lin35 : ∀ w ∈ wsL_law_r35, w ∈ lw_tbl := fun w h => (goodIn_p wsL_law_r35 [687, 691, 695, 1102, 699, 703] (by decide +kernel) (by decide +kernel) w h).1
set_option maxRecDepth 20000 in
theorem lin36 : ∀ w ∈ wsL_law_r36, w ∈ lw_tbl := fun w h => (goodIn_p wsL_law_r36 [707, 1106, 712, 717, 722] (by decide +kernel) (by decide +kernel) w h).1
set_option maxRecDepth 20000 in
theorem lin37 : ∀ w ∈ wsL_law_r37, w ∈ lw_tbl := fun w h => (goodIn_p wsL_law_r37 [727, 1110, 731, 735, 740] (by decide +kernel) (by decide +kernel) w h).1
set_option maxRecDepth 20000 in
theorem lin38 : ∀ w ∈ wsL_law_r38, w ∈ lw_tbl := fun w h => (goodIn_p wsL_law_r38 [746, 1114, 1118, 752, 756] (by decide +kernel) (by decide +kernel) w h).1
set_option maxRecDepth 20000 in
theorem lin39 : ∀ w ∈ wsL_law_r39, w ∈ lw_tbl := fun w h => (goodIn_p wsL_law_r39 [763, 767, 772] (by decide +kernel) (by decide +kernel) w h).1
set_option maxRecDepth 20000 in
theorem lin40 : ∀ w ∈ wsL_law_r40, w ∈ lw_tbl := fun w h => (goodIn_p wsL_law_r40 [784, 788, 792, 796, 1124] (by decide +kernel) (by decide +kernel) w h).1
set_option maxRecDepth 20000 in
theorem lin41 : ∀ w ∈ wsL_law_r41, w ∈ lw_tbl := fun w h => (goodIn_p wsL_law_r41 [1128, 1133, 1145, 1149] (by decide +kernel) (by decide +kernel) w h).1
set_option maxRecDepth 20000 in
theorem lin42 : ∀ w ∈ wsL_law_r42, w ∈ lw_tbl := fun w h => (goodIn_p wsL_law_r42 [800, 1153, 804, 1157, 808, 1161] (by decide +kernel) (by decide +kernel) w h).1
set_option maxRecDepth 20000 in
theorem inX7 : ∀ w ∈ wsX70, w ∈ lw_tbl := by decide +kernel
set_option maxRecDepth 20000 in
theorem inX8 : ∀ w ∈ wsX80, w ∈ lw_tbl := by decide +kernel
set_option maxRecDepth 20000 in
theorem inX4 : ∀ w ∈ wsX40, w ∈ lw_tbl := by decide +kernel
set_option maxRecDepth 20000 in
theorem inX0 : ∀ w ∈ wsX00, w ∈ lw_tbl := by decide +kernel
set_option maxRecDepth 20000 in
theorem inX6 : ∀ w ∈ wsX60, w ∈ lw_tbl := by decide +kernel
set_option maxRecDepth 20000 in
theorem inX1 : ∀ w ∈ wsX10, w ∈ lw_tbl := by decide +kernel
set_option maxRecDepth 20000 in
theorem inX3 : ∀ w ∈ wsX30, w ∈ lw_tbl := by decide +kernel
set_option maxRecDepth 20000 in
theorem inX5 : ∀ w ∈ wsX50, w ∈ lw_tbl := by decide +kernel
set_option maxRecDepth 20000 in
theorem inX2 : ∀ w ∈ wsX20, w ∈ lw_tbl := by decide +kernel
theorem wsL_law_in : ∀ w ∈ wsL_law, w ∈ lw_tbl := by
  unfold wsL_law
  exact List.forall_mem_append.mpr ⟨List.forall_mem_append.mpr ⟨List.forall_mem_append.mpr ⟨List.forall_mem_append.mpr ⟨List.forall_mem_append.mpr ⟨List.forall_mem_append.mpr ⟨List.forall_mem_append.mpr ⟨List.forall_mem_append.mpr ⟨List.forall_mem_append.mpr ⟨List.forall_mem_append.mpr ⟨List.forall_mem_append.mpr ⟨lin1, List.forall_mem_append.mpr ⟨lin2, List.forall_mem_append.mpr ⟨lin3, List.forall_mem_append.mpr ⟨lin4, List.forall_mem_append.mpr ⟨lin5, List.forall_mem_append.mpr ⟨lin6, List.forall_mem_append.mpr ⟨lin7, List.forall_mem_append.mpr ⟨lin8, List.forall_mem_append.mpr ⟨lin9, List.forall_mem_append.mpr ⟨lin10, List.forall_mem_append.mpr ⟨lin11, List.forall_mem_append.mpr ⟨lin12, List.forall_mem_append.mpr ⟨lin13, List.forall_mem_append.mpr ⟨lin14, List.forall_mem_append.mpr ⟨lin15, List.forall_mem_append.mpr ⟨lin16, List.forall_mem_append.mpr ⟨lin17, List.forall_mem_append.mpr ⟨lin18, List.forall_mem_append.mpr ⟨lin19, List.forall_mem_append.mpr ⟨lin20, List.forall_mem_append.mpr ⟨lin21, List.forall_mem_append.mpr ⟨lin22, List.forall_mem_append.mpr ⟨lin23, List.forall_mem_append.mpr ⟨lin24, List.forall_mem_append.mpr ⟨lin25, List.forall_mem_append.mpr ⟨lin26, List.forall_mem_append.mpr ⟨lin27, List.forall_mem_append.mpr ⟨lin28, List.forall_mem_append.mpr ⟨lin29, List.forall_mem_append.mpr ⟨lin30, List.forall_mem_append.mpr ⟨lin31, List.forall_mem_append.mpr ⟨lin32, List.forall_mem_append.mpr ⟨lin33, List.forall_mem_append.mpr ⟨lin34, List.forall_mem_append.mpr ⟨lin35, List.forall_mem_append.mpr ⟨lin36, List.forall_mem_append.mpr ⟨lin37, List.forall_mem_append.mpr ⟨lin38, List.forall_mem_append.mpr ⟨lin39, List.forall_mem_append.mpr ⟨lin40, List.forall_mem_append.mpr ⟨lin41, lin42⟩⟩⟩⟩⟩⟩⟩⟩⟩⟩⟩⟩⟩⟩⟩⟩⟩⟩⟩⟩⟩⟩⟩⟩⟩⟩⟩⟩⟩⟩⟩⟩⟩⟩⟩⟩⟩⟩⟩⟩⟩, inX7⟩, inX8⟩, inX4⟩, inX0⟩, inX6⟩, inX1⟩, inX3⟩, inX5⟩, inX2⟩, (fun w h => absurd h List.not_mem_nil)⟩
