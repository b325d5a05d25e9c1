set_option maxRecDepth 20000 in
theorem wsL_law_t10 : ∀ w ∈ wsX100, w ∈ lw_tbl := fun w h => (goodIn_r (big := lw_tbl) wsX100 [347, 349, 351, 353, 355, 357, 359] rfl (by decide +kernel) w h).1
set_option maxRecDepth 20000 in
theorem wsL_law_t11 : ∀ w ∈ wsX110, w ∈ lw_tbl := fun w h => (goodIn_r (big := lw_tbl) wsX110 [1051, 1053, 1055, 1057, 1059, 1061, 1063, 1065, 1067, 1069, 1071, 1073, 1075, 1077, 1079, 1081, 1083, 1085, 1087, 1089, 1091, 1093, 1095, 1097, 1099, 1101, 1103, 1105, 1107, 1109, 1111, 1113, 1115, 1117, 1119] rfl (by decide +kernel) w h).1
set_option maxRecDepth 20000 in
theorem wsL_law_t9 : ∀ w ∈ wsX90, w ∈ lw_tbl := fun w h => (goodIn_r (big := lw_tbl) wsX90 [104, 106] rfl (by decide +kernel) w h).1
set_option maxRecDepth 20000 in
theorem wsL_law_t1 : ∀ w ∈ wsX10, w ∈ lw_tbl := fun w h => (goodIn_r (big := lw_tbl) wsX10 [149, 151] rfl (by decide +kernel) w h).1
set_option maxRecDepth 20000 in
theorem wsL_law_t2 : ∀ w ∈ wsX20, w ∈ lw_tbl := fun w h => (goodIn_r (big := lw_tbl) wsX20 [287, 289, 291, 293, 295, 297, 299, 301, 303, 305, 307, 309] rfl (by decide +kernel) w h).1
set_option maxRecDepth 20000 in
theorem wsL_law_t4 : ∀ w ∈ wsX40, w ∈ lw_tbl := fun w h => (goodIn_r (big := lw_tbl) wsX40 [322] rfl (by decide +kernel) w h).1
set_option maxRecDepth 20000 in
theorem wsL_law_t5 : ∀ w ∈ wsX50, w ∈ lw_tbl := fun w h => (goodIn_r (big := lw_tbl) wsX50 [335, 337] rfl (by decide +kernel) w h).1
set_option maxRecDepth 20000 in
theorem wsL_law_t0 : ∀ w ∈ wsX00, w ∈ lw_tbl := fun w h => (goodIn_r (big := lw_tbl) wsX00 [135, 137, 139, 141, 143] rfl (by decide +kernel) w h).1
set_option maxRecDepth 20000 in
theorem wsL_law_t8 : ∀ w ∈ wsX80, w ∈ lw_tbl := fun w h => (goodIn_r (big := lw_tbl) wsX80 [174] rfl (by decide +kernel) w h).1
set_option maxRecDepth 20000 in
theorem wsL_law_t6 : ∀ w ∈ wsX60, w ∈ lw_tbl := fun w h => (goodIn_r (big := lw_tbl) wsX60 [191, 193, 195] rfl (by decide +kernel) w h).1
set_option maxRecDepth 20000 in
theorem wsL_law_t3 : ∀ w ∈ wsX30, w ∈ lw_tbl := fun w h => (goodIn_r (big := lw_tbl) wsX30 [215, 217, 219, 221, 223] rfl (by decide +kernel) w h).1
set_option maxRecDepth 20000 in
theorem wsL_law_t7 : ∀ w ∈ wsX70, w ∈ lw_tbl := fun w h => (goodIn_r (big := lw_tbl) wsX70 [245, 247, 249, 251, 253, 255] rfl (by decide +kernel) w h).1
def wsL_law : List Cond := wsL_law0 ++ (vx_at0 RX10 222 "java/util/NoSuchElementException" ["java/lang/RuntimeException", "java/lang/Exception"]).filter goodWord
theorem wsL_law_in0 : ∀ w ∈ wsL_law0, w ∈ lw_tbl := List.forall_mem_append.mpr ⟨List.forall_mem_append.mpr ⟨List.forall_mem_append.mpr ⟨List.forall_mem_append.mpr ⟨List.forall_mem_append.mpr ⟨List.forall_mem_append.mpr ⟨List.forall_mem_append.mpr ⟨List.forall_mem_append.mpr ⟨List.forall_mem_append.mpr ⟨List.forall_mem_append.mpr ⟨List.forall_mem_append.mpr ⟨List.forall_mem_append.mpr ⟨List.forall_mem_append.mpr ⟨(List.forall_mem_append.mpr ⟨wsL_law_p1, List.forall_mem_append.mpr ⟨wsL_law_p2, List.forall_mem_append.mpr ⟨wsL_law_p3, List.forall_mem_append.mpr ⟨wsL_law_p4, List.forall_mem_append.mpr ⟨wsL_law_p5, List.forall_mem_append.mpr ⟨wsL_law_p6, List.forall_mem_append.mpr ⟨wsL_law_p7, List.forall_mem_append.mpr ⟨wsL_law_p8, List.forall_mem_append.mpr ⟨wsL_law_p9, List.forall_mem_append.mpr ⟨wsL_law_p10, List.forall_mem_append.mpr ⟨wsL_law_p11, List.forall_mem_append.mpr ⟨wsL_law_p12, List.forall_mem_append.mpr ⟨wsL_law_p13, List.forall_mem_append.mpr ⟨wsL_law_p14, List.forall_mem_append.mpr ⟨wsL_law_p15, List.forall_mem_append.mpr ⟨wsL_law_p16, List.forall_mem_append.mpr ⟨wsL_law_p17, List.forall_mem_append.mpr ⟨wsL_law_p18, List.forall_mem_append.mpr ⟨wsL_law_p19, List.forall_mem_append.mpr ⟨wsL_law_p20, List.forall_mem_append.mpr ⟨wsL_law_p21, List.forall_mem_append.mpr ⟨wsL_law_p22, List.forall_mem_append.mpr ⟨wsL_law_p23, List.forall_mem_append.mpr ⟨wsL_law_p24, List.forall_mem_append.mpr ⟨wsL_law_p25, List.forall_mem_append.mpr ⟨wsL_law_p26, List.forall_mem_append.mpr ⟨wsL_law_p27, List.forall_mem_append.mpr ⟨wsL_law_p28, List.forall_mem_append.mpr ⟨wsL_law_p29, List.forall_mem_append.mpr ⟨wsL_law_p30, List.forall_mem_append.mpr ⟨wsL_law_p31, List.forall_mem_append.mpr ⟨wsL_law_p32, List.forall_mem_append.mpr ⟨wsL_law_p33, List.forall_mem_append.mpr ⟨wsL_law_p34, List.forall_mem_append.mpr ⟨wsL_law_p35, List.forall_mem_append.mpr ⟨wsL_law_p36, List.forall_mem_append.mpr ⟨wsL_law_p37, List.forall_mem_append.mpr ⟨wsL_law_p38, List.forall_mem_append.mpr ⟨wsL_law_p39, List.forall_mem_append.mpr ⟨wsL_law_p40, List.forall_mem_append.mpr ⟨wsL_law_p41, List.forall_mem_append.mpr ⟨wsL_law_p42, List.forall_mem_append.mpr ⟨wsL_law_p43, List.forall_mem_append.mpr ⟨wsL_law_p44, List.forall_mem_append.mpr ⟨wsL_law_p45, List.forall_mem_append.mpr ⟨wsL_law_p46, List.forall_mem_append.mpr ⟨wsL_law_p47, List.forall_mem_append.mpr ⟨wsL_law_p48, List.forall_mem_append.mpr ⟨wsL_law_p49, List.forall_mem_append.mpr ⟨wsL_law_p50, List.forall_mem_append.mpr ⟨wsL_law_p51, wsL_law_p52⟩⟩⟩⟩⟩⟩⟩⟩⟩⟩⟩⟩⟩⟩⟩⟩⟩⟩⟩⟩⟩⟩⟩⟩⟩⟩⟩⟩⟩⟩⟩⟩⟩⟩⟩⟩⟩⟩⟩⟩⟩⟩⟩⟩⟩⟩⟩⟩⟩⟩⟩), wsL_law_t10⟩, wsL_law_t11⟩, wsL_law_t9⟩, wsL_law_t1⟩, wsL_law_t2⟩, wsL_law_t4⟩, wsL_law_t5⟩, wsL_law_t0⟩, wsL_law_t8⟩, wsL_law_t6⟩, wsL_law_t3⟩, wsL_law_t7⟩, fun _ h => absurd h List.not_mem_nil⟩
theorem wsL_law_x0 : ∀ w ∈ (vx_at0 RX10 222 "java/util/NoSuchElementException" ["java/lang/RuntimeException", "java/lang/Exception"]).filter goodWord, w ∈ lw_tbl := by decide +kernel
theorem wsL_law_in : ∀ w ∈ wsL_law, w ∈ lw_tbl := fun w h => (List.mem_append.mp h).elim (fun h => wsL_law_in0 w h) (fun h => wsL_law_x0 w h)
theorem inlX0 : ∀ w ∈ wsX00, w ∈ wsL_law := fun _ h => List.mem_append_left _ (List.mem_append_left _ (List.mem_append_left _ (List.mem_append_left _ (List.mem_append_left _ (List.mem_append_left _ (List.mem_append_right _ h))))))
theorem inX0 : ∀ w ∈ wsX00, w ∈ lw_tbl := fun w h => wsL_law_in w (inlX0 w h)
theorem inlX1 : ∀ w ∈ wsX10, w ∈ wsL_law := fun _ h => List.mem_append_left _ (List.mem_append_left _ (List.mem_append_left _ (List.mem_append_left _ (List.mem_append_left _ (List.mem_append_left _ (List.mem_append_left _ (List.mem_append_left _ (List.mem_append_left _ (List.mem_append_left _ (List.mem_append_right _ h))))))))))
theorem inX1 : ∀ w ∈ wsX10, w ∈ lw_tbl := fun w h => wsL_law_in w (inlX1 w h)
theorem inlX2 : ∀ w ∈ wsX20, w ∈ wsL_law := fun _ h => List.mem_append_left _ (List.mem_append_left _ (List.mem_append_left _ (List.mem_append_left _ (List.mem_append_left _ (List.mem_append_left _ (List.mem_append_left _ (List.mem_append_left _ (List.mem_append_left _ (List.mem_append_right _ h)))))))))
theorem inX2 : ∀ w ∈ wsX20, w ∈ lw_tbl := fun w h => wsL_law_in w (inlX2 w h)
theorem inlX3 : ∀ w ∈ wsX30, w ∈ wsL_law := fun _ h => List.mem_append_left _ (List.mem_append_left _ (List.mem_append_left _ (List.mem_append_right _ h)))
theorem inX3 : ∀ w ∈ wsX30, w ∈ lw_tbl := fun w h => wsL_law_in w (inlX3 w h)
theorem inlX4 : ∀ w ∈ wsX40, w ∈ wsL_law := fun _ h => List.mem_append_left _ (List.mem_append_left _ (List.mem_append_left _ (List.mem_append_left _ (List.mem_append_left _ (List.mem_append_left _ (List.mem_append_left _ (List.mem_append_left _ (List.mem_append_right _ h))))))))
theorem inX4 : ∀ w ∈ wsX40, w ∈ lw_tbl := fun w h => wsL_law_in w (inlX4 w h)
theorem inlX5 : ∀ w ∈ wsX50, w ∈ wsL_law := fun _ h => List.mem_append_left _ (List.mem_append_left _ (List.mem_append_left _ (List.mem_append_left _ (List.mem_append_left _ (List.mem_append_left _ (List.mem_append_left _ (List.mem_append_right _ h)))))))
theorem inX5 : ∀ w ∈ wsX50, w ∈ lw_tbl := fun w h => wsL_law_in w (inlX5 w h)
theorem inlX6 : ∀ w ∈ wsX60, w ∈ wsL_law := fun _ h => List.mem_append_left _ (List.mem_append_left _ (List.mem_append_left _ (List.mem_append_left _ (List.mem_append_right _ h))))
theorem inX6 : ∀ w ∈ wsX60, w ∈ lw_tbl := fun w h => wsL_law_in w (inlX6 w h)
theorem inlX7 : ∀ w ∈ wsX70, w ∈ wsL_law := fun _ h => List.mem_append_left _ (List.mem_append_left _ (List.mem_append_right _ h))
theorem inX7 : ∀ w ∈ wsX70, w ∈ lw_tbl := fun w h => wsL_law_in w (inlX7 w h)
theorem inlX8 : ∀ w ∈ wsX80, w ∈ wsL_law := fun _ h => List.mem_append_left _ (List.mem_append_left _ (List.mem_append_left _ (List.mem_append_left _ (List.mem_append_left _ (List.mem_append_right _ h)))))
theorem inX8 : ∀ w ∈ wsX80, w ∈ lw_tbl := fun w h => wsL_law_in w (inlX8 w h)
theorem inlX9 : ∀ w ∈ wsX90, w ∈ wsL_law := fun _ h => List.mem_append_left _ (List.mem_append_left _ (List.mem_append_left _ (List.mem_append_left _ (List.mem_append_left _ (List.mem_append_left _ (List.mem_append_left _ (List.mem_append_left _ (List.mem_append_left _ (List.mem_append_left _ (List.mem_append_left _ (List.mem_append_right _ h)))))))))))
theorem inX9 : ∀ w ∈ wsX90, w ∈ lw_tbl := fun w h => wsL_law_in w (inlX9 w h)
theorem inlX10 : ∀ w ∈ wsX100, w ∈ wsL_law := fun _ h => List.mem_append_left _ (List.mem_append_left _ (List.mem_append_left _ (List.mem_append_left _ (List.mem_append_left _ (List.mem_append_left _ (List.mem_append_left _ (List.mem_append_left _ (List.mem_append_left _ (List.mem_append_left _ (List.mem_append_left _ (List.mem_append_left _ (List.mem_append_left _ (List.mem_append_right _ h)))))))))))))
theorem inX10 : ∀ w ∈ wsX100, w ∈ lw_tbl := fun w h => wsL_law_in w (inlX10 w h)
theorem inlX11 : ∀ w ∈ wsX110, w ∈ wsL_law := fun _ h => List.mem_append_left _ (List.mem_append_left _ (List.mem_append_left _ (List.mem_append_left _ (List.mem_append_left _ (List.mem_append_left _ (List.mem_append_left _ (List.mem_append_left _ (List.mem_append_left _ (List.mem_append_left _ (List.mem_append_left _ (List.mem_append_left _ (List.mem_append_right _ h))))))))))))
theorem inX11 : ∀ w ∈ wsX110, w ∈ lw_tbl := fun w h => wsL_law_in w (inlX11 w h)
