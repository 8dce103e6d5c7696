set_option maxRecDepth 20000 in
theorem wl_1 : GoodIn lw_tbl wsL_law_r1 := goodIn_p wsL_law_r1 [577, 68, 71] (by decide +kernel) (by decide +kernel)
set_option maxRecDepth 20000 in
theorem wl_2 : GoodIn lw_tbl wsL_law_r2 := goodIn_p wsL_law_r2 [76, 79] (by decide +kernel) (by decide +kernel)
set_option maxRecDepth 20000 in
theorem wl_3 : GoodIn lw_tbl wsL_law_r3 := goodIn_p wsL_law_r3 [82, 106, 660] (by decide +kernel) (by decide +kernel)
set_option maxRecDepth 20000 in
theorem wl_4 : GoodIn lw_tbl wsL_law_r4 := goodIn_p wsL_law_r4 [] (by decide +kernel) (by decide +kernel)
set_option maxRecDepth 20000 in
theorem wl_5 : GoodIn lw_tbl wsL_law_r5 := goodIn_p wsL_law_r5 [193, 197, 202] (by decide +kernel) (by decide +kernel)
set_option maxRecDepth 20000 in
theorem wl_6 : GoodIn lw_tbl wsL_law_r6 := goodIn_p wsL_law_r6 [244, 248, 252, 256] (by decide +kernel) (by decide +kernel)
set_option maxRecDepth 20000 in
theorem wl_7 : GoodIn lw_tbl wsL_law_r7 := goodIn_p wsL_law_r7 [262, 259, 266, 269, 283] (by decide +kernel) (by decide +kernel)
set_option maxRecDepth 20000 in
theorem wl_8 : GoodIn lw_tbl wsL_law_r8 := goodIn_p wsL_law_r8 [289, 805, 298] (by decide +kernel) (by decide +kernel)
set_option maxRecDepth 20000 in
theorem wl_9 : GoodIn lw_tbl wsL_law_r9 := goodIn_p wsL_law_r9 [302, 306, 309, 312, 316, 809] (by decide +kernel) (by decide +kernel)
set_option maxRecDepth 20000 in
theorem wl_10 : GoodIn lw_tbl wsL_law_r10 := goodIn_p wsL_law_r10 [813, 320, 324, 329] (by decide +kernel) (by decide +kernel)
set_option maxRecDepth 20000 in
theorem wl_11 : GoodIn lw_tbl wsL_law_r11 := goodIn_p wsL_law_r11 [896, 333, 337, 341, 344] (by decide +kernel) (by decide +kernel)
set_option maxRecDepth 20000 in
theorem wl_12 : GoodIn lw_tbl wsL_law_r12 := goodIn_p wsL_law_r12 [348, 352, 356, 360, 364] (by decide +kernel) (by decide +kernel)
set_option maxRecDepth 20000 in
theorem wl_13 : GoodIn lw_tbl wsL_law_r13 := goodIn_p wsL_law_r13 [368, 373, 377, 380, 384] (by decide +kernel) (by decide +kernel)
set_option maxRecDepth 20000 in
theorem wl_14 : GoodIn lw_tbl wsL_law_r14 := goodIn_p wsL_law_r14 [388, 392, 396, 400] (by decide +kernel) (by decide +kernel)
set_option maxRecDepth 20000 in
theorem wl_15 : GoodIn lw_tbl wsL_law_r15 := goodIn_p wsL_law_r15 [407, 411, 415, 419] (by decide +kernel) (by decide +kernel)
set_option maxRecDepth 20000 in
theorem wl_16 : GoodIn lw_tbl wsL_law_r16 := goodIn_p wsL_law_r16 [423, 427, 469, 473] (by decide +kernel) (by decide +kernel)
set_option maxRecDepth 20000 in
theorem wl_17 : GoodIn lw_tbl wsL_law_r17 := goodIn_p wsL_law_r17 [864, 868, 838, 872, 876] (by decide +kernel) (by decide +kernel)
set_option maxRecDepth 20000 in
theorem wl_18 : GoodIn lw_tbl wsL_law_r18 := goodIn_p wsL_law_r18 [860, 880, 884, 856, 830] (by decide +kernel) (by decide +kernel)
set_option maxRecDepth 20000 in
theorem wl_19 : GoodIn lw_tbl wsL_law_r19 := goodIn_p wsL_law_r19 [477, 888, 481, 484, 892, 488] (by decide +kernel) (by decide +kernel)
set_option maxRecDepth 20000 in
theorem wl_20 : GoodIn lw_tbl wsL_law_r20 := goodIn_p wsL_law_r20 [493, 497, 501, 505, 509] (by decide +kernel) (by decide +kernel)
set_option maxRecDepth 20000 in
theorem wl_21 : GoodIn lw_tbl wsL_law_r21 := goodIn_p wsL_law_r21 [512, 515, 525, 529, 533] (by decide +kernel) (by decide +kernel)
set_option maxRecDepth 20000 in
theorem wl_22 : GoodIn lw_tbl wsL_law_r22 := goodIn_p wsL_law_r22 [536, 540, 545, 549, 553] (by decide +kernel) (by decide +kernel)
set_option maxRecDepth 20000 in
theorem wl_23 : GoodIn lw_tbl wsL_law_r23 := goodIn_p wsL_law_r23 [558, 817, 822, 826, 834, 842] (by decide +kernel) (by decide +kernel)
set_option maxRecDepth 20000 in
theorem wl_24 : GoodIn lw_tbl wsL_law_r24 := goodIn_p wsL_law_r24 [846, 851, 585, 900] (by decide +kernel) (by decide +kernel)
set_option maxRecDepth 20000 in
theorem wl_25 : GoodIn lw_tbl wsL_law_r25 := goodIn_p wsL_law_r25 [801, 562, 904, 566, 908, 570] (by decide +kernel) (by decide +kernel)
set_option maxRecDepth 20000 in
theorem wl_26 : GoodIn lw_tbl wsL_law_r26 := goodIn_p wsL_law_r26 [912, 574, 916] (by decide +kernel) (by decide +kernel)
set_option maxRecDepth 20000 in
theorem wl_wsX30 : ∀ w ∈ wsX30, w ∈ lw_tbl := by decide +kernel
set_option maxRecDepth 20000 in
theorem wl_wsX40 : ∀ w ∈ wsX40, w ∈ lw_tbl := by decide +kernel
set_option maxRecDepth 20000 in
theorem wl_wsJx4a65c0 : ∀ w ∈ wsJx4a65c0, w ∈ lw_tbl := by decide +kernel
set_option maxRecDepth 20000 in
theorem wl_wsX10 : ∀ w ∈ wsX10, w ∈ lw_tbl := by decide +kernel
set_option maxRecDepth 20000 in
theorem wl_wsX20 : ∀ w ∈ wsX20, w ∈ lw_tbl := by decide +kernel
set_option maxRecDepth 20000 in
theorem wl_wsX00 : ∀ w ∈ wsX00, w ∈ lw_tbl := by decide +kernel
set_option maxRecDepth 20000 in
theorem wl_wsJx000600 : ∀ w ∈ wsJx000600, w ∈ lw_tbl := by decide +kernel
theorem wl_r : GoodIn lw_tbl (wsL_law_r1 ++ (wsL_law_r2 ++ (wsL_law_r3 ++ (wsL_law_r4 ++ (wsL_law_r5 ++ (wsL_law_r6 ++ (wsL_law_r7 ++ (wsL_law_r8 ++ (wsL_law_r9 ++ (wsL_law_r10 ++ (wsL_law_r11 ++ (wsL_law_r12 ++ (wsL_law_r13 ++ (wsL_law_r14 ++ (wsL_law_r15 ++ (wsL_law_r16 ++ (wsL_law_r17 ++ (wsL_law_r18 ++ (wsL_law_r19 ++ (wsL_law_r20 ++ (wsL_law_r21 ++ (wsL_law_r22 ++ (wsL_law_r23 ++ (wsL_law_r24 ++ (wsL_law_r25 ++ wsL_law_r26))))))))))))))))))))))))) := goodIn_app wl_1 (goodIn_app wl_2 (goodIn_app wl_3 (goodIn_app wl_4 (goodIn_app wl_5 (goodIn_app wl_6 (goodIn_app wl_7 (goodIn_app wl_8 (goodIn_app wl_9 (goodIn_app wl_10 (goodIn_app wl_11 (goodIn_app wl_12 (goodIn_app wl_13 (goodIn_app wl_14 (goodIn_app wl_15 (goodIn_app wl_16 (goodIn_app wl_17 (goodIn_app wl_18 (goodIn_app wl_19 (goodIn_app wl_20 (goodIn_app wl_21 (goodIn_app wl_22 (goodIn_app wl_23 (goodIn_app wl_24 (goodIn_app wl_25 (wl_26)))))))))))))))))))))))))
theorem wl_app {a b c : List Cond} (ha : ∀ w ∈ a, w ∈ c) (hb : ∀ w ∈ b, w ∈ c) : ∀ w ∈ a ++ b, w ∈ c := fun w h => (List.mem_append.mp h).elim (ha w) (hb w)
theorem wsL_law_in : ∀ w ∈ wsL_law, w ∈ lw_tbl := wl_app (wl_app (wl_app (wl_app (wl_app (wl_app (wl_app (wl_app (fun w h => (wl_r w h).1) wl_wsX30) wl_wsX40) wl_wsJx4a65c0) wl_wsX10) wl_wsX20) wl_wsX00) wl_wsJx000600) (fun w h => absurd h List.not_mem_nil)
theorem inlX0 : ∀ w ∈ wsX00, w ∈ wsL_law := fun _ h => List.mem_append_left _ (List.mem_append_left _ (List.mem_append_right _ h))
theorem inX0 : ∀ w ∈ wsX00, w ∈ lw_tbl := fun w h => wsL_law_in w (inlX0 w h)
theorem inlX1 : ∀ w ∈ wsX10, w ∈ wsL_law := fun _ h => List.mem_append_left _ (List.mem_append_left _ (List.mem_append_left _ (List.mem_append_left _ (List.mem_append_right _ h))))
theorem inX1 : ∀ w ∈ wsX10, w ∈ lw_tbl := fun w h => wsL_law_in w (inlX1 w h)
theorem inlX2 : ∀ w ∈ wsX20, w ∈ wsL_law := fun _ h => List.mem_append_left _ (List.mem_append_left _ (List.mem_append_left _ (List.mem_append_right _ h)))
theorem inX2 : ∀ w ∈ wsX20, w ∈ lw_tbl := fun w h => wsL_law_in w (inlX2 w h)
theorem inlX3 : ∀ w ∈ wsX30, w ∈ wsL_law := fun _ h => List.mem_append_left _ (List.mem_append_left _ (List.mem_append_left _ (List.mem_append_left _ (List.mem_append_left _ (List.mem_append_left _ (List.mem_append_left _ (List.mem_append_right _ h)))))))
theorem inX3 : ∀ w ∈ wsX30, w ∈ lw_tbl := fun w h => wsL_law_in w (inlX3 w h)
theorem inlX4 : ∀ w ∈ wsX40, w ∈ wsL_law := fun _ h => List.mem_append_left _ (List.mem_append_left _ (List.mem_append_left _ (List.mem_append_left _ (List.mem_append_left _ (List.mem_append_left _ (List.mem_append_right _ h))))))
theorem inX4 : ∀ w ∈ wsX40, w ∈ lw_tbl := fun w h => wsL_law_in w (inlX4 w h)
theorem inJx145de : ∀ w ∈ wsJx145de0, w ∈ lw_tbl := by decide +kernel
theorem inlJx00060 : ∀ w ∈ wsJx000600, w ∈ wsL_law := fun _ h => List.mem_append_left _ (List.mem_append_right _ h)
theorem inJx00060 : ∀ w ∈ wsJx000600, w ∈ lw_tbl := fun w h => wsL_law_in w (inlJx00060 w h)
theorem inJx8e188 : ∀ w ∈ wsJx8e1880, w ∈ lw_tbl := by decide +kernel
theorem inJxab1ab : ∀ w ∈ wsJxab1ab0, w ∈ lw_tbl := by decide +kernel
theorem inJ9 : ∀ w ∈ wsJ90, w ∈ lw_tbl := by decide +kernel
theorem inJ0 : ∀ w ∈ wsJ00, w ∈ lw_tbl := by decide +kernel
theorem inJ10 : ∀ w ∈ wsJ100, w ∈ lw_tbl := by decide +kernel
theorem inJxa1e45 : ∀ w ∈ wsJxa1e450, w ∈ lw_tbl := by decide +kernel
theorem inJxc12de : ∀ w ∈ wsJxc12de0, w ∈ lw_tbl := by decide +kernel
theorem inlJx4a65c : ∀ w ∈ wsJx4a65c0, w ∈ wsL_law := fun _ h => List.mem_append_left _ (List.mem_append_left _ (List.mem_append_left _ (List.mem_append_left _ (List.mem_append_left _ (List.mem_append_right _ h)))))
theorem inJx4a65c : ∀ w ∈ wsJx4a65c0, w ∈ lw_tbl := fun w h => wsL_law_in w (inlJx4a65c w h)
theorem inJ7 : ∀ w ∈ wsJ70, w ∈ lw_tbl := by decide +kernel
theorem inJx5ef63 : ∀ w ∈ wsJx5ef630, w ∈ lw_tbl := by decide +kernel
theorem inJxbd725 : ∀ w ∈ wsJxbd7250, w ∈ lw_tbl := by decide +kernel
theorem inJ15 : ∀ w ∈ wsJ150, w ∈ lw_tbl := by decide +kernel
theorem inJxf0a74 : ∀ w ∈ wsJxf0a740, w ∈ lw_tbl := by decide +kernel
theorem inJxa66e6 : ∀ w ∈ wsJxa66e60, w ∈ lw_tbl := by decide +kernel
theorem inJ8 : ∀ w ∈ wsJ80, w ∈ lw_tbl := by decide +kernel
theorem inJ3 : ∀ w ∈ wsJ30, w ∈ lw_tbl := by decide +kernel

