set_option maxRecDepth 20000 in
theorem zc_in_wsL_law_r18 : ∀ w ∈ wsL_law_r18, w ∈ lw_tbl := fun w h => (goodIn_p wsL_law_r18 [670, 673, 677, 680, 684, 689, 694] (by decide +kernel) (by decide +kernel) w h).1
set_option maxRecDepth 20000 in
theorem zc_in_wsL_law_r19 : ∀ w ∈ wsL_law_r19, w ∈ lw_tbl := fun w h => (goodIn_p wsL_law_r19 [385, 699, 389, 705] (by decide +kernel) (by decide +kernel) w h).1
set_option maxRecDepth 20000 in
theorem zc_in_wsL_law_r20 : ∀ w ∈ wsL_law_r20, w ∈ lw_tbl := fun w h => (goodIn_p wsL_law_r20 [393, 397, 401, 711, 405] (by decide +kernel) (by decide +kernel) w h).1
set_option maxRecDepth 20000 in
theorem zc_in_wsL_law_r21 : ∀ w ∈ wsL_law_r21, w ∈ lw_tbl := fun w h => (goodIn_p wsL_law_r21 [717, 409, 413, 417, 425] (by decide +kernel) (by decide +kernel) w h).1
set_option maxRecDepth 20000 in
theorem zc_in_wsL_law_r22 : ∀ w ∈ wsL_law_r22, w ∈ lw_tbl := fun w h => (goodIn_p wsL_law_r22 [721, 728, 732, 736, 430] (by decide +kernel) (by decide +kernel) w h).1
set_option maxRecDepth 20000 in
theorem zc_in_wsL_law_r23 : ∀ w ∈ wsL_law_r23, w ∈ lw_tbl := fun w h => (goodIn_p wsL_law_r23 [435, 741, 440, 444, 749] (by decide +kernel) (by decide +kernel) w h).1
set_option maxRecDepth 20000 in
theorem zc_in_wsL_law_r24 : ∀ w ∈ wsL_law_r24, w ∈ lw_tbl := fun w h => (goodIn_p wsL_law_r24 [448, 753, 452, 456, 460] (by decide +kernel) (by decide +kernel) w h).1
set_option maxRecDepth 20000 in
theorem zc_in_wsL_law_r25 : ∀ w ∈ wsL_law_r25, w ∈ lw_tbl := fun w h => (goodIn_p wsL_law_r25 [757, 761, 468, 770] (by decide +kernel) (by decide +kernel) w h).1
set_option maxRecDepth 20000 in
theorem zc_in_wsL_law_r26 : ∀ w ∈ wsL_law_r26, w ∈ lw_tbl := fun w h => (goodIn_p wsL_law_r26 [473, 775, 477, 779, 482] (by decide +kernel) (by decide +kernel) w h).1
set_option maxRecDepth 20000 in
theorem zc_in_wsL_law_r27 : ∀ w ∈ wsL_law_r27, w ∈ lw_tbl := fun w h => (goodIn_p wsL_law_r27 [487, 783, 491, 497, 787, 501] (by decide +kernel) (by decide +kernel) w h).1
set_option maxRecDepth 20000 in
theorem zc_in_wsL_law_r28 : ∀ w ∈ wsL_law_r28, w ∈ lw_tbl := fun w h => (goodIn_p wsL_law_r28 [791, 505, 795, 509, 799, 513] (by decide +kernel) (by decide +kernel) w h).1
set_option maxRecDepth 20000 in
theorem zc_in_wsL_law_r29 : ∀ w ∈ wsL_law_r29, w ∈ lw_tbl := fun w h => (goodIn_p wsL_law_r29 [803, 517, 807] (by decide +kernel) (by decide +kernel) w h).1
set_option maxRecDepth 20000 in
theorem inX0 : ∀ w ∈ wsX00, w ∈ lw_tbl := fun w h => (goodIn_p wsX00 [] (by decide +kernel) (by decide +kernel) w h).1
set_option maxRecDepth 20000 in
theorem inX1 : ∀ w ∈ wsX10, w ∈ lw_tbl := fun w h => (goodIn_p wsX10 [] (by decide +kernel) (by decide +kernel) w h).1
set_option maxRecDepth 20000 in
theorem inX2 : ∀ w ∈ wsX20, w ∈ lw_tbl := fun w h => (goodIn_p wsX20 [] (by decide +kernel) (by decide +kernel) w h).1
set_option maxRecDepth 20000 in
theorem inX3 : ∀ w ∈ wsX30, w ∈ lw_tbl := fun w h => (goodIn_p wsX30 [] (by decide +kernel) (by decide +kernel) w h).1
set_option maxRecDepth 20000 in
theorem wsL_law_in : ∀ w ∈ wsL_law, w ∈ lw_tbl := fun w h => ((List.mem_append.mp h).elim (fun h => ((List.mem_append.mp h).elim (fun h => ((List.mem_append.mp h).elim (fun h => ((List.mem_append.mp h).elim (fun h => ((List.mem_append.mp h).elim (fun h => ((List.mem_append.mp h).elim (fun h => (zc_in_wsL_law_r1 w h)) (fun h => ((List.mem_append.mp h).elim (fun h => (zc_in_wsL_law_r2 w h)) (fun h => ((List.mem_append.mp h).elim (fun h => (zc_in_wsL_law_r3 w h)) (fun h => ((List.mem_append.mp h).elim (fun h => (zc_in_wsL_law_r4 w h)) (fun h => ((List.mem_append.mp h).elim (fun h => (zc_in_wsL_law_r5 w h)) (fun h => ((List.mem_append.mp h).elim (fun h => (zc_in_wsL_law_r6 w h)) (fun h => ((List.mem_append.mp h).elim (fun h => (zc_in_wsL_law_r7 w h)) (fun h => ((List.mem_append.mp h).elim (fun h => (zc_in_wsL_law_r8 w h)) (fun h => ((List.mem_append.mp h).elim (fun h => (zc_in_wsL_law_r9 w h)) (fun h => ((List.mem_append.mp h).elim (fun h => (zc_in_wsL_law_r10 w h)) (fun h => ((List.mem_append.mp h).elim (fun h => (zc_in_wsL_law_r11 w h)) (fun h => ((List.mem_append.mp h).elim (fun h => (zc_in_wsL_law_r12 w h)) (fun h => ((List.mem_append.mp h).elim (fun h => (zc_in_wsL_law_r13 w h)) (fun h => ((List.mem_append.mp h).elim (fun h => (zc_in_wsL_law_r14 w h)) (fun h => ((List.mem_append.mp h).elim (fun h => (zc_in_wsL_law_r15 w h)) (fun h => ((List.mem_append.mp h).elim (fun h => (zc_in_wsL_law_r16 w h)) (fun h => ((List.mem_append.mp h).elim (fun h => (zc_in_wsL_law_r17 w h)) (fun h => ((List.mem_append.mp h).elim (fun h => (zc_in_wsL_law_r18 w h)) (fun h => ((List.mem_append.mp h).elim (fun h => (zc_in_wsL_law_r19 w h)) (fun h => ((List.mem_append.mp h).elim (fun h => (zc_in_wsL_law_r20 w h)) (fun h => ((List.mem_append.mp h).elim (fun h => (zc_in_wsL_law_r21 w h)) (fun h => ((List.mem_append.mp h).elim (fun h => (zc_in_wsL_law_r22 w h)) (fun h => ((List.mem_append.mp h).elim (fun h => (zc_in_wsL_law_r23 w h)) (fun h => ((List.mem_append.mp h).elim (fun h => (zc_in_wsL_law_r24 w h)) (fun h => ((List.mem_append.mp h).elim (fun h => (zc_in_wsL_law_r25 w h)) (fun h => ((List.mem_append.mp h).elim (fun h => (zc_in_wsL_law_r26 w h)) (fun h => ((List.mem_append.mp h).elim (fun h => (zc_in_wsL_law_r27 w h)) (fun h => ((List.mem_append.mp h).elim (fun h => (zc_in_wsL_law_r28 w h)) (fun h => (zc_in_wsL_law_r29 w h)))))))))))))))))))))))))))))))))))))))))))))))))))))))))) (fun h => (inX2 w h)))) (fun h => (inX3 w h)))) (fun h => (inX1 w h)))) (fun h => (inX0 w h)))) (fun h => (absurd h List.not_mem_nil)))
