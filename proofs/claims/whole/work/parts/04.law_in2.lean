set_option maxRecDepth 20000 in
theorem zc_in_wsL_law_r18 : ∀ w ∈ wsL_law_r18, w ∈ lw_tbl := fun w h => (goodIn_p wsL_law_r18 [672, 675, 679, 682, 686, 691] (by decide +kernel) (by decide +kernel) w h).1
set_option maxRecDepth 20000 in
theorem zc_in_wsL_law_r19 : ∀ w ∈ wsL_law_r19, w ∈ lw_tbl := fun w h => (goodIn_p wsL_law_r19 [696, 387, 701, 391, 707] (by decide +kernel) (by decide +kernel) w h).1
set_option maxRecDepth 20000 in
theorem zc_in_wsL_law_r20 : ∀ w ∈ wsL_law_r20, w ∈ lw_tbl := fun w h => (goodIn_p wsL_law_r20 [395, 399, 403, 713, 407] (by decide +kernel) (by decide +kernel) w h).1
set_option maxRecDepth 20000 in
theorem zc_in_wsL_law_r21 : ∀ w ∈ wsL_law_r21, w ∈ lw_tbl := fun w h => (goodIn_p wsL_law_r21 [719, 411, 415, 419, 427] (by decide +kernel) (by decide +kernel) w h).1
set_option maxRecDepth 20000 in
theorem zc_in_wsL_law_r22 : ∀ w ∈ wsL_law_r22, w ∈ lw_tbl := fun w h => (goodIn_p wsL_law_r22 [723, 730, 734, 738, 432] (by decide +kernel) (by decide +kernel) w h).1
set_option maxRecDepth 20000 in
theorem zc_in_wsL_law_r23 : ∀ w ∈ wsL_law_r23, w ∈ lw_tbl := fun w h => (goodIn_p wsL_law_r23 [437, 743, 442, 446] (by decide +kernel) (by decide +kernel) w h).1
set_option maxRecDepth 20000 in
theorem zc_in_wsL_law_r24 : ∀ w ∈ wsL_law_r24, w ∈ lw_tbl := fun w h => (goodIn_p wsL_law_r24 [751, 450, 755, 454, 458, 462] (by decide +kernel) (by decide +kernel) w h).1
set_option maxRecDepth 20000 in
theorem zc_in_wsL_law_r25 : ∀ w ∈ wsL_law_r25, w ∈ lw_tbl := fun w h => (goodIn_p wsL_law_r25 [759, 763, 470] (by decide +kernel) (by decide +kernel) w h).1
set_option maxRecDepth 20000 in
theorem zc_in_wsL_law_r26 : ∀ w ∈ wsL_law_r26, w ∈ lw_tbl := fun w h => (goodIn_p wsL_law_r26 [772, 475, 777, 479, 781, 484] (by decide +kernel) (by decide +kernel) w h).1
set_option maxRecDepth 20000 in
theorem zc_in_wsL_law_r27 : ∀ w ∈ wsL_law_r27, w ∈ lw_tbl := fun w h => (goodIn_p wsL_law_r27 [489, 785, 493, 499, 789] (by decide +kernel) (by decide +kernel) w h).1
set_option maxRecDepth 20000 in
theorem zc_in_wsL_law_r28 : ∀ w ∈ wsL_law_r28, w ∈ lw_tbl := fun w h => (goodIn_p wsL_law_r28 [503, 793, 507, 797, 511, 801] (by decide +kernel) (by decide +kernel) w h).1
set_option maxRecDepth 20000 in
theorem zc_in_wsL_law_r29 : ∀ w ∈ wsL_law_r29, w ∈ lw_tbl := fun w h => (goodIn_p wsL_law_r29 [515, 805, 519, 809] (by decide +kernel) (by decide +kernel) w h).1
set_option maxRecDepth 20000 in
theorem inX0 : ∀ w ∈ wsX00, w ∈ lw_tbl := fun w h => (goodIn_p wsX00 [] (by decide +kernel) (by decide +kernel) w h).1
set_option maxRecDepth 20000 in
theorem inX1 : ∀ w ∈ wsX10, w ∈ lw_tbl := fun w h => (goodIn_p wsX10 [] (by decide +kernel) (by decide +kernel) w h).1
set_option maxRecDepth 20000 in
theorem inX2 : ∀ w ∈ wsX20, w ∈ lw_tbl := fun w h => (goodIn_p wsX20 [] (by decide +kernel) (by decide +kernel) w h).1
set_option maxRecDepth 20000 in
theorem inX3 : ∀ w ∈ wsX30, w ∈ lw_tbl := fun w h => (goodIn_p wsX30 [] (by decide +kernel) (by decide +kernel) w h).1
set_option maxRecDepth 20000 in
theorem wsL_law_in : ∀ w ∈ wsL_law, w ∈ lw_tbl := fun w h => ((List.mem_append.mp h).elim (fun h => ((List.mem_append.mp h).elim (fun h => ((List.mem_append.mp h).elim (fun h => ((List.mem_append.mp h).elim (fun h => ((List.mem_append.mp h).elim (fun h => ((List.mem_append.mp h).elim (fun h => (zc_in_wsL_law_r1 w h)) (fun h => ((List.mem_append.mp h).elim (fun h => (zc_in_wsL_law_r2 w h)) (fun h => ((List.mem_append.mp h).elim (fun h => (zc_in_wsL_law_r3 w h)) (fun h => ((List.mem_append.mp h).elim (fun h => (zc_in_wsL_law_r4 w h)) (fun h => ((List.mem_append.mp h).elim (fun h => (zc_in_wsL_law_r5 w h)) (fun h => ((List.mem_append.mp h).elim (fun h => (zc_in_wsL_law_r6 w h)) (fun h => ((List.mem_append.mp h).elim (fun h => (zc_in_wsL_law_r7 w h)) (fun h => ((List.mem_append.mp h).elim (fun h => (zc_in_wsL_law_r8 w h)) (fun h => ((List.mem_append.mp h).elim (fun h => (zc_in_wsL_law_r9 w h)) (fun h => ((List.mem_append.mp h).elim (fun h => (zc_in_wsL_law_r10 w h)) (fun h => ((List.mem_append.mp h).elim (fun h => (zc_in_wsL_law_r11 w h)) (fun h => ((List.mem_append.mp h).elim (fun h => (zc_in_wsL_law_r12 w h)) (fun h => ((List.mem_append.mp h).elim (fun h => (zc_in_wsL_law_r13 w h)) (fun h => ((List.mem_append.mp h).elim (fun h => (zc_in_wsL_law_r14 w h)) (fun h => ((List.mem_append.mp h).elim (fun h => (zc_in_wsL_law_r15 w h)) (fun h => ((List.mem_append.mp h).elim (fun h => (zc_in_wsL_law_r16 w h)) (fun h => ((List.mem_append.mp h).elim (fun h => (zc_in_wsL_law_r17 w h)) (fun h => ((List.mem_append.mp h).elim (fun h => (zc_in_wsL_law_r18 w h)) (fun h => ((List.mem_append.mp h).elim (fun h => (zc_in_wsL_law_r19 w h)) (fun h => ((List.mem_append.mp h).elim (fun h => (zc_in_wsL_law_r20 w h)) (fun h => ((List.mem_append.mp h).elim (fun h => (zc_in_wsL_law_r21 w h)) (fun h => ((List.mem_append.mp h).elim (fun h => (zc_in_wsL_law_r22 w h)) (fun h => ((List.mem_append.mp h).elim (fun h => (zc_in_wsL_law_r23 w h)) (fun h => ((List.mem_append.mp h).elim (fun h => (zc_in_wsL_law_r24 w h)) (fun h => ((List.mem_append.mp h).elim (fun h => (zc_in_wsL_law_r25 w h)) (fun h => ((List.mem_append.mp h).elim (fun h => (zc_in_wsL_law_r26 w h)) (fun h => ((List.mem_append.mp h).elim (fun h => (zc_in_wsL_law_r27 w h)) (fun h => ((List.mem_append.mp h).elim (fun h => (zc_in_wsL_law_r28 w h)) (fun h => (zc_in_wsL_law_r29 w h)))))))))))))))))))))))))))))))))))))))))))))))))))))))))) (fun h => (inX2 w h)))) (fun h => (inX3 w h)))) (fun h => (inX1 w h)))) (fun h => (inX0 w h)))) (fun h => (absurd h List.not_mem_nil)))
