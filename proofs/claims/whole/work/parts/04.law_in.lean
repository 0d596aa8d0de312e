set_option maxRecDepth 20000 in
theorem zc_in_wsL_law_r1 : ∀ w ∈ wsL_law_r1, w ∈ lw_tbl := fun w h => (goodIn_p wsL_law_r1 [40, 43] (by decide +kernel) (by decide +kernel) w h).1
set_option maxRecDepth 20000 in
theorem zc_in_wsL_law_r2 : ∀ w ∈ wsL_law_r2, w ∈ lw_tbl := fun w h => (goodIn_p wsL_law_r2 [48] (by decide +kernel) (by decide +kernel) w h).1
set_option maxRecDepth 20000 in
theorem zc_in_wsL_law_r3 : ∀ w ∈ wsL_law_r3, w ∈ lw_tbl := fun w h => (goodIn_p wsL_law_r3 [54, 524] (by decide +kernel) (by decide +kernel) w h).1
set_option maxRecDepth 20000 in
theorem zc_in_wsL_law_r4 : ∀ w ∈ wsL_law_r4, w ∈ lw_tbl := fun w h => (goodIn_p wsL_law_r4 [185, 188] (by decide +kernel) (by decide +kernel) w h).1
set_option maxRecDepth 20000 in
theorem zc_in_wsL_law_r5 : ∀ w ∈ wsL_law_r5, w ∈ lw_tbl := fun w h => (goodIn_p wsL_law_r5 [192, 195, 199, 206, 203, 211] (by decide +kernel) (by decide +kernel) w h).1
set_option maxRecDepth 20000 in
theorem zc_in_wsL_law_r6 : ∀ w ∈ wsL_law_r6, w ∈ lw_tbl := fun w h => (goodIn_p wsL_law_r6 [215, 220, 224, 560, 564] (by decide +kernel) (by decide +kernel) w h).1
set_option maxRecDepth 20000 in
theorem zc_in_wsL_law_r7 : ∀ w ∈ wsL_law_r7, w ∈ lw_tbl := fun w h => (goodIn_p wsL_law_r7 [569, 574, 579, 582, 586, 590] (by decide +kernel) (by decide +kernel) w h).1
set_option maxRecDepth 20000 in
theorem zc_in_wsL_law_r8 : ∀ w ∈ wsL_law_r8, w ∈ lw_tbl := fun w h => (goodIn_p wsL_law_r8 [594, 599, 603, 230] (by decide +kernel) (by decide +kernel) w h).1
set_option maxRecDepth 20000 in
theorem zc_in_wsL_law_r9 : ∀ w ∈ wsL_law_r9, w ∈ lw_tbl := fun w h => (goodIn_p wsL_law_r9 [609, 236, 239, 243, 247, 613] (by decide +kernel) (by decide +kernel) w h).1
set_option maxRecDepth 20000 in
theorem zc_in_wsL_law_r10 : ∀ w ∈ wsL_law_r10, w ∈ lw_tbl := fun w h => (goodIn_p wsL_law_r10 [253, 256, 261, 265, 617] (by decide +kernel) (by decide +kernel) w h).1
set_option maxRecDepth 20000 in
theorem zc_in_wsL_law_r11 : ∀ w ∈ wsL_law_r11, w ∈ lw_tbl := fun w h => (goodIn_p wsL_law_r11 [621, 272, 276, 280] (by decide +kernel) (by decide +kernel) w h).1
set_option maxRecDepth 20000 in
theorem zc_in_wsL_law_r12 : ∀ w ∈ wsL_law_r12, w ∈ lw_tbl := fun w h => (goodIn_p wsL_law_r12 [287, 629, 633, 638, 642] (by decide +kernel) (by decide +kernel) w h).1
set_option maxRecDepth 20000 in
theorem zc_in_wsL_law_r13 : ∀ w ∈ wsL_law_r13, w ∈ lw_tbl := fun w h => (goodIn_p wsL_law_r13 [646, 295, 298, 302, 320, 306] (by decide +kernel) (by decide +kernel) w h).1
set_option maxRecDepth 20000 in
theorem zc_in_wsL_law_r14 : ∀ w ∈ wsL_law_r14, w ∈ lw_tbl := fun w h => (goodIn_p wsL_law_r14 [313, 317, 324, 351] (by decide +kernel) (by decide +kernel) w h).1
set_option maxRecDepth 20000 in
theorem zc_in_wsL_law_r15 : ∀ w ∈ wsL_law_r15, w ∈ lw_tbl := fun w h => (goodIn_p wsL_law_r15 [329, 334, 338, 341, 345, 348, 354] (by decide +kernel) (by decide +kernel) w h).1
set_option maxRecDepth 20000 in
theorem zc_in_wsL_law_r16 : ∀ w ∈ wsL_law_r16, w ∈ lw_tbl := fun w h => (goodIn_p wsL_law_r16 [357, 361, 367, 371, 375] (by decide +kernel) (by decide +kernel) w h).1
set_option maxRecDepth 20000 in
theorem zc_in_wsL_law_r17 : ∀ w ∈ wsL_law_r17, w ∈ lw_tbl := fun w h => (goodIn_p wsL_law_r17 [379, 653, 657, 660, 664, 668] (by decide +kernel) (by decide +kernel) w h).1
