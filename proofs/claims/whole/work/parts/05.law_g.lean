set_option maxRecDepth 20000 in
theorem ggL_law_X2_init : GoodIn wsL_law wsX2_init := goodIn_r _ [8, 9, 10, 11, 12, 13, 14, 15, 16, 17, 18, 19, 20, 21, 22, 23, 24, 25, 26, 27, 28, 29, 30, 31, 32, 33, 34, 35, 36, 37, 38, 39, 40, 41, 42, 43, 44, 45, 46, 47, 48, 49, 50, 51, 52, 53, 54, 55, 56, 57, 58, 702, 703, 704, 705, 706, 707, 708, 709, 710, 711, 712, 713, 714, 715, 716, 717, 718, 719, 684, 685, 686, 687, 688, 689, 690, 691, 692, 693, 720, 721, 722, 723, 724] (by decide +kernel) (by decide +kernel)
set_option maxRecDepth 20000 in
theorem gL_law_X2_init : GoodIn wsL_law (wsX2_init) := ggL_law_X2_init
set_option maxRecDepth 20000 in
theorem ggL_law_X3_init : GoodIn wsL_law wsX3_init := goodIn_r _ [61, 62, 10, 11, 63, 64, 65, 66, 23, 67, 21, 68, 69, 70, 71, 72, 73, 694, 695, 696, 697, 698, 699, 700, 701] (by decide +kernel) (by decide +kernel)
set_option maxRecDepth 20000 in
theorem gL_law_X3_init : GoodIn wsL_law (wsX3_init) := ggL_law_X3_init
set_option maxRecDepth 20000 in
theorem ggL_law_X2_told : GoodIn wsL_law wsX2_told := goodIn_r _ [77, 15, 78, 79, 80, 81, 82, 83, 84, 85, 86, 87, 88, 26, 19, 89, 90, 91, 2, 92, 93, 94, 95, 14, 96, 34, 36, 35, 97, 98, 99, 100, 101, 102, 103, 30, 104, 105, 106, 107, 108, 39, 109, 110, 111, 112, 31, 32, 113, 114, 115, 49, 116, 54, 58, 117, 118, 119, 120, 41, 38, 121, 122, 123, 124, 125, 25, 126, 127, 128, 129, 130, 684, 685, 686, 687, 688, 689, 690, 691, 692, 693, 702, 703, 704, 705, 706, 707, 708, 709, 710, 711, 712, 713, 714, 715, 716, 717, 718, 719, 720, 721, 722, 723, 724] (by decide +kernel) (by decide +kernel)
set_option maxRecDepth 20000 in
theorem gL_law_X2_told : GoodIn wsL_law (wsV RL 13 RX2 yX2_told wsX2_told) := goodIn_app (goodIn_of _ (by decide +kernel)) ggL_law_X2_told
set_option maxRecDepth 20000 in
theorem ggL_law_X3_told : GoodIn wsL_law wsX3_told := goodIn_r _ [134, 64, 135, 136, 137, 138, 139, 140, 5, 141, 71, 142, 143, 144, 145, 146, 147, 148, 149, 150, 151, 152, 153, 154, 155, 156, 157, 158, 159, 160, 161, 162, 163, 164, 165, 166, 167, 168, 169, 170, 171, 172, 173, 174, 175, 176, 68, 177, 178, 179, 180, 181, 694, 695, 696, 697, 698, 699, 700, 701] (by decide +kernel) (by decide +kernel)
set_option maxRecDepth 20000 in
theorem gL_law_X3_told : GoodIn wsL_law (wsV RL 17 RX3 yX3_told wsX3_told) := goodIn_app (goodIn_of _ (by decide +kernel)) ggL_law_X3_told
set_option maxRecDepth 20000 in
theorem ggL_law_X2_time : GoodIn wsL_law wsX2_time := goodIn_r _ [185, 15, 186, 187, 188, 189, 110, 111, 14, 112, 31, 32, 684, 685, 686, 687, 688, 689, 690, 691, 692, 693, 702, 703, 704, 705, 706, 707, 708, 709, 710, 711, 712, 713, 714, 715, 716, 717, 718, 719] (by decide +kernel) (by decide +kernel)
set_option maxRecDepth 20000 in
theorem gL_law_X2_time : GoodIn wsL_law (wsV RL 18 RX2 yX2_time wsX2_time) := goodIn_app (goodIn_of _ (by decide +kernel)) ggL_law_X2_time
set_option maxRecDepth 20000 in
theorem ggL_law_X3_time : GoodIn wsL_law wsX3_time := goodIn_r _ [193, 64, 73, 153, 154, 155, 5, 156, 694, 695, 696, 697, 698, 699, 700, 701] (by decide +kernel) (by decide +kernel)
set_option maxRecDepth 20000 in
theorem gL_law_X3_time : GoodIn wsL_law (wsV RL 22 RX3 yX3_time wsX3_time) := goodIn_app (goodIn_of _ (by decide +kernel)) ggL_law_X3_time
set_option maxRecDepth 20000 in
theorem ggL_law_X2_calendar : GoodIn wsL_law wsX2_calendar := goodIn_r _ [197, 15, 89, 126, 127, 128, 14, 129, 31, 130, 198, 199, 2, 200, 201, 202, 203, 204, 205, 206, 207, 208, 209, 210, 684, 685, 686, 687, 688, 689, 690, 691, 692, 693, 702, 703, 704, 705, 706, 707, 708, 709, 710, 711, 712, 713, 714, 715, 716, 717, 718, 719] (by decide +kernel) (by decide +kernel)
set_option maxRecDepth 20000 in
theorem gL_law_X2_calendar : GoodIn wsL_law (wsV RL 23 RX2 yX2_calendar wsX2_calendar) := goodIn_app (goodIn_of _ (by decide +kernel)) ggL_law_X2_calendar
set_option maxRecDepth 20000 in
theorem ggL_law_X3_calendar : GoodIn wsL_law wsX3_calendar := goodIn_r _ [214, 137, 177, 178, 179, 5, 180, 64, 181, 694, 695, 696, 697, 698, 699, 700, 701] (by decide +kernel) (by decide +kernel)
set_option maxRecDepth 20000 in
theorem gL_law_X3_calendar : GoodIn wsL_law (wsV RL 26 RX3 yX3_calendar wsX3_calendar) := goodIn_app (goodIn_of _ (by decide +kernel)) ggL_law_X3_calendar
set_option maxRecDepth 20000 in
theorem ggL_law_X2_span : GoodIn wsL_law wsX2_span := goodIn_r _ [218, 219, 15, 220, 221, 89, 222, 223, 2, 224, 225, 226, 227, 14, 228, 229, 230, 231, 232, 46, 233, 94, 95, 96, 34, 36, 35, 684, 685, 686, 687, 688, 689, 690, 691, 692, 693, 702, 703, 704, 705, 706, 707, 708, 709, 710, 711, 712, 713, 714, 715, 716, 717, 718, 719] (by decide +kernel) (by decide +kernel)
set_option maxRecDepth 20000 in
theorem gL_law_X2_span : GoodIn wsL_law (wsV RL 27 RX2 yX2_span wsX2_span) := goodIn_app (goodIn_of _ (by decide +kernel)) ggL_law_X2_span
set_option maxRecDepth 20000 in
theorem ggL_law_X3_span : GoodIn wsL_law wsX3_span := goodIn_r _ [237, 238, 239, 137, 64, 240, 152, 142, 241, 242, 243, 244, 5, 245, 143, 144, 145, 146, 147, 694, 695, 696, 697, 698, 699, 700, 701] (by decide +kernel) (by decide +kernel)
set_option maxRecDepth 20000 in
theorem gL_law_X3_span : GoodIn wsL_law (wsV RL 31 RX3 yX3_span wsX3_span) := goodIn_app (goodIn_of _ (by decide +kernel)) ggL_law_X3_span
set_option maxRecDepth 20000 in
theorem ggL_law_X2_alarmAt : GoodIn wsL_law wsX2_alarmAt := goodIn_r _ [249, 15, 87, 219, 250, 251, 252, 253, 89, 254, 255, 256, 49, 257, 54, 126, 127, 128, 14, 129, 31, 130, 258, 259, 260, 261, 262, 263, 264, 265, 266, 267, 268, 57, 269, 207, 2, 208, 209, 210, 270, 271, 272, 273, 56, 203, 204, 201, 205, 274, 275, 276, 277, 55, 199, 200, 684, 685, 686, 687, 688, 689, 690, 691, 692, 693, 702, 703, 704, 705, 706, 707, 708, 709, 710, 711, 712, 713, 714, 715, 716, 717, 718, 719, 720, 721, 722, 723, 724] (by decide +kernel) (by decide +kernel)
set_option maxRecDepth 20000 in
theorem gL_law_X2_alarmAt : GoodIn wsL_law (wsV RL 32 RX2 yX2_alarmAt wsX2_alarmAt) := goodIn_app (goodIn_of _ (by decide +kernel)) ggL_law_X2_alarmAt
set_option maxRecDepth 20000 in
theorem ggL_law_X3_alarmAt : GoodIn wsL_law wsX3_alarmAt := goodIn_r _ [281, 239, 282, 137, 64, 283, 284, 285, 5, 286, 243, 244, 245, 287, 288, 289, 290, 177, 178, 179, 180, 181, 291, 292, 293, 294, 295, 296, 297, 298, 299, 300, 301, 73, 694, 695, 696, 697, 698, 699, 700, 701] (by decide +kernel) (by decide +kernel)
set_option maxRecDepth 20000 in
theorem gL_law_X3_alarmAt : GoodIn wsL_law (wsV RL 35 RX3 yX3_alarmAt wsX3_alarmAt) := goodIn_app (goodIn_of _ (by decide +kernel)) ggL_law_X3_alarmAt
set_option maxRecDepth 20000 in
theorem ggL_law_X2_tick : GoodIn wsL_law wsX2_tick := goodIn_r _ [305, 89, 15, 306, 307, 2, 308, 309, 310, 311, 312, 17, 18, 19, 313, 314, 106, 315, 316, 317, 318, 14, 319, 30, 31, 32, 33, 34, 35, 36, 37, 38, 39, 40, 41, 42, 43, 44, 45, 46, 320, 321, 322, 323, 50, 324, 325, 326, 49, 327, 54, 55, 328, 56, 57, 58, 329, 330, 331, 332, 333, 334, 335, 336, 130, 108, 337, 338, 339, 340, 341, 127, 128, 129, 342, 343, 344, 345, 91, 92, 346, 347, 348, 349, 233, 94, 95, 96, 350, 351, 352, 353, 229, 230, 231, 232, 223, 224, 354, 355, 356, 357, 358, 359, 360, 361, 362, 363, 364, 365, 366, 367, 368, 369, 370, 371, 372, 373, 374, 375, 376, 377, 378, 379, 380, 381, 382, 383, 265, 266, 267, 268, 269, 255, 256, 257, 207, 208, 209, 210, 270, 271, 272, 273, 203, 204, 201, 205, 274, 275, 276, 277, 199, 200, 684, 685, 686, 687, 688, 689, 690, 691, 692, 693, 702, 703, 704, 705, 706, 707, 708, 709, 710, 711, 712, 713, 714, 715, 716, 717, 718, 719, 720, 721, 722, 723, 724] (by decide +kernel) (by decide +kernel)
set_option maxRecDepth 20000 in
theorem gL_law_X2_tick : GoodIn wsL_law (wsV RL 36 RX2 yX2_tick wsX2_tick) := goodIn_app (goodIn_of _ (by decide +kernel)) ggL_law_X2_tick
set_option maxRecDepth 20000 in
theorem ggL_law_X3_tick : GoodIn wsL_law wsX3_tick := goodIn_r _ [387, 172, 137, 243, 244, 5, 245, 388, 389, 390, 391, 136, 65, 64, 392, 393, 394, 395, 396, 397, 398, 399, 181, 400, 401, 402, 403, 404, 405, 143, 144, 145, 146, 147, 406, 407, 408, 409, 152, 138, 139, 140, 141, 71, 142, 410, 411, 412, 413, 414, 415, 416, 157, 158, 159, 417, 418, 419, 420, 421, 422, 423, 177, 178, 179, 180, 291, 292, 293, 294, 295, 296, 297, 298, 299, 300, 301, 73, 164, 165, 166, 167, 424, 425, 426, 427, 428, 429, 430, 431, 282, 694, 695, 696, 697, 698, 699, 700, 701] (by decide +kernel) (by decide +kernel)
set_option maxRecDepth 20000 in
theorem gL_law_X3_tick : GoodIn wsL_law (wsV RL 39 RX3 yX3_tick wsX3_tick) := goodIn_app (goodIn_of _ (by decide +kernel)) ggL_law_X3_tick
set_option maxRecDepth 20000 in
theorem ggL_law_X2_warm : GoodIn wsL_law wsX2_warm := goodIn_r _ [435, 89, 15, 78, 306, 307, 2, 308, 309, 310, 311, 312, 17, 18, 19, 313, 314, 106, 315, 316, 317, 318, 14, 319, 30, 31, 32, 33, 34, 35, 36, 37, 38, 39, 40, 41, 42, 43, 44, 45, 46, 320, 321, 322, 323, 50, 324, 325, 326, 49, 327, 54, 55, 328, 56, 57, 58, 329, 330, 331, 332, 684, 685, 686, 687, 688, 689, 690, 691, 692, 693, 702, 703, 704, 705, 706, 707, 708, 709, 710, 711, 712, 713, 714, 715, 716, 717, 718, 719, 720, 721, 722, 723, 724] (by decide +kernel) (by decide +kernel)
set_option maxRecDepth 20000 in
theorem gL_law_X2_warm : GoodIn wsL_law (wsV RL 40 RX2 yX2_warm wsX2_warm) := goodIn_app (goodIn_of _ (by decide +kernel)) ggL_law_X2_warm
set_option maxRecDepth 20000 in
theorem ggL_law_X3_warm : GoodIn wsL_law wsX3_warm := goodIn_r _ [439, 440, 441, 137, 64, 243, 244, 5, 245, 388, 389, 390, 391, 136, 65, 392, 393, 394, 694, 695, 696, 697, 698, 699, 700, 701] (by decide +kernel) (by decide +kernel)
set_option maxRecDepth 20000 in
theorem gL_law_X3_warm : GoodIn wsL_law (wsV RL 43 RX3 yX3_warm wsX3_warm) := goodIn_app (goodIn_of _ (by decide +kernel)) ggL_law_X3_warm
set_option maxRecDepth 20000 in
theorem ggL_law_X2_crystal : GoodIn wsL_law wsX2_crystal := goodIn_r _ [445, 89, 15, 446, 447, 448, 78, 306, 307, 2, 308, 309, 310, 311, 312, 17, 18, 19, 313, 314, 106, 315, 316, 317, 318, 14, 319, 30, 31, 32, 33, 34, 35, 36, 37, 38, 39, 40, 41, 42, 43, 44, 45, 46, 320, 321, 322, 323, 50, 324, 325, 326, 49, 327, 54, 55, 328, 56, 57, 58, 329, 330, 331, 332, 93, 94, 95, 96, 684, 685, 686, 687, 688, 689, 690, 691, 692, 693, 702, 703, 704, 705, 706, 707, 708, 709, 710, 711, 712, 713, 714, 715, 716, 717, 718, 719, 720, 721, 722, 723, 724] (by decide +kernel) (by decide +kernel)
set_option maxRecDepth 20000 in
theorem gL_law_X2_crystal : GoodIn wsL_law (wsV RL 44 RX2 yX2_crystal wsX2_crystal) := goodIn_app (goodIn_of _ (by decide +kernel)) ggL_law_X2_crystal
set_option maxRecDepth 20000 in
theorem ggL_law_X3_crystal : GoodIn wsL_law wsX3_crystal := goodIn_r _ [452, 453, 71, 454, 401, 137, 64, 243, 244, 5, 245, 388, 389, 390, 391, 136, 65, 392, 393, 394, 143, 144, 145, 146, 147, 694, 695, 696, 697, 698, 699, 700, 701] (by decide +kernel) (by decide +kernel)
set_option maxRecDepth 20000 in
theorem gL_law_X3_crystal : GoodIn wsL_law (wsV RL 48 RX3 yX3_crystal wsX3_crystal) := goodIn_app (goodIn_of _ (by decide +kernel)) ggL_law_X3_crystal
set_option maxRecDepth 20000 in
theorem ggL_law_X2_bound : GoodIn wsL_law wsX2_bound := goodIn_r _ [458, 89, 459, 460, 461, 2, 462, 15, 82, 306, 307, 308, 309, 310, 311, 312, 17, 18, 19, 313, 314, 106, 315, 316, 317, 318, 14, 319, 30, 31, 32, 33, 34, 35, 36, 37, 38, 39, 40, 41, 42, 43, 44, 45, 46, 320, 321, 322, 323, 50, 324, 325, 326, 49, 327, 54, 55, 328, 56, 57, 58, 329, 330, 331, 332, 463, 464, 465, 466, 83, 684, 685, 686, 687, 688, 689, 690, 691, 692, 693, 702, 703, 704, 705, 706, 707, 708, 709, 710, 711, 712, 713, 714, 715, 716, 717, 718, 719, 720, 721, 722, 723, 724] (by decide +kernel) (by decide +kernel)
set_option maxRecDepth 20000 in
theorem gL_law_X2_bound : GoodIn wsL_law (wsV RL 49 RX2 yX2_bound wsX2_bound) := goodIn_app (goodIn_of _ (by decide +kernel)) ggL_law_X2_bound
set_option maxRecDepth 20000 in
theorem ggL_law_X3_bound : GoodIn wsL_law wsX3_bound := goodIn_r _ [470, 471, 472, 137, 64, 243, 244, 5, 245, 388, 389, 390, 391, 136, 65, 392, 393, 394, 694, 695, 696, 697, 698, 699, 700, 701] (by decide +kernel) (by decide +kernel)
set_option maxRecDepth 20000 in
theorem gL_law_X3_bound : GoodIn wsL_law (wsV RL 52 RX3 yX3_bound wsX3_bound) := goodIn_app (goodIn_of _ (by decide +kernel)) ggL_law_X3_bound
set_option maxRecDepth 20000 in
theorem ggL_law_X2_power : GoodIn wsL_law wsX2_power := goodIn_r _ [476, 15, 84, 309, 310, 311, 2, 312, 17, 18, 19, 313, 314, 106, 315, 316, 317, 318, 14, 319, 30, 31, 32, 33, 34, 35, 36, 37, 38, 39, 40, 41, 42, 43, 44, 45, 46, 320, 321, 322, 323, 50, 324, 325, 326, 49, 327, 54, 55, 328, 56, 57, 58, 329, 330, 331, 332, 97, 98, 99, 684, 685, 686, 687, 688, 689, 690, 691, 692, 693, 702, 703, 704, 705, 706, 707, 708, 709, 710, 711, 712, 713, 714, 715, 716, 717, 718, 719, 720, 721, 722, 723, 724] (by decide +kernel) (by decide +kernel)
set_option maxRecDepth 20000 in
theorem gL_law_X2_power : GoodIn wsL_law (wsV RL 53 RX2 yX2_power wsX2_power) := goodIn_app (goodIn_of _ (by decide +kernel)) ggL_law_X2_power
set_option maxRecDepth 20000 in
theorem ggL_law_X3_power : GoodIn wsL_law wsX3_power := goodIn_r _ [480, 64, 388, 389, 390, 5, 391, 136, 65, 392, 393, 394, 694, 695, 696, 697, 698, 699, 700, 701] (by decide +kernel) (by decide +kernel)
set_option maxRecDepth 20000 in
theorem gL_law_X3_power : GoodIn wsL_law (wsV RL 57 RX3 yX3_power wsX3_power) := goodIn_app (goodIn_of _ (by decide +kernel)) ggL_law_X3_power
set_option maxRecDepth 20000 in
theorem ggL_law_X2_hear : GoodIn wsL_law wsX2_hear := goodIn_r _ [484, 89, 15, 306, 307, 2, 308, 309, 310, 311, 312, 17, 18, 19, 313, 314, 106, 315, 316, 317, 318, 14, 319, 30, 31, 32, 33, 34, 35, 36, 37, 38, 39, 40, 41, 42, 43, 44, 45, 46, 320, 321, 322, 323, 50, 324, 325, 326, 49, 327, 54, 55, 328, 56, 57, 58, 329, 330, 331, 332, 485, 486, 487, 488, 108, 489, 365, 366, 338, 339, 340, 490, 491, 492, 493, 494, 495, 496, 223, 224, 109, 110, 111, 112, 361, 362, 363, 364, 497, 498, 499, 500, 501, 354, 355, 356, 97, 98, 99, 684, 685, 686, 687, 688, 689, 690, 691, 692, 693, 702, 703, 704, 705, 706, 707, 708, 709, 710, 711, 712, 713, 714, 715, 716, 717, 718, 719, 720, 721, 722, 723, 724] (by decide +kernel) (by decide +kernel)
set_option maxRecDepth 20000 in
theorem gL_law_X2_hear : GoodIn wsL_law (wsV RL 58 RX2 yX2_hear wsX2_hear) := goodIn_app (goodIn_of _ (by decide +kernel)) ggL_law_X2_hear
set_option maxRecDepth 20000 in
theorem ggL_law_X3_hear : GoodIn wsL_law wsX3_hear := goodIn_r _ [505, 506, 507, 508, 137, 243, 244, 5, 245, 388, 389, 390, 391, 136, 65, 64, 392, 393, 394, 509, 510, 511, 512, 152, 513, 73, 514, 515, 516, 517, 401, 518, 153, 154, 155, 156, 417, 418, 419, 519, 520, 521, 410, 411, 412, 157, 158, 159, 694, 695, 696, 697, 698, 699, 700, 701] (by decide +kernel) (by decide +kernel)
set_option maxRecDepth 20000 in
theorem gL_law_X3_hear : GoodIn wsL_law (wsV RL 61 RX3 yX3_hear wsX3_hear) := goodIn_app (goodIn_of _ (by decide +kernel)) ggL_law_X3_hear
set_option maxRecDepth 20000 in
theorem ggL_law_X2_alarm : GoodIn wsL_law wsX2_alarm := goodIn_r _ [525, 89, 15, 87, 88, 526, 306, 307, 2, 308, 309, 310, 311, 312, 17, 18, 19, 313, 314, 106, 315, 316, 317, 318, 14, 319, 30, 31, 32, 33, 34, 35, 36, 37, 38, 39, 40, 41, 42, 43, 44, 45, 46, 320, 321, 322, 323, 50, 324, 325, 326, 49, 327, 54, 55, 328, 56, 57, 58, 329, 330, 331, 332, 527, 528, 529, 530, 531, 684, 685, 686, 687, 688, 689, 690, 691, 692, 693, 702, 703, 704, 705, 706, 707, 708, 709, 710, 711, 712, 713, 714, 715, 716, 717, 718, 719, 720, 721, 722, 723, 724] (by decide +kernel) (by decide +kernel)
set_option maxRecDepth 20000 in
theorem gL_law_X2_alarm : GoodIn wsL_law (wsV RL 62 RX2 yX2_alarm wsX2_alarm) := goodIn_app (goodIn_of _ (by decide +kernel)) ggL_law_X2_alarm
set_option maxRecDepth 20000 in
theorem ggL_law_X3_alarm : GoodIn wsL_law wsX3_alarm := goodIn_r _ [535, 73, 536, 537, 538, 137, 64, 539, 243, 244, 5, 245, 388, 389, 390, 391, 136, 65, 392, 393, 394, 694, 695, 696, 697, 698, 699, 700, 701] (by decide +kernel) (by decide +kernel)
set_option maxRecDepth 20000 in
theorem gL_law_X3_alarm : GoodIn wsL_law (wsV RL 65 RX3 yX3_alarm wsX3_alarm) := goodIn_app (goodIn_of _ (by decide +kernel)) ggL_law_X3_alarm
set_option maxRecDepth 20000 in
theorem ggL_law_X2_drop : GoodIn wsL_law wsX2_drop := goodIn_r _ [543, 15, 87, 219, 88, 254, 255, 256, 49, 257, 54, 309, 310, 311, 2, 312, 17, 18, 19, 313, 314, 106, 315, 316, 317, 318, 14, 319, 30, 31, 32, 33, 34, 35, 36, 37, 38, 39, 40, 41, 42, 43, 44, 45, 46, 320, 321, 322, 323, 50, 324, 325, 326, 327, 55, 328, 56, 57, 58, 329, 330, 331, 332, 544, 545, 546, 547, 269, 684, 685, 686, 687, 688, 689, 690, 691, 692, 693, 702, 703, 704, 705, 706, 707, 708, 709, 710, 711, 712, 713, 714, 715, 716, 717, 718, 719, 720, 721, 722, 723, 724] (by decide +kernel) (by decide +kernel)
set_option maxRecDepth 20000 in
theorem gL_law_X2_drop : GoodIn wsL_law (wsV RL 66 RX2 yX2_drop wsX2_drop) := goodIn_app (goodIn_of _ (by decide +kernel)) ggL_law_X2_drop
set_option maxRecDepth 20000 in
theorem ggL_law_X3_drop : GoodIn wsL_law wsX3_drop := goodIn_r _ [551, 239, 64, 283, 284, 285, 5, 286, 243, 244, 245, 388, 389, 390, 391, 136, 65, 392, 393, 394, 694, 695, 696, 697, 698, 699, 700, 701] (by decide +kernel) (by decide +kernel)
set_option maxRecDepth 20000 in
theorem gL_law_X3_drop : GoodIn wsL_law (wsV RL 69 RX3 yX3_drop wsX3_drop) := goodIn_app (goodIn_of _ (by decide +kernel)) ggL_law_X3_drop
set_option maxRecDepth 20000 in
theorem ggL_law_X2_learn : GoodIn wsL_law wsX2_learn := goodIn_r _ [555, 219, 89, 15, 220, 222, 223, 2, 224, 306, 307, 308, 309, 310, 311, 312, 17, 18, 19, 313, 314, 106, 315, 316, 317, 318, 14, 319, 30, 31, 32, 33, 34, 35, 36, 37, 38, 39, 40, 41, 42, 43, 44, 45, 46, 320, 321, 322, 323, 50, 324, 325, 326, 49, 327, 54, 55, 328, 56, 57, 58, 329, 330, 331, 332, 684, 685, 686, 687, 688, 689, 690, 691, 692, 693, 702, 703, 704, 705, 706, 707, 708, 709, 710, 711, 712, 713, 714, 715, 716, 717, 718, 719, 720, 721, 722, 723, 724] (by decide +kernel) (by decide +kernel)
set_option maxRecDepth 20000 in
theorem gL_law_X2_learn : GoodIn wsL_law (wsV RL 70 RX2 yX2_learn wsX2_learn) := goodIn_app (goodIn_of _ (by decide +kernel)) ggL_law_X2_learn
set_option maxRecDepth 20000 in
theorem ggL_law_X3_learn : GoodIn wsL_law wsX3_learn := goodIn_r _ [559, 238, 239, 506, 507, 137, 64, 243, 244, 5, 245, 388, 389, 390, 391, 136, 65, 392, 393, 394, 694, 695, 696, 697, 698, 699, 700, 701] (by decide +kernel) (by decide +kernel)
set_option maxRecDepth 20000 in
theorem gL_law_X3_learn : GoodIn wsL_law (wsV RL 73 RX3 yX3_learn wsX3_learn) := goodIn_app (goodIn_of _ (by decide +kernel)) ggL_law_X3_learn
set_option maxRecDepth 20000 in
theorem ggL_law_X2_drift : GoodIn wsL_law wsX2_drift := goodIn_r _ [563, 89, 15, 87, 306, 307, 2, 308, 564, 565, 566, 567, 78, 309, 310, 311, 312, 17, 18, 19, 313, 314, 106, 315, 316, 317, 318, 14, 319, 30, 31, 32, 33, 34, 35, 36, 37, 38, 39, 40, 41, 42, 43, 44, 45, 46, 320, 321, 322, 323, 50, 324, 325, 326, 49, 327, 54, 55, 328, 56, 57, 58, 329, 330, 331, 332, 568, 569, 570, 571, 16, 572, 573, 574, 575, 485, 486, 487, 488, 108, 489, 365, 366, 338, 339, 340, 490, 491, 492, 493, 494, 495, 496, 223, 224, 109, 110, 111, 112, 361, 362, 363, 364, 497, 498, 499, 500, 501, 354, 355, 356, 333, 334, 335, 336, 130, 337, 341, 127, 128, 129, 342, 343, 344, 345, 91, 92, 346, 347, 348, 349, 233, 94, 95, 96, 350, 351, 352, 353, 229, 230, 231, 232, 357, 358, 359, 360, 367, 368, 369, 370, 371, 372, 373, 374, 375, 376, 377, 378, 379, 380, 381, 382, 383, 265, 266, 267, 268, 269, 255, 256, 257, 207, 208, 209, 210, 270, 271, 272, 273, 203, 204, 201, 205, 274, 275, 276, 277, 199, 200, 113, 114, 115, 116, 684, 685, 686, 687, 688, 689, 690, 691, 692, 693, 702, 703, 704, 705, 706, 707, 708, 709, 710, 711, 712, 713, 714, 715, 716, 717, 718, 719, 720, 721, 722, 723, 724] (by decide +kernel) (by decide +kernel)
set_option maxRecDepth 20000 in
theorem gL_law_X2_drift : GoodIn wsL_law (wsV RL 74 RX2 yX2_drift wsX2_drift) := goodIn_app (goodIn_of _ (by decide +kernel)) ggL_law_X2_drift
set_option maxRecDepth 20000 in
theorem ggL_law_X3_drift : GoodIn wsL_law wsX3_drift := goodIn_r _ [579, 71, 137, 580, 64, 243, 244, 5, 245, 581, 582, 583, 584, 585, 586, 587, 588, 589, 388, 389, 390, 391, 136, 65, 392, 393, 394, 509, 510, 511, 512, 152, 513, 73, 514, 515, 516, 517, 401, 518, 506, 507, 153, 154, 155, 156, 417, 418, 419, 519, 520, 521, 410, 411, 412, 157, 158, 159, 395, 396, 397, 398, 399, 181, 400, 402, 403, 404, 405, 143, 144, 145, 146, 147, 406, 407, 408, 409, 138, 139, 140, 141, 142, 413, 414, 415, 416, 420, 421, 422, 423, 177, 178, 179, 180, 291, 292, 293, 294, 295, 296, 297, 298, 299, 300, 301, 164, 165, 166, 167, 424, 425, 426, 427, 428, 429, 430, 431, 282, 160, 161, 162, 163, 694, 695, 696, 697, 698, 699, 700, 701] (by decide +kernel) (by decide +kernel)
set_option maxRecDepth 20000 in
theorem gL_law_X3_drift : GoodIn wsL_law (wsV RL 77 RX3 yX3_drift wsX3_drift) := goodIn_app (goodIn_of _ (by decide +kernel)) ggL_law_X3_drift
set_option maxRecDepth 20000 in
theorem ggL_law_X2_undo : GoodIn wsL_law wsX2_undo := goodIn_r _ [593, 89, 19, 594, 18, 15, 17, 306, 307, 2, 308, 329, 330, 331, 332, 316, 317, 318, 14, 319, 30, 31, 32, 33, 34, 35, 36, 37, 38, 39, 40, 41, 42, 43, 44, 45, 46, 320, 321, 322, 323, 50, 324, 325, 326, 49, 327, 54, 55, 328, 56, 57, 58, 684, 685, 686, 687, 688, 689, 690, 691, 692, 693, 702, 703, 704, 705, 706, 707, 708, 709, 710, 711, 712, 713, 714, 715, 716, 717, 718, 719, 720, 721, 722, 723, 724] (by decide +kernel) (by decide +kernel)
set_option maxRecDepth 20000 in
theorem gL_law_X2_undo : GoodIn wsL_law (wsV RL 78 RX2 yX2_undo wsX2_undo) := goodIn_app (goodIn_of _ (by decide +kernel)) ggL_law_X2_undo
set_option maxRecDepth 20000 in
theorem ggL_law_X3_undo : GoodIn wsL_law wsX3_undo := goodIn_r _ [598, 71, 137, 136, 599, 65, 64, 243, 244, 5, 245, 392, 393, 394, 694, 695, 696, 697, 698, 699, 700, 701] (by decide +kernel) (by decide +kernel)
set_option maxRecDepth 20000 in
theorem gL_law_X3_undo : GoodIn wsL_law (wsV RL 81 RX3 yX3_undo wsX3_undo) := goodIn_app (goodIn_of _ (by decide +kernel)) ggL_law_X3_undo
set_option maxRecDepth 20000 in
theorem ggL_law_X2_evenly : GoodIn wsL_law wsX2_evenly := goodIn_r _ [603, 89, 306, 307, 2, 308, 97, 98, 99] (by decide +kernel) (by decide +kernel)
set_option maxRecDepth 20000 in
theorem gL_law_X2_evenly : GoodIn wsL_law (wsV RL 82 RX2 yX2_evenly wsX2_evenly) := goodIn_app (goodIn_of _ (by decide +kernel)) ggL_law_X2_evenly
set_option maxRecDepth 20000 in
theorem ggL_law_X3_evenly : GoodIn wsL_law wsX3_evenly := goodIn_r _ [607, 472, 137, 243, 244, 5, 245] (by decide +kernel) (by decide +kernel)
set_option maxRecDepth 20000 in
theorem gL_law_X3_evenly : GoodIn wsL_law (wsV RL 85 RX3 yX3_evenly wsX3_evenly) := goodIn_app (goodIn_of _ (by decide +kernel)) ggL_law_X3_evenly
set_option maxRecDepth 20000 in
theorem ggL_law_X2_after : GoodIn wsL_law wsX2_after := goodIn_r _ [611, 188, 15, 306, 307, 2, 308, 612, 347, 348, 14, 349, 31, 130, 33, 41, 108, 233, 94, 95, 96, 34, 36, 35, 350, 351, 352, 353, 37, 91, 92, 229, 230, 231, 232, 46, 223, 224, 354, 355, 331, 356, 357, 358, 359, 360, 38, 32, 361, 362, 363, 339, 106, 340, 364, 365, 366, 684, 685, 686, 687, 688, 689, 690, 691, 692, 693, 702, 703, 704, 705, 706, 707, 708, 709, 710, 711, 712, 713, 714, 715, 716, 717, 718, 719] (by decide +kernel) (by decide +kernel)
set_option maxRecDepth 20000 in
theorem gL_law_X2_after : GoodIn wsL_law (wsV RL 86 RX2 yX2_after wsX2_after) := goodIn_app (goodIn_of _ (by decide +kernel)) ggL_law_X2_after
set_option maxRecDepth 20000 in
theorem ggL_law_X3_after : GoodIn wsL_law wsX3_after := goodIn_r _ [616, 172, 73, 243, 244, 5, 245, 402, 403, 404, 405, 64, 181, 143, 144, 145, 146, 147, 406, 407, 408, 409, 152, 138, 139, 140, 141, 71, 142, 410, 411, 412, 413, 414, 415, 416, 157, 158, 159, 417, 418, 419, 694, 695, 696, 697, 698, 699, 700, 701] (by decide +kernel) (by decide +kernel)
set_option maxRecDepth 20000 in
theorem gL_law_X3_after : GoodIn wsL_law (wsV RL 89 RX3 yX3_after wsX3_after) := goodIn_app (goodIn_of _ (by decide +kernel)) ggL_law_X3_after
set_option maxRecDepth 20000 in
theorem ggL_law_X2_rings : GoodIn wsL_law wsX2_rings := goodIn_r _ [620, 89, 15, 87, 621, 306, 307, 2, 308, 126, 127, 128, 14, 129, 31, 130, 612, 347, 348, 349, 33, 41, 108, 233, 94, 95, 96, 34, 36, 35, 350, 351, 352, 353, 37, 91, 92, 229, 230, 231, 232, 46, 223, 224, 354, 355, 331, 356, 357, 358, 359, 360, 38, 32, 361, 362, 363, 339, 106, 340, 364, 365, 366, 622, 623, 624, 49, 625, 54, 378, 58, 379, 314, 315, 380, 381, 382, 383, 265, 266, 267, 268, 57, 269, 255, 256, 257, 207, 208, 209, 210, 270, 271, 272, 273, 56, 203, 204, 201, 205, 274, 275, 276, 277, 55, 199, 200, 684, 685, 686, 687, 688, 689, 690, 691, 692, 693, 702, 703, 704, 705, 706, 707, 708, 709, 710, 711, 712, 713, 714, 715, 716, 717, 718, 719, 720, 721, 722, 723, 724] (by decide +kernel) (by decide +kernel)
set_option maxRecDepth 20000 in
theorem gL_law_X2_rings : GoodIn wsL_law (wsV RL 90 RX2 yX2_rings wsX2_rings) := goodIn_app (goodIn_of _ (by decide +kernel)) ggL_law_X2_rings
set_option maxRecDepth 20000 in
theorem ggL_law_X3_rings : GoodIn wsL_law wsX3_rings := goodIn_r _ [629, 172, 137, 64, 399, 243, 244, 5, 245, 402, 403, 404, 405, 181, 143, 144, 145, 146, 147, 406, 407, 408, 409, 152, 138, 139, 140, 141, 71, 142, 410, 411, 412, 413, 414, 415, 416, 157, 158, 159, 417, 418, 419, 164, 165, 166, 167, 420, 421, 422, 423, 177, 178, 179, 180, 291, 292, 293, 294, 295, 296, 297, 298, 299, 300, 301, 73, 694, 695, 696, 697, 698, 699, 700, 701] (by decide +kernel) (by decide +kernel)
set_option maxRecDepth 20000 in
theorem gL_law_X3_rings : GoodIn wsL_law (wsV RL 93 RX3 yX3_rings wsX3_rings) := goodIn_app (goodIn_of _ (by decide +kernel)) ggL_law_X3_rings
set_option maxRecDepth 20000 in
theorem ggL_law_X2_untilWide : GoodIn wsL_law wsX2_untilWide := goodIn_r _ [633, 634, 89, 15, 635, 306, 307, 2, 308, 636, 637, 638, 14, 639, 39, 370, 371, 372, 373, 41, 40, 684, 685, 686, 687, 688, 689, 690, 691, 692, 693, 702, 703, 704, 705, 706, 707, 708, 709, 710, 711, 712, 713, 714, 715, 716, 717, 718, 719] (by decide +kernel) (by decide +kernel)
set_option maxRecDepth 20000 in
theorem gL_law_X2_untilWide : GoodIn wsL_law (wsV RL 94 RX2 yX2_untilWide wsX2_untilWide) := goodIn_app (goodIn_of _ (by decide +kernel)) ggL_law_X2_untilWide
set_option maxRecDepth 20000 in
theorem ggL_law_X3_untilWide : GoodIn wsL_law wsX3_untilWide := goodIn_r _ [643, 399, 137, 152, 64, 243, 244, 5, 245, 428, 429, 430, 431, 282, 694, 695, 696, 697, 698, 699, 700, 701] (by decide +kernel) (by decide +kernel)
set_option maxRecDepth 20000 in
theorem gL_law_X3_untilWide : GoodIn wsL_law (wsV RL 97 RX3 yX3_untilWide wsX3_untilWide) := goodIn_app (goodIn_of _ (by decide +kernel)) ggL_law_X3_untilWide
set_option maxRecDepth 20000 in
theorem ggL_law_X2_write : GoodIn wsL_law wsX2_write := goodIn_r _ [647, 26, 526, 25, 684, 685, 686, 687, 688, 689, 690, 691, 692, 693] (by decide +kernel) (by decide +kernel)
set_option maxRecDepth 20000 in
theorem gL_law_X2_write : GoodIn wsL_law (wsV RL 98 RX2 yX2_write wsX2_write) := goodIn_app (goodIn_of _ (by decide +kernel)) ggL_law_X2_write
set_option maxRecDepth 20000 in
theorem ggL_law_X3_write : GoodIn wsL_law wsX3_write := goodIn_r _ [651, 135, 539, 68, 694, 695, 696, 697, 698, 699, 700, 701] (by decide +kernel) (by decide +kernel)
set_option maxRecDepth 20000 in
theorem gL_law_X3_write : GoodIn wsL_law (wsV RL 101 RX3 yX3_write wsX3_write) := goodIn_app (goodIn_of _ (by decide +kernel)) ggL_law_X3_write
set_option maxRecDepth 20000 in
theorem ggL_law_X2_tear : GoodIn wsL_law wsX2_tear := goodIn_r _ [655, 26, 684, 685, 686, 687, 688, 689, 690, 691, 692, 693] (by decide +kernel) (by decide +kernel)
set_option maxRecDepth 20000 in
theorem gL_law_X2_tear : GoodIn wsL_law (wsV RL 102 RX2 yX2_tear wsX2_tear) := goodIn_app (goodIn_of _ (by decide +kernel)) ggL_law_X2_tear
set_option maxRecDepth 20000 in
theorem ggL_law_X3_tear : GoodIn wsL_law wsX3_tear := goodIn_r _ [659, 135, 694, 695, 696, 697, 698, 699, 700, 701] (by decide +kernel) (by decide +kernel)
set_option maxRecDepth 20000 in
theorem gL_law_X3_tear : GoodIn wsL_law (wsV RL 106 RX3 yX3_tear wsX3_tear) := goodIn_app (goodIn_of _ (by decide +kernel)) ggL_law_X3_tear
set_option maxRecDepth 20000 in
theorem ggL_law_X2_seed : GoodIn wsL_law wsX2_seed := goodIn_r _ [663, 89, 16, 684, 685, 686, 687, 688, 689, 690, 691, 692, 693] (by decide +kernel) (by decide +kernel)
set_option maxRecDepth 20000 in
theorem gL_law_X2_seed : GoodIn wsL_law (wsV RL 107 RX2 yX2_seed wsX2_seed) := goodIn_app (goodIn_of _ (by decide +kernel)) ggL_law_X2_seed
set_option maxRecDepth 20000 in
theorem ggL_law_X3_seed : GoodIn wsL_law wsX3_seed := goodIn_r _ [667, 137, 585, 694, 695, 696, 697, 698, 699, 700, 701] (by decide +kernel) (by decide +kernel)
set_option maxRecDepth 20000 in
theorem gL_law_X3_seed : GoodIn wsL_law (wsV RL 110 RX3 yX3_seed wsX3_seed) := goodIn_app (goodIn_of _ (by decide +kernel)) ggL_law_X3_seed
set_option maxRecDepth 20000 in
theorem ggL_law_X2_keep : GoodIn wsL_law wsX2_keep := goodIn_r _ [671, 219, 20, 15, 22, 16, 24, 19, 306, 307, 2, 308, 316, 317, 318, 14, 319, 30, 31, 32, 33, 34, 35, 36, 37, 38, 39, 40, 41, 42, 43, 44, 45, 46, 320, 321, 322, 323, 50, 324, 325, 326, 49, 327, 54, 55, 328, 56, 57, 58, 684, 685, 686, 687, 688, 689, 690, 691, 692, 693, 702, 703, 704, 705, 706, 707, 708, 709, 710, 711, 712, 713, 714, 715, 716, 717, 718, 719, 720, 721, 722, 723, 724] (by decide +kernel) (by decide +kernel)
set_option maxRecDepth 20000 in
theorem gL_law_X2_keep : GoodIn wsL_law (wsV RL 111 RX2 yX2_keep wsX2_keep) := goodIn_app (goodIn_of _ (by decide +kernel)) ggL_law_X2_keep
set_option maxRecDepth 20000 in
theorem ggL_law_X3_keep : GoodIn wsL_law wsX3_keep := goodIn_r _ [675, 239, 67, 64, 66, 585, 136, 243, 244, 5, 245, 392, 393, 394, 694, 695, 696, 697, 698, 699, 700, 701] (by decide +kernel) (by decide +kernel)
set_option maxRecDepth 20000 in
theorem gL_law_X3_keep : GoodIn wsL_law (wsV RL 114 RX3 yX3_keep wsX3_keep) := goodIn_app (goodIn_of _ (by decide +kernel)) ggL_law_X3_keep
set_option maxRecDepth 20000 in
theorem ggL_law_X2_goBack : GoodIn wsL_law wsX2_goBack := goodIn_r _ [679, 219, 24, 594, 15, 20, 22, 16, 19, 306, 307, 2, 308, 316, 317, 318, 14, 319, 30, 31, 32, 33, 34, 35, 36, 37, 38, 39, 40, 41, 42, 43, 44, 45, 46, 320, 321, 322, 323, 50, 324, 325, 326, 49, 327, 54, 55, 328, 56, 57, 58, 684, 685, 686, 687, 688, 689, 690, 691, 692, 693, 702, 703, 704, 705, 706, 707, 708, 709, 710, 711, 712, 713, 714, 715, 716, 717, 718, 719, 720, 721, 722, 723, 724] (by decide +kernel) (by decide +kernel)
set_option maxRecDepth 20000 in
theorem gL_law_X2_goBack : GoodIn wsL_law (wsV RL 115 RX2 yX2_goBack wsX2_goBack) := goodIn_app (goodIn_of _ (by decide +kernel)) ggL_law_X2_goBack
set_option maxRecDepth 20000 in
theorem ggL_law_X3_goBack : GoodIn wsL_law wsX3_goBack := goodIn_r _ [683, 239, 67, 599, 66, 64, 585, 136, 243, 244, 5, 245, 392, 393, 394, 694, 695, 696, 697, 698, 699, 700, 701] (by decide +kernel) (by decide +kernel)
set_option maxRecDepth 20000 in
theorem gL_law_X3_goBack : GoodIn wsL_law (wsV RL 118 RX3 yX3_goBack wsX3_goBack) := goodIn_app (goodIn_of _ (by decide +kernel)) ggL_law_X3_goBack
