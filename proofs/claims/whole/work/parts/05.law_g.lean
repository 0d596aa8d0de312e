set_option maxRecDepth 20000 in
theorem ggL_law_X2_init : GoodIn wsL_law wsX2_init := goodIn_r _ [8, 9, 10, 11, 12, 13, 14, 15, 16, 17, 18, 19, 20, 21, 22, 23, 24, 25, 26, 27, 28, 29, 30, 31, 32, 33, 34, 35, 36, 37, 38, 39, 40, 41, 42, 43, 44, 45, 46, 47, 48, 49, 50, 51, 52, 53, 54, 55, 56, 57, 58, 704, 705, 706, 707, 708, 709, 710, 711, 712, 713, 714, 715, 716, 717, 718, 719, 720, 721, 686, 687, 688, 689, 690, 691, 692, 693, 694, 695, 722, 723, 724, 725, 726] (by decide +kernel) (by decide +kernel)
set_option maxRecDepth 20000 in
theorem gL_law_X2_init : GoodIn wsL_law (wsX2_init) := ggL_law_X2_init
set_option maxRecDepth 20000 in
theorem ggL_law_X3_init : GoodIn wsL_law wsX3_init := goodIn_r _ [61, 62, 10, 11, 63, 64, 65, 66, 23, 67, 21, 68, 69, 70, 71, 72, 73, 696, 697, 698, 699, 700, 701, 702, 703] (by decide +kernel) (by decide +kernel)
set_option maxRecDepth 20000 in
theorem gL_law_X3_init : GoodIn wsL_law (wsX3_init) := ggL_law_X3_init
set_option maxRecDepth 20000 in
theorem ggL_law_X2_told : GoodIn wsL_law wsX2_told := goodIn_r _ [77, 15, 78, 79, 80, 81, 82, 83, 84, 85, 86, 87, 88, 26, 19, 89, 90, 91, 2, 92, 93, 94, 95, 14, 96, 34, 36, 35, 97, 98, 99, 100, 101, 102, 103, 30, 104, 105, 106, 107, 108, 39, 109, 110, 111, 112, 31, 32, 113, 114, 115, 49, 116, 54, 58, 117, 118, 119, 120, 41, 38, 121, 122, 123, 124, 125, 25, 126, 127, 128, 129, 130, 686, 687, 688, 689, 690, 691, 692, 693, 694, 695, 704, 705, 706, 707, 708, 709, 710, 711, 712, 713, 714, 715, 716, 717, 718, 719, 720, 721, 722, 723, 724, 725, 726] (by decide +kernel) (by decide +kernel)
set_option maxRecDepth 20000 in
theorem gL_law_X2_told : GoodIn wsL_law (wsV RL 13 RX2 yX2_told wsX2_told) := goodIn_app (goodIn_of _ (by decide +kernel)) ggL_law_X2_told
set_option maxRecDepth 20000 in
theorem ggL_law_X3_told : GoodIn wsL_law wsX3_told := goodIn_r _ [134, 64, 135, 136, 137, 138, 139, 140, 5, 141, 71, 142, 143, 144, 145, 146, 147, 148, 149, 150, 151, 152, 153, 154, 155, 156, 157, 158, 159, 160, 161, 162, 163, 164, 165, 166, 167, 168, 169, 170, 171, 172, 173, 174, 175, 176, 68, 177, 178, 179, 180, 181, 696, 697, 698, 699, 700, 701, 702, 703] (by decide +kernel) (by decide +kernel)
set_option maxRecDepth 20000 in
theorem gL_law_X3_told : GoodIn wsL_law (wsV RL 17 RX3 yX3_told wsX3_told) := goodIn_app (goodIn_of _ (by decide +kernel)) ggL_law_X3_told
set_option maxRecDepth 20000 in
theorem ggL_law_X2_time : GoodIn wsL_law wsX2_time := goodIn_r _ [185, 15, 186, 187, 188, 189, 110, 111, 14, 112, 31, 32, 686, 687, 688, 689, 690, 691, 692, 693, 694, 695, 704, 705, 706, 707, 708, 709, 710, 711, 712, 713, 714, 715, 716, 717, 718, 719, 720, 721] (by decide +kernel) (by decide +kernel)
set_option maxRecDepth 20000 in
theorem gL_law_X2_time : GoodIn wsL_law (wsV RL 18 RX2 yX2_time wsX2_time) := goodIn_app (goodIn_of _ (by decide +kernel)) ggL_law_X2_time
set_option maxRecDepth 20000 in
theorem ggL_law_X3_time : GoodIn wsL_law wsX3_time := goodIn_r _ [193, 64, 73, 153, 154, 155, 5, 156, 696, 697, 698, 699, 700, 701, 702, 703] (by decide +kernel) (by decide +kernel)
set_option maxRecDepth 20000 in
theorem gL_law_X3_time : GoodIn wsL_law (wsV RL 22 RX3 yX3_time wsX3_time) := goodIn_app (goodIn_of _ (by decide +kernel)) ggL_law_X3_time
set_option maxRecDepth 20000 in
theorem ggL_law_X2_calendar : GoodIn wsL_law wsX2_calendar := goodIn_r _ [197, 15, 89, 126, 127, 128, 14, 129, 31, 130, 198, 199, 2, 200, 201, 202, 203, 204, 205, 206, 207, 208, 209, 210, 686, 687, 688, 689, 690, 691, 692, 693, 694, 695, 704, 705, 706, 707, 708, 709, 710, 711, 712, 713, 714, 715, 716, 717, 718, 719, 720, 721] (by decide +kernel) (by decide +kernel)
set_option maxRecDepth 20000 in
theorem gL_law_X2_calendar : GoodIn wsL_law (wsV RL 23 RX2 yX2_calendar wsX2_calendar) := goodIn_app (goodIn_of _ (by decide +kernel)) ggL_law_X2_calendar
set_option maxRecDepth 20000 in
theorem ggL_law_X3_calendar : GoodIn wsL_law wsX3_calendar := goodIn_r _ [214, 137, 177, 178, 179, 5, 180, 64, 181, 696, 697, 698, 699, 700, 701, 702, 703] (by decide +kernel) (by decide +kernel)
set_option maxRecDepth 20000 in
theorem gL_law_X3_calendar : GoodIn wsL_law (wsV RL 26 RX3 yX3_calendar wsX3_calendar) := goodIn_app (goodIn_of _ (by decide +kernel)) ggL_law_X3_calendar
set_option maxRecDepth 20000 in
theorem ggL_law_X2_span : GoodIn wsL_law wsX2_span := goodIn_r _ [218, 219, 15, 220, 221, 89, 222, 223, 2, 224, 225, 226, 227, 14, 228, 229, 230, 231, 232, 46, 233, 94, 95, 96, 34, 36, 35, 686, 687, 688, 689, 690, 691, 692, 693, 694, 695, 704, 705, 706, 707, 708, 709, 710, 711, 712, 713, 714, 715, 716, 717, 718, 719, 720, 721] (by decide +kernel) (by decide +kernel)
set_option maxRecDepth 20000 in
theorem gL_law_X2_span : GoodIn wsL_law (wsV RL 27 RX2 yX2_span wsX2_span) := goodIn_app (goodIn_of _ (by decide +kernel)) ggL_law_X2_span
set_option maxRecDepth 20000 in
theorem ggL_law_X3_span : GoodIn wsL_law wsX3_span := goodIn_r _ [237, 238, 239, 137, 64, 240, 152, 142, 241, 242, 243, 244, 5, 245, 143, 144, 145, 146, 147, 696, 697, 698, 699, 700, 701, 702, 703] (by decide +kernel) (by decide +kernel)
set_option maxRecDepth 20000 in
theorem gL_law_X3_span : GoodIn wsL_law (wsV RL 31 RX3 yX3_span wsX3_span) := goodIn_app (goodIn_of _ (by decide +kernel)) ggL_law_X3_span
set_option maxRecDepth 20000 in
theorem ggL_law_X2_alarmAt : GoodIn wsL_law wsX2_alarmAt := goodIn_r _ [249, 15, 87, 219, 250, 251, 252, 253, 89, 254, 255, 256, 49, 257, 54, 126, 127, 128, 14, 129, 31, 130, 258, 259, 260, 261, 262, 57, 263, 56, 264, 55, 265, 207, 2, 208, 209, 210, 266, 267, 268, 269, 203, 204, 201, 205, 199, 200, 686, 687, 688, 689, 690, 691, 692, 693, 694, 695, 704, 705, 706, 707, 708, 709, 710, 711, 712, 713, 714, 715, 716, 717, 718, 719, 720, 721, 722, 723, 724, 725, 726] (by decide +kernel) (by decide +kernel)
set_option maxRecDepth 20000 in
theorem gL_law_X2_alarmAt : GoodIn wsL_law (wsV RL 32 RX2 yX2_alarmAt wsX2_alarmAt) := goodIn_app (goodIn_of _ (by decide +kernel)) ggL_law_X2_alarmAt
set_option maxRecDepth 20000 in
theorem ggL_law_X3_alarmAt : GoodIn wsL_law wsX3_alarmAt := goodIn_r _ [273, 239, 274, 137, 64, 275, 276, 277, 5, 278, 243, 244, 245, 279, 280, 281, 282, 177, 178, 179, 180, 181, 283, 284, 285, 286, 287, 288, 289, 290, 291, 292, 293, 73, 696, 697, 698, 699, 700, 701, 702, 703] (by decide +kernel) (by decide +kernel)
set_option maxRecDepth 20000 in
theorem gL_law_X3_alarmAt : GoodIn wsL_law (wsV RL 35 RX3 yX3_alarmAt wsX3_alarmAt) := goodIn_app (goodIn_of _ (by decide +kernel)) ggL_law_X3_alarmAt
set_option maxRecDepth 20000 in
theorem ggL_law_X2_tick : GoodIn wsL_law wsX2_tick := goodIn_r _ [297, 89, 15, 298, 299, 2, 300, 301, 302, 303, 304, 17, 18, 19, 305, 306, 106, 307, 308, 309, 310, 14, 311, 30, 31, 32, 33, 34, 35, 36, 37, 38, 39, 40, 41, 42, 43, 44, 45, 46, 312, 313, 314, 315, 50, 316, 317, 318, 49, 319, 54, 55, 320, 56, 57, 58, 321, 322, 323, 324, 325, 326, 327, 328, 130, 108, 329, 330, 331, 332, 333, 127, 128, 129, 334, 335, 336, 337, 91, 92, 338, 339, 340, 341, 233, 94, 95, 96, 342, 343, 344, 345, 229, 230, 231, 232, 223, 224, 346, 347, 348, 349, 350, 351, 352, 353, 354, 355, 356, 357, 358, 359, 360, 361, 362, 363, 364, 365, 366, 367, 368, 369, 370, 371, 372, 373, 374, 375, 376, 377, 378, 379, 263, 264, 380, 381, 265, 255, 256, 257, 382, 383, 384, 385, 207, 208, 209, 210, 266, 267, 268, 269, 203, 204, 201, 205, 199, 200, 686, 687, 688, 689, 690, 691, 692, 693, 694, 695, 704, 705, 706, 707, 708, 709, 710, 711, 712, 713, 714, 715, 716, 717, 718, 719, 720, 721, 722, 723, 724, 725, 726] (by decide +kernel) (by decide +kernel)
set_option maxRecDepth 20000 in
theorem gL_law_X2_tick : GoodIn wsL_law (wsV RL 36 RX2 yX2_tick wsX2_tick) := goodIn_app (goodIn_of _ (by decide +kernel)) ggL_law_X2_tick
set_option maxRecDepth 20000 in
theorem ggL_law_X3_tick : GoodIn wsL_law wsX3_tick := goodIn_r _ [389, 172, 137, 243, 244, 5, 245, 390, 391, 392, 393, 136, 65, 64, 394, 395, 396, 397, 398, 399, 400, 401, 181, 402, 403, 404, 405, 406, 407, 143, 144, 145, 146, 147, 408, 409, 410, 411, 152, 138, 139, 140, 141, 71, 142, 412, 413, 414, 415, 416, 417, 418, 157, 158, 159, 419, 420, 421, 422, 423, 424, 425, 177, 178, 179, 180, 283, 284, 285, 286, 287, 288, 289, 290, 291, 292, 293, 73, 164, 165, 166, 167, 426, 427, 428, 429, 430, 431, 432, 433, 274, 696, 697, 698, 699, 700, 701, 702, 703] (by decide +kernel) (by decide +kernel)
set_option maxRecDepth 20000 in
theorem gL_law_X3_tick : GoodIn wsL_law (wsV RL 39 RX3 yX3_tick wsX3_tick) := goodIn_app (goodIn_of _ (by decide +kernel)) ggL_law_X3_tick
set_option maxRecDepth 20000 in
theorem ggL_law_X2_warm : GoodIn wsL_law wsX2_warm := goodIn_r _ [437, 89, 15, 78, 298, 299, 2, 300, 301, 302, 303, 304, 17, 18, 19, 305, 306, 106, 307, 308, 309, 310, 14, 311, 30, 31, 32, 33, 34, 35, 36, 37, 38, 39, 40, 41, 42, 43, 44, 45, 46, 312, 313, 314, 315, 50, 316, 317, 318, 49, 319, 54, 55, 320, 56, 57, 58, 321, 322, 323, 324, 686, 687, 688, 689, 690, 691, 692, 693, 694, 695, 704, 705, 706, 707, 708, 709, 710, 711, 712, 713, 714, 715, 716, 717, 718, 719, 720, 721, 722, 723, 724, 725, 726] (by decide +kernel) (by decide +kernel)
set_option maxRecDepth 20000 in
theorem gL_law_X2_warm : GoodIn wsL_law (wsV RL 40 RX2 yX2_warm wsX2_warm) := goodIn_app (goodIn_of _ (by decide +kernel)) ggL_law_X2_warm
set_option maxRecDepth 20000 in
theorem ggL_law_X3_warm : GoodIn wsL_law wsX3_warm := goodIn_r _ [441, 442, 443, 137, 64, 243, 244, 5, 245, 390, 391, 392, 393, 136, 65, 394, 395, 396, 696, 697, 698, 699, 700, 701, 702, 703] (by decide +kernel) (by decide +kernel)
set_option maxRecDepth 20000 in
theorem gL_law_X3_warm : GoodIn wsL_law (wsV RL 43 RX3 yX3_warm wsX3_warm) := goodIn_app (goodIn_of _ (by decide +kernel)) ggL_law_X3_warm
set_option maxRecDepth 20000 in
theorem ggL_law_X2_crystal : GoodIn wsL_law wsX2_crystal := goodIn_r _ [447, 89, 15, 448, 449, 450, 78, 298, 299, 2, 300, 301, 302, 303, 304, 17, 18, 19, 305, 306, 106, 307, 308, 309, 310, 14, 311, 30, 31, 32, 33, 34, 35, 36, 37, 38, 39, 40, 41, 42, 43, 44, 45, 46, 312, 313, 314, 315, 50, 316, 317, 318, 49, 319, 54, 55, 320, 56, 57, 58, 321, 322, 323, 324, 93, 94, 95, 96, 686, 687, 688, 689, 690, 691, 692, 693, 694, 695, 704, 705, 706, 707, 708, 709, 710, 711, 712, 713, 714, 715, 716, 717, 718, 719, 720, 721, 722, 723, 724, 725, 726] (by decide +kernel) (by decide +kernel)
set_option maxRecDepth 20000 in
theorem gL_law_X2_crystal : GoodIn wsL_law (wsV RL 44 RX2 yX2_crystal wsX2_crystal) := goodIn_app (goodIn_of _ (by decide +kernel)) ggL_law_X2_crystal
set_option maxRecDepth 20000 in
theorem ggL_law_X3_crystal : GoodIn wsL_law wsX3_crystal := goodIn_r _ [454, 455, 71, 456, 403, 137, 64, 243, 244, 5, 245, 390, 391, 392, 393, 136, 65, 394, 395, 396, 143, 144, 145, 146, 147, 696, 697, 698, 699, 700, 701, 702, 703] (by decide +kernel) (by decide +kernel)
set_option maxRecDepth 20000 in
theorem gL_law_X3_crystal : GoodIn wsL_law (wsV RL 48 RX3 yX3_crystal wsX3_crystal) := goodIn_app (goodIn_of _ (by decide +kernel)) ggL_law_X3_crystal
set_option maxRecDepth 20000 in
theorem ggL_law_X2_bound : GoodIn wsL_law wsX2_bound := goodIn_r _ [460, 89, 461, 462, 463, 2, 464, 15, 82, 298, 299, 300, 301, 302, 303, 304, 17, 18, 19, 305, 306, 106, 307, 308, 309, 310, 14, 311, 30, 31, 32, 33, 34, 35, 36, 37, 38, 39, 40, 41, 42, 43, 44, 45, 46, 312, 313, 314, 315, 50, 316, 317, 318, 49, 319, 54, 55, 320, 56, 57, 58, 321, 322, 323, 324, 465, 466, 467, 468, 83, 686, 687, 688, 689, 690, 691, 692, 693, 694, 695, 704, 705, 706, 707, 708, 709, 710, 711, 712, 713, 714, 715, 716, 717, 718, 719, 720, 721, 722, 723, 724, 725, 726] (by decide +kernel) (by decide +kernel)
set_option maxRecDepth 20000 in
theorem gL_law_X2_bound : GoodIn wsL_law (wsV RL 49 RX2 yX2_bound wsX2_bound) := goodIn_app (goodIn_of _ (by decide +kernel)) ggL_law_X2_bound
set_option maxRecDepth 20000 in
theorem ggL_law_X3_bound : GoodIn wsL_law wsX3_bound := goodIn_r _ [472, 473, 474, 137, 64, 243, 244, 5, 245, 390, 391, 392, 393, 136, 65, 394, 395, 396, 696, 697, 698, 699, 700, 701, 702, 703] (by decide +kernel) (by decide +kernel)
set_option maxRecDepth 20000 in
theorem gL_law_X3_bound : GoodIn wsL_law (wsV RL 52 RX3 yX3_bound wsX3_bound) := goodIn_app (goodIn_of _ (by decide +kernel)) ggL_law_X3_bound
set_option maxRecDepth 20000 in
theorem ggL_law_X2_power : GoodIn wsL_law wsX2_power := goodIn_r _ [478, 15, 84, 301, 302, 303, 2, 304, 17, 18, 19, 305, 306, 106, 307, 308, 309, 310, 14, 311, 30, 31, 32, 33, 34, 35, 36, 37, 38, 39, 40, 41, 42, 43, 44, 45, 46, 312, 313, 314, 315, 50, 316, 317, 318, 49, 319, 54, 55, 320, 56, 57, 58, 321, 322, 323, 324, 97, 98, 99, 686, 687, 688, 689, 690, 691, 692, 693, 694, 695, 704, 705, 706, 707, 708, 709, 710, 711, 712, 713, 714, 715, 716, 717, 718, 719, 720, 721, 722, 723, 724, 725, 726] (by decide +kernel) (by decide +kernel)
set_option maxRecDepth 20000 in
theorem gL_law_X2_power : GoodIn wsL_law (wsV RL 53 RX2 yX2_power wsX2_power) := goodIn_app (goodIn_of _ (by decide +kernel)) ggL_law_X2_power
set_option maxRecDepth 20000 in
theorem ggL_law_X3_power : GoodIn wsL_law wsX3_power := goodIn_r _ [482, 64, 390, 391, 392, 5, 393, 136, 65, 394, 395, 396, 696, 697, 698, 699, 700, 701, 702, 703] (by decide +kernel) (by decide +kernel)
set_option maxRecDepth 20000 in
theorem gL_law_X3_power : GoodIn wsL_law (wsV RL 57 RX3 yX3_power wsX3_power) := goodIn_app (goodIn_of _ (by decide +kernel)) ggL_law_X3_power
set_option maxRecDepth 20000 in
theorem ggL_law_X2_hear : GoodIn wsL_law wsX2_hear := goodIn_r _ [486, 89, 15, 298, 299, 2, 300, 301, 302, 303, 304, 17, 18, 19, 305, 306, 106, 307, 308, 309, 310, 14, 311, 30, 31, 32, 33, 34, 35, 36, 37, 38, 39, 40, 41, 42, 43, 44, 45, 46, 312, 313, 314, 315, 50, 316, 317, 318, 49, 319, 54, 55, 320, 56, 57, 58, 321, 322, 323, 324, 487, 488, 489, 490, 108, 491, 357, 358, 330, 331, 332, 492, 493, 494, 495, 496, 497, 498, 223, 224, 109, 110, 111, 112, 353, 354, 355, 356, 499, 500, 501, 502, 503, 346, 347, 348, 97, 98, 99, 686, 687, 688, 689, 690, 691, 692, 693, 694, 695, 704, 705, 706, 707, 708, 709, 710, 711, 712, 713, 714, 715, 716, 717, 718, 719, 720, 721, 722, 723, 724, 725, 726] (by decide +kernel) (by decide +kernel)
set_option maxRecDepth 20000 in
theorem gL_law_X2_hear : GoodIn wsL_law (wsV RL 58 RX2 yX2_hear wsX2_hear) := goodIn_app (goodIn_of _ (by decide +kernel)) ggL_law_X2_hear
set_option maxRecDepth 20000 in
theorem ggL_law_X3_hear : GoodIn wsL_law wsX3_hear := goodIn_r _ [507, 508, 509, 510, 137, 243, 244, 5, 245, 390, 391, 392, 393, 136, 65, 64, 394, 395, 396, 511, 512, 513, 514, 152, 515, 73, 516, 517, 518, 519, 403, 520, 153, 154, 155, 156, 419, 420, 421, 521, 522, 523, 412, 413, 414, 157, 158, 159, 696, 697, 698, 699, 700, 701, 702, 703] (by decide +kernel) (by decide +kernel)
set_option maxRecDepth 20000 in
theorem gL_law_X3_hear : GoodIn wsL_law (wsV RL 61 RX3 yX3_hear wsX3_hear) := goodIn_app (goodIn_of _ (by decide +kernel)) ggL_law_X3_hear
set_option maxRecDepth 20000 in
theorem ggL_law_X2_alarm : GoodIn wsL_law wsX2_alarm := goodIn_r _ [527, 89, 15, 87, 88, 528, 298, 299, 2, 300, 301, 302, 303, 304, 17, 18, 19, 305, 306, 106, 307, 308, 309, 310, 14, 311, 30, 31, 32, 33, 34, 35, 36, 37, 38, 39, 40, 41, 42, 43, 44, 45, 46, 312, 313, 314, 315, 50, 316, 317, 318, 49, 319, 54, 55, 320, 56, 57, 58, 321, 322, 323, 324, 529, 530, 531, 532, 533, 686, 687, 688, 689, 690, 691, 692, 693, 694, 695, 704, 705, 706, 707, 708, 709, 710, 711, 712, 713, 714, 715, 716, 717, 718, 719, 720, 721, 722, 723, 724, 725, 726] (by decide +kernel) (by decide +kernel)
set_option maxRecDepth 20000 in
theorem gL_law_X2_alarm : GoodIn wsL_law (wsV RL 62 RX2 yX2_alarm wsX2_alarm) := goodIn_app (goodIn_of _ (by decide +kernel)) ggL_law_X2_alarm
set_option maxRecDepth 20000 in
theorem ggL_law_X3_alarm : GoodIn wsL_law wsX3_alarm := goodIn_r _ [537, 73, 538, 539, 540, 137, 64, 541, 243, 244, 5, 245, 390, 391, 392, 393, 136, 65, 394, 395, 396, 696, 697, 698, 699, 700, 701, 702, 703] (by decide +kernel) (by decide +kernel)
set_option maxRecDepth 20000 in
theorem gL_law_X3_alarm : GoodIn wsL_law (wsV RL 65 RX3 yX3_alarm wsX3_alarm) := goodIn_app (goodIn_of _ (by decide +kernel)) ggL_law_X3_alarm
set_option maxRecDepth 20000 in
theorem ggL_law_X2_drop : GoodIn wsL_law wsX2_drop := goodIn_r _ [545, 15, 87, 219, 88, 254, 255, 256, 49, 257, 54, 301, 302, 303, 2, 304, 17, 18, 19, 305, 306, 106, 307, 308, 309, 310, 14, 311, 30, 31, 32, 33, 34, 35, 36, 37, 38, 39, 40, 41, 42, 43, 44, 45, 46, 312, 313, 314, 315, 50, 316, 317, 318, 319, 55, 320, 56, 57, 58, 321, 322, 323, 324, 546, 547, 548, 549, 265, 686, 687, 688, 689, 690, 691, 692, 693, 694, 695, 704, 705, 706, 707, 708, 709, 710, 711, 712, 713, 714, 715, 716, 717, 718, 719, 720, 721, 722, 723, 724, 725, 726] (by decide +kernel) (by decide +kernel)
set_option maxRecDepth 20000 in
theorem gL_law_X2_drop : GoodIn wsL_law (wsV RL 66 RX2 yX2_drop wsX2_drop) := goodIn_app (goodIn_of _ (by decide +kernel)) ggL_law_X2_drop
set_option maxRecDepth 20000 in
theorem ggL_law_X3_drop : GoodIn wsL_law wsX3_drop := goodIn_r _ [553, 239, 64, 275, 276, 277, 5, 278, 243, 244, 245, 390, 391, 392, 393, 136, 65, 394, 395, 396, 696, 697, 698, 699, 700, 701, 702, 703] (by decide +kernel) (by decide +kernel)
set_option maxRecDepth 20000 in
theorem gL_law_X3_drop : GoodIn wsL_law (wsV RL 69 RX3 yX3_drop wsX3_drop) := goodIn_app (goodIn_of _ (by decide +kernel)) ggL_law_X3_drop
set_option maxRecDepth 20000 in
theorem ggL_law_X2_learn : GoodIn wsL_law wsX2_learn := goodIn_r _ [557, 219, 89, 15, 220, 222, 223, 2, 224, 298, 299, 300, 301, 302, 303, 304, 17, 18, 19, 305, 306, 106, 307, 308, 309, 310, 14, 311, 30, 31, 32, 33, 34, 35, 36, 37, 38, 39, 40, 41, 42, 43, 44, 45, 46, 312, 313, 314, 315, 50, 316, 317, 318, 49, 319, 54, 55, 320, 56, 57, 58, 321, 322, 323, 324, 686, 687, 688, 689, 690, 691, 692, 693, 694, 695, 704, 705, 706, 707, 708, 709, 710, 711, 712, 713, 714, 715, 716, 717, 718, 719, 720, 721, 722, 723, 724, 725, 726] (by decide +kernel) (by decide +kernel)
set_option maxRecDepth 20000 in
theorem gL_law_X2_learn : GoodIn wsL_law (wsV RL 70 RX2 yX2_learn wsX2_learn) := goodIn_app (goodIn_of _ (by decide +kernel)) ggL_law_X2_learn
set_option maxRecDepth 20000 in
theorem ggL_law_X3_learn : GoodIn wsL_law wsX3_learn := goodIn_r _ [561, 238, 239, 508, 509, 137, 64, 243, 244, 5, 245, 390, 391, 392, 393, 136, 65, 394, 395, 396, 696, 697, 698, 699, 700, 701, 702, 703] (by decide +kernel) (by decide +kernel)
set_option maxRecDepth 20000 in
theorem gL_law_X3_learn : GoodIn wsL_law (wsV RL 73 RX3 yX3_learn wsX3_learn) := goodIn_app (goodIn_of _ (by decide +kernel)) ggL_law_X3_learn
set_option maxRecDepth 20000 in
theorem ggL_law_X2_drift : GoodIn wsL_law wsX2_drift := goodIn_r _ [565, 89, 15, 87, 298, 299, 2, 300, 566, 567, 568, 569, 78, 301, 302, 303, 304, 17, 18, 19, 305, 306, 106, 307, 308, 309, 310, 14, 311, 30, 31, 32, 33, 34, 35, 36, 37, 38, 39, 40, 41, 42, 43, 44, 45, 46, 312, 313, 314, 315, 50, 316, 317, 318, 49, 319, 54, 55, 320, 56, 57, 58, 321, 322, 323, 324, 570, 571, 572, 573, 16, 574, 575, 576, 577, 487, 488, 489, 490, 108, 491, 357, 358, 330, 331, 332, 492, 493, 494, 495, 496, 497, 498, 223, 224, 109, 110, 111, 112, 353, 354, 355, 356, 499, 500, 501, 502, 503, 346, 347, 348, 325, 326, 327, 328, 130, 329, 333, 127, 128, 129, 334, 335, 336, 337, 91, 92, 338, 339, 340, 341, 233, 94, 95, 96, 342, 343, 344, 345, 229, 230, 231, 232, 349, 350, 351, 352, 359, 360, 361, 362, 363, 364, 365, 366, 367, 368, 369, 370, 371, 372, 373, 374, 375, 376, 377, 378, 379, 263, 264, 380, 381, 265, 255, 256, 257, 382, 383, 384, 385, 207, 208, 209, 210, 266, 267, 268, 269, 203, 204, 201, 205, 199, 200, 113, 114, 115, 116, 686, 687, 688, 689, 690, 691, 692, 693, 694, 695, 704, 705, 706, 707, 708, 709, 710, 711, 712, 713, 714, 715, 716, 717, 718, 719, 720, 721, 722, 723, 724, 725, 726] (by decide +kernel) (by decide +kernel)
set_option maxRecDepth 20000 in
theorem gL_law_X2_drift : GoodIn wsL_law (wsV RL 74 RX2 yX2_drift wsX2_drift) := goodIn_app (goodIn_of _ (by decide +kernel)) ggL_law_X2_drift
set_option maxRecDepth 20000 in
theorem ggL_law_X3_drift : GoodIn wsL_law wsX3_drift := goodIn_r _ [581, 71, 137, 582, 64, 243, 244, 5, 245, 583, 584, 585, 586, 587, 588, 589, 590, 591, 390, 391, 392, 393, 136, 65, 394, 395, 396, 511, 512, 513, 514, 152, 515, 73, 516, 517, 518, 519, 403, 520, 508, 509, 153, 154, 155, 156, 419, 420, 421, 521, 522, 523, 412, 413, 414, 157, 158, 159, 397, 398, 399, 400, 401, 181, 402, 404, 405, 406, 407, 143, 144, 145, 146, 147, 408, 409, 410, 411, 138, 139, 140, 141, 142, 415, 416, 417, 418, 422, 423, 424, 425, 177, 178, 179, 180, 283, 284, 285, 286, 287, 288, 289, 290, 291, 292, 293, 164, 165, 166, 167, 426, 427, 428, 429, 430, 431, 432, 433, 274, 160, 161, 162, 163, 696, 697, 698, 699, 700, 701, 702, 703] (by decide +kernel) (by decide +kernel)
set_option maxRecDepth 20000 in
theorem gL_law_X3_drift : GoodIn wsL_law (wsV RL 77 RX3 yX3_drift wsX3_drift) := goodIn_app (goodIn_of _ (by decide +kernel)) ggL_law_X3_drift
set_option maxRecDepth 20000 in
theorem ggL_law_X2_undo : GoodIn wsL_law wsX2_undo := goodIn_r _ [595, 89, 19, 596, 18, 15, 17, 298, 299, 2, 300, 321, 322, 323, 324, 308, 309, 310, 14, 311, 30, 31, 32, 33, 34, 35, 36, 37, 38, 39, 40, 41, 42, 43, 44, 45, 46, 312, 313, 314, 315, 50, 316, 317, 318, 49, 319, 54, 55, 320, 56, 57, 58, 686, 687, 688, 689, 690, 691, 692, 693, 694, 695, 704, 705, 706, 707, 708, 709, 710, 711, 712, 713, 714, 715, 716, 717, 718, 719, 720, 721, 722, 723, 724, 725, 726] (by decide +kernel) (by decide +kernel)
set_option maxRecDepth 20000 in
theorem gL_law_X2_undo : GoodIn wsL_law (wsV RL 78 RX2 yX2_undo wsX2_undo) := goodIn_app (goodIn_of _ (by decide +kernel)) ggL_law_X2_undo
set_option maxRecDepth 20000 in
theorem ggL_law_X3_undo : GoodIn wsL_law wsX3_undo := goodIn_r _ [600, 71, 137, 136, 601, 65, 64, 243, 244, 5, 245, 394, 395, 396, 696, 697, 698, 699, 700, 701, 702, 703] (by decide +kernel) (by decide +kernel)
set_option maxRecDepth 20000 in
theorem gL_law_X3_undo : GoodIn wsL_law (wsV RL 81 RX3 yX3_undo wsX3_undo) := goodIn_app (goodIn_of _ (by decide +kernel)) ggL_law_X3_undo
set_option maxRecDepth 20000 in
theorem ggL_law_X2_evenly : GoodIn wsL_law wsX2_evenly := goodIn_r _ [605, 89, 298, 299, 2, 300, 97, 98, 99] (by decide +kernel) (by decide +kernel)
set_option maxRecDepth 20000 in
theorem gL_law_X2_evenly : GoodIn wsL_law (wsV RL 82 RX2 yX2_evenly wsX2_evenly) := goodIn_app (goodIn_of _ (by decide +kernel)) ggL_law_X2_evenly
set_option maxRecDepth 20000 in
theorem ggL_law_X3_evenly : GoodIn wsL_law wsX3_evenly := goodIn_r _ [609, 474, 137, 243, 244, 5, 245] (by decide +kernel) (by decide +kernel)
set_option maxRecDepth 20000 in
theorem gL_law_X3_evenly : GoodIn wsL_law (wsV RL 85 RX3 yX3_evenly wsX3_evenly) := goodIn_app (goodIn_of _ (by decide +kernel)) ggL_law_X3_evenly
set_option maxRecDepth 20000 in
theorem ggL_law_X2_after : GoodIn wsL_law wsX2_after := goodIn_r _ [613, 188, 15, 298, 299, 2, 300, 614, 339, 340, 14, 341, 31, 130, 33, 41, 108, 233, 94, 95, 96, 34, 36, 35, 342, 343, 344, 345, 37, 91, 92, 229, 230, 231, 232, 46, 223, 224, 346, 347, 323, 348, 349, 350, 351, 352, 38, 32, 353, 354, 355, 331, 106, 332, 356, 357, 358, 686, 687, 688, 689, 690, 691, 692, 693, 694, 695, 704, 705, 706, 707, 708, 709, 710, 711, 712, 713, 714, 715, 716, 717, 718, 719, 720, 721] (by decide +kernel) (by decide +kernel)
set_option maxRecDepth 20000 in
theorem gL_law_X2_after : GoodIn wsL_law (wsV RL 86 RX2 yX2_after wsX2_after) := goodIn_app (goodIn_of _ (by decide +kernel)) ggL_law_X2_after
set_option maxRecDepth 20000 in
theorem ggL_law_X3_after : GoodIn wsL_law wsX3_after := goodIn_r _ [618, 172, 73, 243, 244, 5, 245, 404, 405, 406, 407, 64, 181, 143, 144, 145, 146, 147, 408, 409, 410, 411, 152, 138, 139, 140, 141, 71, 142, 412, 413, 414, 415, 416, 417, 418, 157, 158, 159, 419, 420, 421, 696, 697, 698, 699, 700, 701, 702, 703] (by decide +kernel) (by decide +kernel)
set_option maxRecDepth 20000 in
theorem gL_law_X3_after : GoodIn wsL_law (wsV RL 89 RX3 yX3_after wsX3_after) := goodIn_app (goodIn_of _ (by decide +kernel)) ggL_law_X3_after
set_option maxRecDepth 20000 in
theorem ggL_law_X2_rings : GoodIn wsL_law wsX2_rings := goodIn_r _ [622, 89, 15, 87, 623, 298, 299, 2, 300, 126, 127, 128, 14, 129, 31, 130, 614, 339, 340, 341, 33, 41, 108, 233, 94, 95, 96, 34, 36, 35, 342, 343, 344, 345, 37, 91, 92, 229, 230, 231, 232, 46, 223, 224, 346, 347, 323, 348, 349, 350, 351, 352, 38, 32, 353, 354, 355, 331, 106, 332, 356, 357, 358, 624, 625, 626, 49, 627, 54, 370, 58, 371, 306, 307, 372, 373, 374, 375, 376, 377, 378, 379, 263, 55, 264, 56, 380, 381, 57, 265, 255, 256, 257, 382, 383, 384, 385, 207, 208, 209, 210, 266, 267, 268, 269, 203, 204, 201, 205, 199, 200, 686, 687, 688, 689, 690, 691, 692, 693, 694, 695, 704, 705, 706, 707, 708, 709, 710, 711, 712, 713, 714, 715, 716, 717, 718, 719, 720, 721, 722, 723, 724, 725, 726] (by decide +kernel) (by decide +kernel)
set_option maxRecDepth 20000 in
theorem gL_law_X2_rings : GoodIn wsL_law (wsV RL 90 RX2 yX2_rings wsX2_rings) := goodIn_app (goodIn_of _ (by decide +kernel)) ggL_law_X2_rings
set_option maxRecDepth 20000 in
theorem ggL_law_X3_rings : GoodIn wsL_law wsX3_rings := goodIn_r _ [631, 172, 137, 64, 401, 243, 244, 5, 245, 404, 405, 406, 407, 181, 143, 144, 145, 146, 147, 408, 409, 410, 411, 152, 138, 139, 140, 141, 71, 142, 412, 413, 414, 415, 416, 417, 418, 157, 158, 159, 419, 420, 421, 164, 165, 166, 167, 422, 423, 424, 425, 177, 178, 179, 180, 283, 284, 285, 286, 287, 288, 289, 290, 291, 292, 293, 73, 696, 697, 698, 699, 700, 701, 702, 703] (by decide +kernel) (by decide +kernel)
set_option maxRecDepth 20000 in
theorem gL_law_X3_rings : GoodIn wsL_law (wsV RL 93 RX3 yX3_rings wsX3_rings) := goodIn_app (goodIn_of _ (by decide +kernel)) ggL_law_X3_rings
set_option maxRecDepth 20000 in
theorem ggL_law_X2_untilWide : GoodIn wsL_law wsX2_untilWide := goodIn_r _ [635, 636, 89, 15, 637, 298, 299, 2, 300, 638, 639, 640, 14, 641, 39, 362, 363, 364, 365, 41, 40, 686, 687, 688, 689, 690, 691, 692, 693, 694, 695, 704, 705, 706, 707, 708, 709, 710, 711, 712, 713, 714, 715, 716, 717, 718, 719, 720, 721] (by decide +kernel) (by decide +kernel)
set_option maxRecDepth 20000 in
theorem gL_law_X2_untilWide : GoodIn wsL_law (wsV RL 94 RX2 yX2_untilWide wsX2_untilWide) := goodIn_app (goodIn_of _ (by decide +kernel)) ggL_law_X2_untilWide
set_option maxRecDepth 20000 in
theorem ggL_law_X3_untilWide : GoodIn wsL_law wsX3_untilWide := goodIn_r _ [645, 401, 137, 152, 64, 243, 244, 5, 245, 430, 431, 432, 433, 274, 696, 697, 698, 699, 700, 701, 702, 703] (by decide +kernel) (by decide +kernel)
set_option maxRecDepth 20000 in
theorem gL_law_X3_untilWide : GoodIn wsL_law (wsV RL 97 RX3 yX3_untilWide wsX3_untilWide) := goodIn_app (goodIn_of _ (by decide +kernel)) ggL_law_X3_untilWide
set_option maxRecDepth 20000 in
theorem ggL_law_X2_write : GoodIn wsL_law wsX2_write := goodIn_r _ [649, 26, 528, 25, 686, 687, 688, 689, 690, 691, 692, 693, 694, 695] (by decide +kernel) (by decide +kernel)
set_option maxRecDepth 20000 in
theorem gL_law_X2_write : GoodIn wsL_law (wsV RL 98 RX2 yX2_write wsX2_write) := goodIn_app (goodIn_of _ (by decide +kernel)) ggL_law_X2_write
set_option maxRecDepth 20000 in
theorem ggL_law_X3_write : GoodIn wsL_law wsX3_write := goodIn_r _ [653, 135, 541, 68, 696, 697, 698, 699, 700, 701, 702, 703] (by decide +kernel) (by decide +kernel)
set_option maxRecDepth 20000 in
theorem gL_law_X3_write : GoodIn wsL_law (wsV RL 101 RX3 yX3_write wsX3_write) := goodIn_app (goodIn_of _ (by decide +kernel)) ggL_law_X3_write
set_option maxRecDepth 20000 in
theorem ggL_law_X2_tear : GoodIn wsL_law wsX2_tear := goodIn_r _ [657, 26, 686, 687, 688, 689, 690, 691, 692, 693, 694, 695] (by decide +kernel) (by decide +kernel)
set_option maxRecDepth 20000 in
theorem gL_law_X2_tear : GoodIn wsL_law (wsV RL 102 RX2 yX2_tear wsX2_tear) := goodIn_app (goodIn_of _ (by decide +kernel)) ggL_law_X2_tear
set_option maxRecDepth 20000 in
theorem ggL_law_X3_tear : GoodIn wsL_law wsX3_tear := goodIn_r _ [661, 135, 696, 697, 698, 699, 700, 701, 702, 703] (by decide +kernel) (by decide +kernel)
set_option maxRecDepth 20000 in
theorem gL_law_X3_tear : GoodIn wsL_law (wsV RL 106 RX3 yX3_tear wsX3_tear) := goodIn_app (goodIn_of _ (by decide +kernel)) ggL_law_X3_tear
set_option maxRecDepth 20000 in
theorem ggL_law_X2_seed : GoodIn wsL_law wsX2_seed := goodIn_r _ [665, 89, 16, 686, 687, 688, 689, 690, 691, 692, 693, 694, 695] (by decide +kernel) (by decide +kernel)
set_option maxRecDepth 20000 in
theorem gL_law_X2_seed : GoodIn wsL_law (wsV RL 107 RX2 yX2_seed wsX2_seed) := goodIn_app (goodIn_of _ (by decide +kernel)) ggL_law_X2_seed
set_option maxRecDepth 20000 in
theorem ggL_law_X3_seed : GoodIn wsL_law wsX3_seed := goodIn_r _ [669, 137, 587, 696, 697, 698, 699, 700, 701, 702, 703] (by decide +kernel) (by decide +kernel)
set_option maxRecDepth 20000 in
theorem gL_law_X3_seed : GoodIn wsL_law (wsV RL 110 RX3 yX3_seed wsX3_seed) := goodIn_app (goodIn_of _ (by decide +kernel)) ggL_law_X3_seed
set_option maxRecDepth 20000 in
theorem ggL_law_X2_keep : GoodIn wsL_law wsX2_keep := goodIn_r _ [673, 219, 20, 15, 22, 16, 24, 19, 298, 299, 2, 300, 308, 309, 310, 14, 311, 30, 31, 32, 33, 34, 35, 36, 37, 38, 39, 40, 41, 42, 43, 44, 45, 46, 312, 313, 314, 315, 50, 316, 317, 318, 49, 319, 54, 55, 320, 56, 57, 58, 686, 687, 688, 689, 690, 691, 692, 693, 694, 695, 704, 705, 706, 707, 708, 709, 710, 711, 712, 713, 714, 715, 716, 717, 718, 719, 720, 721, 722, 723, 724, 725, 726] (by decide +kernel) (by decide +kernel)
set_option maxRecDepth 20000 in
theorem gL_law_X2_keep : GoodIn wsL_law (wsV RL 111 RX2 yX2_keep wsX2_keep) := goodIn_app (goodIn_of _ (by decide +kernel)) ggL_law_X2_keep
set_option maxRecDepth 20000 in
theorem ggL_law_X3_keep : GoodIn wsL_law wsX3_keep := goodIn_r _ [677, 239, 67, 64, 66, 587, 136, 243, 244, 5, 245, 394, 395, 396, 696, 697, 698, 699, 700, 701, 702, 703] (by decide +kernel) (by decide +kernel)
set_option maxRecDepth 20000 in
theorem gL_law_X3_keep : GoodIn wsL_law (wsV RL 114 RX3 yX3_keep wsX3_keep) := goodIn_app (goodIn_of _ (by decide +kernel)) ggL_law_X3_keep
set_option maxRecDepth 20000 in
theorem ggL_law_X2_goBack : GoodIn wsL_law wsX2_goBack := goodIn_r _ [681, 219, 24, 596, 15, 20, 22, 16, 19, 298, 299, 2, 300, 308, 309, 310, 14, 311, 30, 31, 32, 33, 34, 35, 36, 37, 38, 39, 40, 41, 42, 43, 44, 45, 46, 312, 313, 314, 315, 50, 316, 317, 318, 49, 319, 54, 55, 320, 56, 57, 58, 686, 687, 688, 689, 690, 691, 692, 693, 694, 695, 704, 705, 706, 707, 708, 709, 710, 711, 712, 713, 714, 715, 716, 717, 718, 719, 720, 721, 722, 723, 724, 725, 726] (by decide +kernel) (by decide +kernel)
set_option maxRecDepth 20000 in
theorem gL_law_X2_goBack : GoodIn wsL_law (wsV RL 115 RX2 yX2_goBack wsX2_goBack) := goodIn_app (goodIn_of _ (by decide +kernel)) ggL_law_X2_goBack
set_option maxRecDepth 20000 in
theorem ggL_law_X3_goBack : GoodIn wsL_law wsX3_goBack := goodIn_r _ [685, 239, 67, 601, 66, 64, 587, 136, 243, 244, 5, 245, 394, 395, 396, 696, 697, 698, 699, 700, 701, 702, 703] (by decide +kernel) (by decide +kernel)
set_option maxRecDepth 20000 in
theorem gL_law_X3_goBack : GoodIn wsL_law (wsV RL 118 RX3 yX3_goBack wsX3_goBack) := goodIn_app (goodIn_of _ (by decide +kernel)) ggL_law_X3_goBack
