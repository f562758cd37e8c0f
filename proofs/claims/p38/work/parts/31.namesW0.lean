set_option maxRecDepth 20000 in
theorem ggL_law_X0_init : GoodIn wsL_law wsX0_init := goodIn_r _ [14, 15, 16, 17, 3, 18, 19, 20, 21, 22, 23, 24, 25, 26, 27, 28, 29, 30, 31, 434, 435, 436, 437, 438, 439, 440, 441, 442, 443, 444, 445, 446, 447, 448, 449, 450, 451] (by decide +kernel) (by decide +kernel)
set_option maxRecDepth 20000 in
theorem gL_law_X0_init : GoodIn wsL_law (wsX0_init) := ggL_law_X0_init
set_option maxRecDepth 20000 in
theorem ggL_law_L_cell : GoodIn wsL_law wsL_cell := goodIn_r _ [47, 48] (by decide +kernel) (by decide +kernel)
set_option maxRecDepth 20000 in
theorem gL_law_L_cell : GoodIn wsL_law (va_wsS RL 81 yL_cell wsL_cell) := goodIn_app (goodIn_of _ (by decide +kernel)) ggL_law_L_cell
set_option maxRecDepth 20000 in
theorem ggL_law_X0_digest : GoodIn wsL_law wsX0_digest := goodIn_ca (goodIn_r _ [230, 231, 67, 163, 232, 233, 234, 2, 235, 236, 237, 238, 239, 240, 241, 242, 243, 68, 244, 245, 246, 247, 248, 249, 250, 251, 252, 253, 254, 128, 255, 256, 257, 258, 259, 260, 261, 262, 29, 92, 93, 94, 134, 135, 136, 137, 75, 76, 77, 263, 264, 265, 266, 267, 268, 269, 270, 271, 9, 6, 10, 223, 224, 225, 226, 24, 25, 119, 5, 7, 22, 183, 184, 185, 186, 21, 20, 272, 273, 274, 275, 88, 89, 90, 91, 23, 276, 277, 278, 279, 30, 280, 281, 282, 283, 26, 194, 195, 196, 197, 31, 284, 285, 286, 287, 288, 289, 290, 291, 99, 100, 101, 102, 103, 104, 292, 293, 294, 295, 296, 297, 298, 299, 300, 301, 302, 303, 28, 108, 109, 110, 304, 305, 306, 307, 219, 220, 221, 222, 308, 309, 310, 311, 130, 131, 132, 133, 312, 313, 314, 315, 155, 156, 157, 158, 316, 317, 318, 319, 320, 321, 322, 323, 324, 325, 326, 327, 328, 329, 330, 331, 175, 176, 177, 178, 332, 333, 334, 335, 434, 435, 436, 437, 438, 439, 440, 441, 442, 443, 444, 445, 446, 447, 448, 449, 450, 451] (by decide +kernel) (by decide +kernel)) (goodIn_sub (fun _ h => List.mem_append_right _ h) (by decide +kernel))
set_option maxRecDepth 20000 in
theorem gL_law_X0_digest : GoodIn wsL_law (wsV RL 94 RX0 yX0_digest wsX0_digest) := goodIn_app (goodIn_of _ (by decide +kernel)) ggL_law_X0_digest
set_option maxRecDepth 20000 in
theorem ggL_law_X0_places : GoodIn wsL_law wsX0_places := goodIn_r _ [235, 67, 434, 435, 436, 437, 438, 439, 440, 441, 442, 443, 444, 445, 446, 447, 448, 449, 450, 451] (by decide +kernel) (by decide +kernel)
set_option maxRecDepth 20000 in
theorem gL_law_X0_places : GoodIn wsL_law (wsV RL 98 RX0 yX0_places wsX0_places) := goodIn_app (goodIn_of _ (by decide +kernel)) ggL_law_X0_places
