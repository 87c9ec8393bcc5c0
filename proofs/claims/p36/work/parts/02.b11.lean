set_option maxRecDepth 20000 in
theorem gL_law_L_act : GoodIn wsL_law (va_wsS RL 89 yL_act wsL_act) := goodIn_app (goodIn_of _ (by decide +kernel)) ggL_law_L_act
set_option maxRecDepth 20000 in
theorem ggL_law_X2_digest : GoodIn wsL_law wsX2_digest := goodIn_ca (goodIn_r _ [297, 298, 299, 17, 96, 300, 301, 302, 2, 303, 304, 305, 306, 307, 266, 267, 268, 16, 269, 81, 33, 308, 309, 310, 311, 200, 312, 313, 314, 315, 244, 4, 5, 6, 274, 275, 276, 277, 23, 21, 22, 213, 214, 215, 258, 259, 260, 20, 261, 39, 38, 171, 165, 166, 316, 317, 318, 319, 320, 321, 322, 323, 240, 241, 242, 243, 167, 168, 169, 170, 324, 325, 326, 327, 249, 328, 329, 330, 331, 332, 333, 334, 335, 154, 156, 157, 158, 159, 94, 95, 160, 161, 162, 163, 164, 336, 337, 338, 339, 155, 340, 341, 342, 343, 344, 345, 346, 347, 101, 90, 91, 92, 93, 348, 349, 350, 351, 352, 353, 354, 355, 356, 357, 358, 359, 360, 361, 362, 363, 364, 365, 366, 367, 368, 369, 370, 371, 372, 373, 374, 375, 376, 377, 250, 251, 252, 253, 24, 254, 255, 256, 257, 131, 132, 133, 378, 379, 380, 381, 126, 127, 128, 129, 34, 130, 134, 135, 136, 137, 138, 139, 140, 141, 30, 31, 382, 383, 384, 385, 473, 474, 475, 476, 477, 478, 479, 480, 481, 482, 483, 484, 485, 486, 487, 488] (by decide +kernel) (by decide +kernel)) (goodIn_sub (fun _ h => List.mem_append_left _ (List.mem_append_right _ h)) (by decide +kernel))
set_option maxRecDepth 20000 in
theorem gL_law_X2_digest : GoodIn wsL_law (wsV RL 93 RX2 yX2_digest wsX2_digest) := goodIn_app (goodIn_of _ (by decide +kernel)) ggL_law_X2_digest
set_option maxRecDepth 20000 in
theorem ggL_law_X2_people : GoodIn wsL_law wsX2_people := goodIn_r _ [303, 17, 96, 473, 474, 475, 476, 477, 478, 479, 480, 481, 482, 483, 484, 485, 486] (by decide +kernel) (by decide +kernel)
set_option maxRecDepth 20000 in
theorem gL_law_X2_people : GoodIn wsL_law (wsV RL 97 RX2 yX2_people wsX2_people) := goodIn_app (goodIn_of _ (by decide +kernel)) ggL_law_X2_people
set_option maxRecDepth 20000 in
theorem ggL_law_X2_isAlive : GoodIn wsL_law wsX2_isAlive := goodIn_ca (goodIn_r _ [347, 17, 101, 90, 91, 92, 2, 93, 94, 95, 96, 473, 474, 475, 476, 477, 478, 479, 480, 481, 482, 483, 484, 485, 486] (by decide +kernel) (by decide +kernel)) (goodIn_sub (fun _ h => List.mem_append_left _ (List.mem_append_right _ h)) (by decide +kernel))
set_option maxRecDepth 20000 in
theorem gL_law_X2_isAlive : GoodIn wsL_law (wsV RL 99 RX2 yX2_isAlive wsX2_isAlive) := goodIn_app (goodIn_of _ (by decide +kernel)) ggL_law_X2_isAlive
set_option maxRecDepth 20000 in
theorem ggL_law_X2_degreeOf : GoodIn wsL_law wsX2_degreeOf := goodIn_ca (goodIn_r _ [391, 17, 115, 90, 91, 92, 2, 93, 94, 95, 96, 126, 127, 128, 16, 129, 34, 81, 130, 131, 132, 133, 134, 135, 136, 137, 138, 139, 140, 141, 30, 31, 473, 474, 475, 476, 477, 478, 479, 480, 481, 482, 483, 484, 485, 486] (by decide +kernel) (by decide +kernel)) (goodIn_sub (fun _ h => List.mem_append_left _ (List.mem_append_right _ h)) (by decide +kernel))
set_option maxRecDepth 20000 in
theorem gL_law_X2_degreeOf : GoodIn wsL_law (wsV RL 102 RX2 yX2_degreeOf wsX2_degreeOf) := goodIn_app (goodIn_of _ (by decide +kernel)) ggL_law_X2_degreeOf
set_option maxRecDepth 20000 in
theorem ggL_law_X2_parentOf : GoodIn wsL_law wsX2_parentOf := goodIn_ca (goodIn_r _ [351, 17, 352, 90, 91, 92, 2, 93, 94, 95, 96, 473, 474, 475, 476, 477, 478, 479, 480, 481, 482, 483, 484, 485, 486] (by decide +kernel) (by decide +kernel)) (goodIn_sub (fun _ h => List.mem_append_left _ (List.mem_append_right _ h)) (by decide +kernel))
set_option maxRecDepth 20000 in
theorem gL_law_X2_parentOf : GoodIn wsL_law (wsV RL 105 RX2 yX2_parentOf wsX2_parentOf) := goodIn_app (goodIn_of _ (by decide +kernel)) ggL_law_X2_parentOf
set_option maxRecDepth 20000 in
theorem ggL_law_X2_marriedTo : GoodIn wsL_law wsX2_marriedTo := goodIn_ca (goodIn_r _ [356, 17, 357, 90, 91, 92, 2, 93, 94, 95, 96, 473, 474, 475, 476, 477, 478, 479, 480, 481, 482, 483, 484, 485, 486] (by decide +kernel) (by decide +kernel)) (goodIn_sub (fun _ h => List.mem_append_left _ (List.mem_append_right _ h)) (by decide +kernel))
set_option maxRecDepth 20000 in
theorem gL_law_X2_marriedTo : GoodIn wsL_law (wsV RL 108 RX2 yX2_marriedTo wsX2_marriedTo) := goodIn_app (goodIn_of _ (by decide +kernel)) ggL_law_X2_marriedTo
set_option maxRecDepth 20000 in
theorem ggL_law_X2_daysLeftFor : GoodIn wsL_law wsX2_daysLeftFor := goodIn_ca (goodIn_r _ [397, 90, 91, 92, 2, 93, 94, 95, 17, 96, 240, 241, 242, 243, 21, 22, 200, 23, 244, 4, 5, 6, 213, 214, 215, 167, 168, 169, 20, 170, 39, 171, 165, 166, 473, 474, 475, 476, 477, 478, 479, 480, 481, 482, 483, 484, 485, 486, 487, 488] (by decide +kernel) (by decide +kernel)) (goodIn_sub (fun _ h => List.mem_append_left _ (List.mem_append_right _ h)) (by decide +kernel))
set_option maxRecDepth 20000 in
theorem gL_law_X2_daysLeftFor : GoodIn wsL_law (wsV RL 111 RX2 yX2_daysLeftFor wsX2_daysLeftFor) := goodIn_app (goodIn_of _ (by decide +kernel)) ggL_law_X2_daysLeftFor
set_option maxRecDepth 20000 in
theorem ggL_law_X2_kinOf : GoodIn wsL_law wsX2_kinOf := goodIn_ca (goodIn_r _ [401, 17, 90, 91, 92, 2, 93, 94, 95, 96, 160, 161, 162, 163, 126, 127, 128, 16, 129, 34, 81, 130, 131, 132, 133, 134, 135, 136, 137, 138, 139, 140, 141, 30, 31, 382, 383, 384, 385, 33, 473, 474, 475, 476, 477, 478, 479, 480, 481, 482, 483, 484, 485, 486] (by decide +kernel) (by decide +kernel)) (goodIn_sub (fun _ h => List.mem_append_left _ (List.mem_append_right _ h)) (by decide +kernel))
set_option maxRecDepth 20000 in
theorem gL_law_X2_kinOf : GoodIn wsL_law (wsV RL 119 RX2 yX2_kinOf wsX2_kinOf) := goodIn_app (goodIn_of _ (by decide +kernel)) ggL_law_X2_kinOf
set_option maxRecDepth 20000 in
theorem ggL_law_X2_daysIn : GoodIn wsL_law wsX2_daysIn := goodIn_ca (goodIn_r _ [405, 94, 95, 90, 91, 92, 2, 93, 17, 96, 250, 251, 252, 253, 24, 22, 200, 23, 254, 255, 5, 256, 21, 244, 4, 6, 257, 131, 132, 133, 213, 214, 215, 240, 241, 242, 243, 167, 168, 169, 20, 170, 39, 171, 165, 166, 258, 259, 260, 261, 38, 406, 407, 408, 409, 473, 474, 475, 476, 477, 478, 479, 480, 481, 482, 483, 484, 485, 486, 487, 488] (by decide +kernel) (by decide +kernel)) (goodIn_sub (fun _ h => List.mem_append_left _ (List.mem_append_right _ h)) (by decide +kernel))
set_option maxRecDepth 20000 in
theorem gL_law_X2_daysIn : GoodIn wsL_law (wsV RL 122 RX2 yX2_daysIn wsX2_daysIn) := goodIn_app (goodIn_of _ (by decide +kernel)) ggL_law_X2_daysIn
set_option maxRecDepth 20000 in
theorem ggL_law_X2_daysLeft : GoodIn wsL_law wsX2_daysLeft := goodIn_ca (goodIn_r _ [373, 90, 91, 92, 2, 93, 94, 95, 17, 96, 320, 321, 322, 323, 244, 4, 5, 6, 240, 241, 242, 243, 21, 22, 200, 23, 213, 214, 215, 167, 168, 169, 20, 170, 39, 171, 165, 166, 473, 474, 475, 476, 477, 478, 479, 480, 481, 482, 483, 484, 485, 486, 487, 488] (by decide +kernel) (by decide +kernel)) (goodIn_sub (fun _ h => List.mem_append_left _ (List.mem_append_right _ h)) (by decide +kernel))
set_option maxRecDepth 20000 in
theorem gL_law_X2_daysLeft : GoodIn wsL_law (wsV RL 125 RX2 yX2_daysLeft wsX2_daysLeft) := goodIn_app (goodIn_of _ (by decide +kernel)) ggL_law_X2_daysLeft
set_option maxRecDepth 20000 in
theorem ggL_law_X2_mourningsOf : GoodIn wsL_law wsX2_mourningsOf := goodIn_ca (goodIn_r _ [365, 90, 91, 92, 2, 93, 94, 95, 17, 96, 366, 367, 368, 369, 240, 241, 242, 243, 21, 22, 200, 23, 244, 4, 5, 6, 213, 214, 215, 167, 168, 169, 20, 170, 39, 171, 165, 166, 473, 474, 475, 476, 477, 478, 479, 480, 481, 482, 483, 484, 485, 486, 487, 488] (by decide +kernel) (by decide +kernel)) (goodIn_sub (fun _ h => List.mem_append_left _ (List.mem_append_right _ h)) (by decide +kernel))
set_option maxRecDepth 20000 in
theorem gL_law_X2_mourningsOf : GoodIn wsL_law (wsV RL 128 RX2 yX2_mourningsOf wsX2_mourningsOf) := goodIn_app (goodIn_of _ (by decide +kernel)) ggL_law_X2_mourningsOf
set_option maxRecDepth 20000 in
theorem ggL_law_X2_colourOf : GoodIn wsL_law wsX2_colourOf := goodIn_ca (goodIn_r _ [361, 90, 91, 92, 2, 93, 94, 95, 17, 96, 274, 275, 276, 277, 200, 23, 21, 22, 244, 4, 5, 6, 213, 214, 215, 258, 259, 260, 20, 261, 39, 38, 171, 165, 166, 473, 474, 475, 476, 477, 478, 479, 480, 481, 482, 483, 484, 485, 486, 487, 488] (by decide +kernel) (by decide +kernel)) (goodIn_sub (fun _ h => List.mem_append_left _ (List.mem_append_right _ h)) (by decide +kernel))
set_option maxRecDepth 20000 in
theorem gL_law_X2_colourOf : GoodIn wsL_law (wsV RL 131 RX2 yX2_colourOf wsX2_colourOf) := goodIn_app (goodIn_of _ (by decide +kernel)) ggL_law_X2_colourOf
set_option maxRecDepth 20000 in
theorem ggL_law_X2_colourIn : GoodIn wsL_law wsX2_colourIn := goodIn_ca (goodIn_ca (goodIn_r _ [416, 120, 121, 90, 91, 92, 2, 93, 94, 95, 17, 96, 274, 275, 276, 277, 200, 23, 21, 22, 244, 4, 5, 6, 213, 214, 215, 258, 259, 260, 20, 261, 39, 38, 171, 165, 166, 473, 474, 475, 476, 477, 478, 479, 480, 481, 482, 483, 484, 485, 486, 487, 488] (by decide +kernel) (by decide +kernel)) (goodIn_sub (fun _ h => List.mem_append_right _ h) (by decide +kernel))) (goodIn_sub (fun _ h => List.mem_append_left _ (List.mem_append_right _ h)) (by decide +kernel))
set_option maxRecDepth 20000 in
theorem gL_law_X2_colourIn : GoodIn wsL_law (wsV RL 134 RX2 yX2_colourIn wsX2_colourIn) := goodIn_app (goodIn_of _ (by decide +kernel)) ggL_law_X2_colourIn
set_option maxRecDepth 20000 in
theorem ggL_law_X2_daysUntilLighter : GoodIn wsL_law wsX2_daysUntilLighter := goodIn_ca (goodIn_r _ [377, 90, 91, 92, 2, 93, 94, 95, 17, 96, 250, 251, 252, 253, 24, 22, 200, 23, 254, 255, 5, 256, 21, 244, 4, 6, 257, 131, 132, 133, 213, 214, 215, 240, 241, 242, 243, 167, 168, 169, 20, 170, 39, 171, 165, 166, 258, 259, 260, 261, 38, 378, 379, 380, 381, 473, 474, 475, 476, 477, 478, 479, 480, 481, 482, 483, 484, 485, 486, 487, 488] (by decide +kernel) (by decide +kernel)) (goodIn_sub (fun _ h => List.mem_append_left _ (List.mem_append_right _ h)) (by decide +kernel))
set_option maxRecDepth 20000 in
theorem gL_law_X2_daysUntilLighter : GoodIn wsL_law (wsV RL 137 RX2 yX2_daysUntilLighter wsX2_daysUntilLighter) := goodIn_app (goodIn_of _ (by decide +kernel)) ggL_law_X2_daysUntilLighter
set_option maxRecDepth 20000 in
theorem ggL_law_X2_wearing : GoodIn wsL_law wsX2_wearing := goodIn_ca (goodIn_r _ [421, 94, 95, 270, 271, 272, 2, 273, 17, 96, 101, 274, 275, 276, 277, 200, 23, 21, 22, 244, 4, 5, 6, 213, 214, 215, 258, 259, 260, 20, 261, 39, 38, 171, 165, 166, 473, 474, 475, 476, 477, 478, 479, 480, 481, 482, 483, 484, 485, 486, 487, 488] (by decide +kernel) (by decide +kernel)) (goodIn_sub (fun _ h => List.mem_append_left _ (List.mem_append_right _ h)) (by decide +kernel))
set_option maxRecDepth 20000 in
theorem gL_law_X2_wearing : GoodIn wsL_law (wsV RL 140 RX2 yX2_wearing wsX2_wearing) := goodIn_app (goodIn_of _ (by decide +kernel)) ggL_law_X2_wearing
set_option maxRecDepth 20000 in
theorem ggL_law_X2_strictest : GoodIn wsL_law wsX2_strictest := goodIn_r _ [315, 17, 96, 244, 4, 5, 6, 274, 275, 276, 2, 277, 200, 23, 21, 22, 213, 214, 215, 258, 259, 260, 20, 261, 39, 38, 171, 165, 166, 473, 474, 475, 476, 477, 478, 479, 480, 481, 482, 483, 484, 485, 486, 487, 488] (by decide +kernel) (by decide +kernel)
set_option maxRecDepth 20000 in
theorem gL_law_X2_strictest : GoodIn wsL_law (wsV RL 143 RX2 yX2_strictest wsX2_strictest) := goodIn_app (goodIn_of _ (by decide +kernel)) ggL_law_X2_strictest
set_option maxRecDepth 20000 in
theorem ggL_law_X2_longestMourner : GoodIn wsL_law wsX2_longestMourner := goodIn_r _ [319, 17, 96, 320, 321, 322, 2, 323, 244, 4, 5, 6, 240, 241, 242, 243, 21, 22, 200, 23, 213, 214, 215, 167, 168, 169, 20, 170, 39, 171, 165, 166, 473, 474, 475, 476, 477, 478, 479, 480, 481, 482, 483, 484, 485, 486, 487, 488] (by decide +kernel) (by decide +kernel)
set_option maxRecDepth 20000 in
theorem gL_law_X2_longestMourner : GoodIn wsL_law (wsV RL 146 RX2 yX2_longestMourner wsX2_longestMourner) := goodIn_app (goodIn_of _ (by decide +kernel)) ggL_law_X2_longestMourner
set_option maxRecDepth 20000 in
theorem ggL_law_X2_living : GoodIn wsL_law wsX2_living := goodIn_r _ [307, 17, 266, 267, 268, 16, 269, 81, 33, 473, 474, 475, 476, 477, 478, 479, 480, 481, 482, 483, 484, 485, 486] (by decide +kernel) (by decide +kernel)
set_option maxRecDepth 20000 in
theorem gL_law_X2_living : GoodIn wsL_law (wsV RL 149 RX2 yX2_living wsX2_living) := goodIn_app (goodIn_of _ (by decide +kernel)) ggL_law_X2_living
set_option maxRecDepth 20000 in
theorem ggL_law_X2_heaviestLoss : GoodIn wsL_law wsX2_heaviestLoss := goodIn_r _ [428, 26, 17, 96, 101, 257, 131, 132, 133, 429, 430, 431, 2, 432, 25, 115, 250, 251, 252, 253, 24, 22, 200, 23, 254, 255, 5, 256, 21, 244, 4, 6, 213, 214, 215, 240, 241, 242, 243, 167, 168, 169, 20, 170, 39, 171, 165, 166, 258, 259, 260, 261, 38, 433, 434, 435, 436, 126, 127, 128, 16, 129, 34, 81, 130, 134, 135, 136, 137, 138, 139, 140, 141, 30, 31, 473, 474, 475, 476, 477, 478, 479, 480, 481, 482, 483, 484, 485, 486, 487, 488] (by decide +kernel) (by decide +kernel)
set_option maxRecDepth 20000 in
theorem gL_law_X2_heaviestLoss : GoodIn wsL_law (wsV RL 152 RX2 yX2_heaviestLoss wsX2_heaviestLoss) := goodIn_app (goodIn_of _ (by decide +kernel)) ggL_law_X2_heaviestLoss
set_option maxRecDepth 20000 in
theorem ggL_law_L_below : GoodIn wsL_law wsL_below := goodIn_r _ [62, 63] (by decide +kernel) (by decide +kernel)
set_option maxRecDepth 20000 in
theorem gL_law_L_below : GoodIn wsL_law (va_wsS RL 15 yL_below wsL_below) := goodIn_app (goodIn_of _ (by decide +kernel)) ggL_law_L_below
set_option maxRecDepth 20000 in
theorem ggL_law_X2_wouldMourn : GoodIn wsL_law wsX2_wouldMourn := goodIn_ca (goodIn_ca (goodIn_r _ [440, 17, 96, 90, 91, 92, 2, 93, 94, 95, 97, 98, 99, 100, 75, 76, 101, 126, 127, 128, 16, 129, 34, 81, 130, 131, 132, 133, 134, 135, 136, 137, 138, 139, 140, 141, 30, 31, 220, 221, 222, 223, 21, 115, 167, 168, 169, 20, 170, 39, 171, 165, 166, 473, 474, 475, 476, 477, 478, 479, 480, 481, 482, 483, 484, 485, 486, 487, 488] (by decide +kernel) (by decide +kernel)) (goodIn_sub (fun _ h => List.mem_append_left _ (List.mem_append_right _ h)) (by decide +kernel))) (goodIn_sub (fun _ h => List.mem_append_left _ (List.mem_append_left _ (List.mem_append_right _ h))) (by decide +kernel))
set_option maxRecDepth 20000 in
theorem gL_law_X2_wouldMourn : GoodIn wsL_law (wsV RL 155 RX2 yX2_wouldMourn wsX2_wouldMourn) := goodIn_app (goodIn_of _ (by decide +kernel)) ggL_law_X2_wouldMourn
set_option maxRecDepth 20000 in
theorem ggL_law_X2_wouldWear : GoodIn wsL_law wsX2_wouldWear := goodIn_ca (goodIn_ca (goodIn_ca (goodIn_r _ [444, 17, 21, 115, 244, 4, 5, 6, 90, 91, 92, 2, 93, 94, 95, 96, 116, 117, 118, 119, 120, 121, 97, 98, 99, 100, 75, 76, 101, 126, 127, 128, 16, 129, 34, 81, 130, 131, 132, 133, 134, 135, 136, 137, 138, 139, 140, 141, 30, 31, 258, 259, 260, 20, 261, 39, 38, 171, 165, 166, 274, 275, 276, 277, 200, 23, 22, 213, 214, 215, 473, 474, 475, 476, 477, 478, 479, 480, 481, 482, 483, 484, 485, 486, 487, 488] (by decide +kernel) (by decide +kernel)) (goodIn_sub (fun _ h => List.mem_append_left _ (List.mem_append_right _ h)) (by decide +kernel))) (goodIn_sub (fun _ h => List.mem_append_right _ h) (by decide +kernel))) (goodIn_sub (fun _ h => List.mem_append_left _ (List.mem_append_left _ (List.mem_append_right _ h))) (by decide +kernel))
set_option maxRecDepth 20000 in
theorem gL_law_X2_wouldWear : GoodIn wsL_law (wsV RL 158 RX2 yX2_wouldWear wsX2_wouldWear) := goodIn_app (goodIn_of _ (by decide +kernel)) ggL_law_X2_wouldWear
set_option maxRecDepth 20000 in
theorem ggL_law_X2_die : GoodIn wsL_law wsX2_die := goodIn_ca (goodIn_ca (goodIn_r _ [199, 17, 101, 23, 200, 21, 90, 91, 92, 2, 93, 94, 95, 96, 97, 98, 99, 100, 75, 76, 201, 202, 203, 20, 204, 38, 205, 206, 207, 208, 39, 171, 165, 166, 209, 210, 211, 212, 22, 213, 214, 215, 216, 217, 218, 219, 115, 126, 127, 128, 16, 129, 34, 81, 130, 131, 132, 133, 134, 135, 136, 137, 138, 139, 140, 141, 30, 31, 220, 221, 222, 223, 167, 168, 169, 170, 473, 474, 475, 476, 477, 478, 479, 480, 481, 482, 483, 484, 485, 486, 487, 488] (by decide +kernel) (by decide +kernel)) (goodIn_sub (fun _ h => List.mem_append_left _ (List.mem_append_right _ h)) (by decide +kernel))) (goodIn_sub (fun _ h => List.mem_append_left _ (List.mem_append_left _ (List.mem_append_right _ h))) (by decide +kernel))
set_option maxRecDepth 20000 in
theorem gL_law_X2_die : GoodIn wsL_law (wsV RL 65 RX2 yX2_die wsX2_die) := goodIn_app (goodIn_of _ (by decide +kernel)) ggL_law_X2_die
set_option maxRecDepth 20000 in
theorem ggL_law_X3_die : GoodIn wsL_law wsX3_die := goodIn_r _ [187, 52, 55, 53, 188, 189, 190, 46, 191, 54, 7, 192, 193, 103, 104, 105, 106, 194, 173, 174, 175, 195, 65, 66, 489, 490, 491, 492, 493] (by decide +kernel) (by decide +kernel)
set_option maxRecDepth 20000 in
theorem gL_law_X3_die : GoodIn wsL_law (wsV RL 62 RX3 yX3_die wsX3_die) := goodIn_app (goodIn_of _ (by decide +kernel)) ggL_law_X3_die
set_option maxRecDepth 20000 in
theorem ggL_law_X2_daysWorn : GoodIn wsL_law wsX2_daysWorn := goodIn_r _ [327, 249, 473, 474, 475, 476, 477, 478, 479, 480, 481] (by decide +kernel) (by decide +kernel)
set_option maxRecDepth 20000 in
theorem gL_law_X2_daysWorn : GoodIn wsL_law (wsV RL 161 RX2 yX2_daysWorn wsX2_daysWorn) := goodIn_app (goodIn_of _ (by decide +kernel)) ggL_law_X2_daysWorn
set_option maxRecDepth 20000 in
theorem ggL_law_X2_pass : GoodIn wsL_law wsX2_pass := goodIn_ca (goodIn_r _ [248, 120, 121, 17, 96, 249, 200, 250, 251, 252, 2, 253, 24, 22, 23, 254, 255, 5, 256, 21, 244, 4, 6, 257, 131, 132, 133, 213, 214, 215, 240, 241, 242, 243, 167, 168, 169, 20, 170, 39, 171, 165, 166, 258, 259, 260, 261, 38, 262, 263, 264, 265, 266, 267, 268, 16, 269, 81, 33, 270, 271, 272, 273, 101, 274, 275, 276, 277, 473, 474, 475, 476, 477, 478, 479, 480, 481, 482, 483, 484, 485, 486, 487, 488] (by decide +kernel) (by decide +kernel)) (goodIn_sub (fun _ h => List.mem_append_right _ h) (by decide +kernel))
set_option maxRecDepth 20000 in
theorem gL_law_X2_pass : GoodIn wsL_law (wsV RL 75 RX2 yX2_pass wsX2_pass) := goodIn_app (goodIn_of _ (by decide +kernel)) ggL_law_X2_pass
set_option maxRecDepth 20000 in
theorem ggL_law_X3_pass : GoodIn wsL_law wsX3_pass := goodIn_r _ [281, 282, 192, 52, 55, 283, 284, 285, 46, 286, 53, 287, 288, 289, 290, 228, 4, 5, 6, 291, 292, 293, 229, 230, 231, 195, 65, 66, 489, 490, 491, 492, 493] (by decide +kernel) (by decide +kernel)
set_option maxRecDepth 20000 in
theorem gL_law_X3_pass : GoodIn wsL_law (wsV RL 78 RX3 yX3_pass wsX3_pass) := goodIn_app (goodIn_of _ (by decide +kernel)) ggL_law_X3_pass
