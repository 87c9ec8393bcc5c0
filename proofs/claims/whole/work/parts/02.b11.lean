set_option maxRecDepth 20000 in
theorem gL_law_L_setStage : GoodIn wsL_law (va_wsS RL 113 yL_setStage wsL_setStage) := goodIn_app (goodIn_of _ (by decide +kernel)) ggL_law_L_setStage
set_option maxRecDepth 20000 in
theorem ggL_law_X3_setStage : GoodIn wsL_law wsX3_setStage := goodIn_r _ [224, 80, 47, 48, 225, 226, 5, 227, 122, 123, 124, 228, 229, 230, 82, 83, 84, 85, 231, 232, 233, 234, 235, 236, 237, 754, 755, 756, 757, 758, 759, 760, 761, 762, 763, 764, 765] (by decide +kernel) (by decide +kernel)
set_option maxRecDepth 20000 in
theorem gL_law_X3_setStage : GoodIn wsL_law (wsV RL 116 RX3 yX3_setStage wsX3_setStage) := goodIn_app (goodIn_of _ (by decide +kernel)) ggL_law_X3_setStage
set_option maxRecDepth 20000 in
theorem ggL_law_L_die : GoodIn wsL_law wsL_die := goodIn_ca (goodIn_ca (goodIn_r _ [240, 97, 56, 241, 242, 243, 2, 244, 16, 113, 23, 245, 20, 102, 103, 104, 105, 106, 107, 108, 109, 110, 111, 112, 65, 66, 246, 247, 248, 19, 249, 38, 250, 251, 252, 253, 39, 220, 214, 215, 254, 255, 256, 257, 22, 258, 259, 260, 261, 262, 263, 264, 133, 144, 145, 146, 15, 147, 34, 71, 148, 149, 150, 151, 152, 153, 154, 155, 156, 157, 158, 159, 30, 31, 265, 266, 267, 268, 216, 217, 218, 219, 745, 746, 747, 748, 749, 750, 751, 752, 753, 766, 767, 768, 769, 770, 771, 772] (by decide +kernel) (by decide +kernel)) (goodIn_sub (fun _ h => List.mem_append_left _ (List.mem_append_right _ h)) (by decide +kernel))) (goodIn_sub (fun _ h => List.mem_append_left _ (List.mem_append_left _ (List.mem_append_right _ h))) (by decide +kernel))
set_option maxRecDepth 20000 in
theorem gL_law_L_die : GoodIn wsL_law (va_wsS RL 117 yL_die wsL_die) := goodIn_app (goodIn_of _ (by decide +kernel)) ggL_law_L_die
set_option maxRecDepth 20000 in
theorem ggL_law_X3_die : GoodIn wsL_law wsX3_die := goodIn_r _ [272, 80, 46, 118, 119, 120, 5, 121, 81, 122, 123, 124, 82, 83, 84, 85, 273, 274, 275, 276, 49, 50, 277, 278, 279, 280, 184, 185, 186, 187, 188, 189, 190, 191, 44, 45, 281, 282, 283, 284, 234, 235, 236, 237, 48, 231, 232, 233, 285, 286, 287, 288, 289, 290, 291, 292, 47, 754, 755, 756, 757, 758, 759, 760, 761, 762, 763, 764, 765] (by decide +kernel) (by decide +kernel)
set_option maxRecDepth 20000 in
theorem gL_law_X3_die : GoodIn wsL_law (wsV RL 119 RX3 yX3_die wsX3_die) := goodIn_app (goodIn_of _ (by decide +kernel)) ggL_law_X3_die
set_option maxRecDepth 20000 in
theorem ggL_law_L_release : GoodIn wsL_law wsL_release := goodIn_ca (goodIn_ca (goodIn_r _ [295, 97, 56, 296, 297, 298, 2, 299, 65, 66, 22, 102, 103, 104, 105, 106, 107, 16, 108, 300, 301, 302, 303, 20, 245, 23, 304, 181, 182, 183, 258, 259, 260, 216, 217, 218, 19, 219, 39, 220, 214, 215, 745, 746, 747, 748, 749, 750, 751, 752, 753, 766, 767, 768, 769, 770, 771, 772] (by decide +kernel) (by decide +kernel)) (goodIn_sub (fun _ h => List.mem_append_left _ (List.mem_append_left _ (List.mem_append_right _ h))) (by decide +kernel))) (goodIn_sub (fun _ h => List.mem_append_left _ (List.mem_append_right _ h)) (by decide +kernel))
set_option maxRecDepth 20000 in
theorem gL_law_L_release : GoodIn wsL_law (va_wsS RL 120 yL_release wsL_release) := goodIn_app (goodIn_of _ (by decide +kernel)) ggL_law_L_release
set_option maxRecDepth 20000 in
theorem ggL_law_X3_release : GoodIn wsL_law wsX3_release := goodIn_r _ [308, 80, 49, 118, 119, 120, 5, 121, 81, 122, 123, 124, 82, 83, 84, 85, 309, 310, 311, 312, 292, 180, 181, 182, 183, 285, 286, 287, 754, 755, 756, 757, 758, 759, 760, 761, 762, 763, 764, 765] (by decide +kernel) (by decide +kernel)
set_option maxRecDepth 20000 in
theorem gL_law_X3_release : GoodIn wsL_law (wsV RL 122 RX3 yX3_release wsX3_release) := goodIn_app (goodIn_of _ (by decide +kernel)) ggL_law_X3_release
set_option maxRecDepth 20000 in
theorem ggL_law_L_pass : GoodIn wsL_law wsL_pass := goodIn_ca (goodIn_r _ [315, 128, 316, 317, 318, 2, 319, 138, 139, 16, 108, 320, 245, 321, 322, 323, 324, 24, 22, 23, 325, 326, 182, 327, 20, 304, 181, 183, 328, 149, 150, 151, 258, 259, 260, 300, 301, 302, 303, 216, 217, 218, 19, 219, 39, 220, 214, 215, 329, 330, 331, 332, 38, 333, 334, 335, 336, 337, 338, 339, 15, 340, 71, 33, 341, 342, 343, 344, 113, 345, 346, 347, 348, 745, 746, 747, 748, 749, 750, 751, 752, 753, 766, 767, 768, 769, 770, 771, 772] (by decide +kernel) (by decide +kernel)) (goodIn_sub (fun _ h => List.mem_append_right _ h) (by decide +kernel))
set_option maxRecDepth 20000 in
theorem gL_law_L_pass : GoodIn wsL_law (va_wsS RL 123 yL_pass wsL_pass) := goodIn_app (goodIn_of _ (by decide +kernel)) ggL_law_L_pass
set_option maxRecDepth 20000 in
theorem ggL_law_X3_pass : GoodIn wsL_law wsX3_pass := goodIn_r _ [352, 80, 122, 123, 5, 124, 353, 354, 355, 356, 357, 292, 358, 359, 360, 361, 81, 362, 363, 364, 365, 49, 180, 181, 182, 183, 285, 286, 287, 366, 367, 368, 82, 83, 84, 85, 754, 755, 756, 757, 758, 759, 760, 761, 762, 763, 764, 765] (by decide +kernel) (by decide +kernel)
set_option maxRecDepth 20000 in
theorem gL_law_X3_pass : GoodIn wsL_law (wsV RL 125 RX3 yX3_pass wsX3_pass) := goodIn_app (goodIn_of _ (by decide +kernel)) ggL_law_X3_pass
set_option maxRecDepth 20000 in
theorem ggL_law_X2_people : GoodIn wsL_law wsX2_people := goodIn_r _ [372, 16, 108, 745, 746, 747, 748, 749, 750, 751, 752, 753, 766, 767, 768, 769, 770] (by decide +kernel) (by decide +kernel)
set_option maxRecDepth 20000 in
theorem gL_law_X2_people : GoodIn wsL_law (wsV RL 126 RX2 yX2_people wsX2_people) := goodIn_app (goodIn_of _ (by decide +kernel)) ggL_law_X2_people
set_option maxRecDepth 20000 in
theorem ggL_law_X3_people : GoodIn wsL_law wsX3_people := goodIn_r _ [376, 81, 377, 378, 379, 5, 380, 80, 754, 755, 756, 757, 758, 759, 760, 761, 762, 763, 764, 765] (by decide +kernel) (by decide +kernel)
set_option maxRecDepth 20000 in
theorem gL_law_X3_people : GoodIn wsL_law (wsV RL 129 RX3 yX3_people wsX3_people) := goodIn_app (goodIn_of _ (by decide +kernel)) ggL_law_X3_people
set_option maxRecDepth 20000 in
theorem ggL_law_X2_living : GoodIn wsL_law wsX2_living := goodIn_r _ [384, 16, 337, 338, 339, 15, 340, 71, 33, 745, 746, 747, 748, 749, 750, 751, 752, 753, 766, 767, 768, 769, 770] (by decide +kernel) (by decide +kernel)
set_option maxRecDepth 20000 in
theorem gL_law_X2_living : GoodIn wsL_law (wsV RL 130 RX2 yX2_living wsX2_living) := goodIn_app (goodIn_of _ (by decide +kernel)) ggL_law_X2_living
set_option maxRecDepth 20000 in
theorem ggL_law_X3_living : GoodIn wsL_law wsX3_living := goodIn_r _ [388, 389, 390, 391, 5, 392, 81, 46, 377, 378, 379, 380, 80, 754, 755, 756, 757, 758, 759, 760, 761, 762, 763, 764, 765] (by decide +kernel) (by decide +kernel)
set_option maxRecDepth 20000 in
theorem gL_law_X3_living : GoodIn wsL_law (wsV RL 133 RX3 yX3_living wsX3_living) := goodIn_app (goodIn_of _ (by decide +kernel)) ggL_law_X3_living
set_option maxRecDepth 20000 in
theorem ggL_law_L_isAlive : GoodIn wsL_law wsL_isAlive := goodIn_ca (goodIn_r _ [395, 97, 396, 397, 398, 2, 399, 16, 113, 102, 103, 104, 105, 106, 107, 108, 745, 746, 747, 748, 749, 750, 751, 752, 753, 766, 767, 768, 769, 770] (by decide +kernel) (by decide +kernel)) (goodIn_sub (fun _ h => List.mem_append_left _ (List.mem_append_right _ h)) (by decide +kernel))
set_option maxRecDepth 20000 in
theorem gL_law_L_isAlive : GoodIn wsL_law (va_wsS RL 134 yL_isAlive wsL_isAlive) := goodIn_app (goodIn_of _ (by decide +kernel)) ggL_law_L_isAlive
set_option maxRecDepth 20000 in
theorem ggL_law_X3_isAlive : GoodIn wsL_law wsX3_isAlive := goodIn_r _ [403, 80, 46, 118, 119, 120, 5, 121, 81, 122, 123, 124, 404, 405, 406, 407, 754, 755, 756, 757, 758, 759, 760, 761, 762, 763, 764, 765] (by decide +kernel) (by decide +kernel)
set_option maxRecDepth 20000 in
theorem gL_law_X3_isAlive : GoodIn wsL_law (wsV RL 136 RX3 yX3_isAlive wsX3_isAlive) := goodIn_app (goodIn_of _ (by decide +kernel)) ggL_law_X3_isAlive
set_option maxRecDepth 20000 in
theorem ggL_law_L_parentOf : GoodIn wsL_law wsL_parentOf := goodIn_ca (goodIn_r _ [410, 97, 411, 412, 413, 2, 414, 16, 415, 102, 103, 104, 105, 106, 107, 108, 745, 746, 747, 748, 749, 750, 751, 752, 753, 766, 767, 768, 769, 770] (by decide +kernel) (by decide +kernel)) (goodIn_sub (fun _ h => List.mem_append_left _ (List.mem_append_right _ h)) (by decide +kernel))
set_option maxRecDepth 20000 in
theorem gL_law_L_parentOf : GoodIn wsL_law (va_wsS RL 137 yL_parentOf wsL_parentOf) := goodIn_app (goodIn_of _ (by decide +kernel)) ggL_law_L_parentOf
set_option maxRecDepth 20000 in
theorem ggL_law_X3_parentOf : GoodIn wsL_law wsX3_parentOf := goodIn_r _ [419, 80, 44, 118, 119, 120, 5, 121, 81, 122, 123, 124, 82, 83, 84, 85, 754, 755, 756, 757, 758, 759, 760, 761, 762, 763, 764, 765] (by decide +kernel) (by decide +kernel)
set_option maxRecDepth 20000 in
theorem gL_law_X3_parentOf : GoodIn wsL_law (wsV RL 139 RX3 yX3_parentOf wsX3_parentOf) := goodIn_app (goodIn_of _ (by decide +kernel)) ggL_law_X3_parentOf
set_option maxRecDepth 20000 in
theorem ggL_law_L_marriedTo : GoodIn wsL_law wsL_marriedTo := goodIn_ca (goodIn_r _ [422, 97, 423, 424, 425, 2, 426, 16, 427, 102, 103, 104, 105, 106, 107, 108, 745, 746, 747, 748, 749, 750, 751, 752, 753, 766, 767, 768, 769, 770] (by decide +kernel) (by decide +kernel)) (goodIn_sub (fun _ h => List.mem_append_left _ (List.mem_append_right _ h)) (by decide +kernel))
set_option maxRecDepth 20000 in
theorem gL_law_L_marriedTo : GoodIn wsL_law (va_wsS RL 140 yL_marriedTo wsL_marriedTo) := goodIn_app (goodIn_of _ (by decide +kernel)) ggL_law_L_marriedTo
set_option maxRecDepth 20000 in
theorem ggL_law_X3_marriedTo : GoodIn wsL_law wsX3_marriedTo := goodIn_r _ [431, 80, 45, 118, 119, 120, 5, 121, 81, 122, 123, 124, 82, 83, 84, 85, 754, 755, 756, 757, 758, 759, 760, 761, 762, 763, 764, 765] (by decide +kernel) (by decide +kernel)
set_option maxRecDepth 20000 in
theorem gL_law_X3_marriedTo : GoodIn wsL_law (wsV RL 142 RX3 yX3_marriedTo wsX3_marriedTo) := goodIn_app (goodIn_of _ (by decide +kernel)) ggL_law_X3_marriedTo
set_option maxRecDepth 20000 in
theorem ggL_law_L_degreeOf : GoodIn wsL_law wsL_degreeOf := goodIn_ca (goodIn_r _ [434, 97, 435, 436, 437, 2, 438, 16, 133, 102, 103, 104, 105, 106, 107, 108, 144, 145, 146, 15, 147, 34, 71, 148, 149, 150, 151, 152, 153, 154, 155, 156, 157, 158, 159, 30, 31, 745, 746, 747, 748, 749, 750, 751, 752, 753, 766, 767, 768, 769, 770] (by decide +kernel) (by decide +kernel)) (goodIn_sub (fun _ h => List.mem_append_left _ (List.mem_append_right _ h)) (by decide +kernel))
set_option maxRecDepth 20000 in
theorem gL_law_L_degreeOf : GoodIn wsL_law (va_wsS RL 143 yL_degreeOf wsL_degreeOf) := goodIn_app (goodIn_of _ (by decide +kernel)) ggL_law_L_degreeOf
set_option maxRecDepth 20000 in
theorem ggL_law_X3_degreeOf : GoodIn wsL_law wsX3_degreeOf := goodIn_r _ [442, 80, 118, 119, 120, 5, 121, 81, 122, 123, 124, 176, 177, 178, 179, 50, 180, 181, 182, 183, 184, 185, 186, 187, 188, 189, 190, 191, 44, 45, 82, 83, 84, 85, 754, 755, 756, 757, 758, 759, 760, 761, 762, 763, 764, 765] (by decide +kernel) (by decide +kernel)
set_option maxRecDepth 20000 in
theorem gL_law_X3_degreeOf : GoodIn wsL_law (wsV RL 145 RX3 yX3_degreeOf wsX3_degreeOf) := goodIn_app (goodIn_of _ (by decide +kernel)) ggL_law_X3_degreeOf
set_option maxRecDepth 20000 in
theorem ggL_law_L_kinOf : GoodIn wsL_law wsL_kinOf := goodIn_ca (goodIn_r _ [445, 97, 446, 447, 448, 2, 449, 16, 102, 103, 104, 105, 106, 107, 108, 209, 210, 211, 212, 144, 145, 146, 15, 147, 34, 71, 148, 149, 150, 151, 152, 153, 154, 155, 156, 157, 158, 159, 30, 31, 450, 451, 452, 453, 33, 745, 746, 747, 748, 749, 750, 751, 752, 753, 766, 767, 768, 769, 770] (by decide +kernel) (by decide +kernel)) (goodIn_sub (fun _ h => List.mem_append_left _ (List.mem_append_right _ h)) (by decide +kernel))
set_option maxRecDepth 20000 in
theorem gL_law_L_kinOf : GoodIn wsL_law (va_wsS RL 146 yL_kinOf wsL_kinOf) := goodIn_app (goodIn_of _ (by decide +kernel)) ggL_law_L_kinOf
set_option maxRecDepth 20000 in
theorem ggL_law_X3_kinOf : GoodIn wsL_law wsX3_kinOf := goodIn_r _ [457, 80, 118, 119, 120, 5, 121, 81, 122, 123, 124, 225, 226, 227, 458, 459, 460, 461, 46, 50, 184, 185, 186, 187, 188, 189, 190, 191, 44, 45, 82, 83, 84, 85, 754, 755, 756, 757, 758, 759, 760, 761, 762, 763, 764, 765] (by decide +kernel) (by decide +kernel)
set_option maxRecDepth 20000 in
theorem gL_law_X3_kinOf : GoodIn wsL_law (wsV RL 148 RX3 yX3_kinOf wsX3_kinOf) := goodIn_app (goodIn_of _ (by decide +kernel)) ggL_law_X3_kinOf
set_option maxRecDepth 20000 in
theorem ggL_law_L_stageColour : GoodIn wsL_law wsL_stageColour := goodIn_ca (goodIn_r _ [464, 97, 465, 466, 467, 2, 468, 20, 203, 205, 206, 207, 208, 106, 107, 209, 210, 211, 212, 213, 214, 19, 215, 745, 746, 747, 748, 749, 750, 751, 752, 753, 771, 772] (by decide +kernel) (by decide +kernel)) (goodIn_sub (fun _ h => List.mem_append_left _ (List.mem_append_right _ h)) (by decide +kernel))
set_option maxRecDepth 20000 in
theorem gL_law_L_stageColour : GoodIn wsL_law (va_wsS RL 149 yL_stageColour wsL_stageColour) := goodIn_app (goodIn_of _ (by decide +kernel)) ggL_law_L_stageColour
set_option maxRecDepth 20000 in
theorem ggL_law_X3_stageColour : GoodIn wsL_law wsX3_stageColour := goodIn_r _ [472, 80, 47, 225, 226, 5, 227, 122, 123, 124, 228, 229, 230, 231, 232, 233, 82, 83, 84, 85, 754, 755, 756, 757, 758, 759, 760, 761, 762, 763, 764, 765] (by decide +kernel) (by decide +kernel)
set_option maxRecDepth 20000 in
theorem gL_law_X3_stageColour : GoodIn wsL_law (wsV RL 151 RX3 yX3_stageColour wsX3_stageColour) := goodIn_app (goodIn_of _ (by decide +kernel)) ggL_law_X3_stageColour
set_option maxRecDepth 20000 in
theorem ggL_law_L_stageDays : GoodIn wsL_law wsL_stageDays := goodIn_ca (goodIn_r _ [475, 97, 476, 477, 478, 2, 479, 20, 204, 205, 206, 207, 208, 106, 107, 209, 210, 211, 212, 213, 214, 19, 215, 745, 746, 747, 748, 749, 750, 751, 752, 753, 771, 772] (by decide +kernel) (by decide +kernel)) (goodIn_sub (fun _ h => List.mem_append_left _ (List.mem_append_right _ h)) (by decide +kernel))
set_option maxRecDepth 20000 in
theorem gL_law_L_stageDays : GoodIn wsL_law (va_wsS RL 152 yL_stageDays wsL_stageDays) := goodIn_app (goodIn_of _ (by decide +kernel)) ggL_law_L_stageDays
set_option maxRecDepth 20000 in
theorem ggL_law_X3_stageDays : GoodIn wsL_law wsX3_stageDays := goodIn_r _ [483, 80, 48, 225, 226, 5, 227, 122, 123, 124, 228, 229, 230, 231, 232, 233, 82, 83, 84, 85, 754, 755, 756, 757, 758, 759, 760, 761, 762, 763, 764, 765] (by decide +kernel) (by decide +kernel)
set_option maxRecDepth 20000 in
theorem gL_law_X3_stageDays : GoodIn wsL_law (wsV RL 154 RX3 yX3_stageDays wsX3_stageDays) := goodIn_app (goodIn_of _ (by decide +kernel)) ggL_law_X3_stageDays
set_option maxRecDepth 20000 in
theorem ggL_law_X2_day : GoodIn wsL_law wsX2_day := goodIn_r _ [487, 245, 745, 746, 747, 748, 749, 750, 751, 752, 753] (by decide +kernel) (by decide +kernel)
set_option maxRecDepth 20000 in
theorem gL_law_X2_day : GoodIn wsL_law (wsV RL 155 RX2 yX2_day wsX2_day) := goodIn_app (goodIn_of _ (by decide +kernel)) ggL_law_X2_day
set_option maxRecDepth 20000 in
theorem ggL_law_X3_day : GoodIn wsL_law wsX3_day := goodIn_r _ [491, 292, 377, 378, 379, 5, 380, 80, 754, 755, 756, 757, 758, 759, 760, 761, 762, 763, 764, 765] (by decide +kernel) (by decide +kernel)
set_option maxRecDepth 20000 in
theorem gL_law_X3_day : GoodIn wsL_law (wsV RL 158 RX3 yX3_day wsX3_day) := goodIn_app (goodIn_of _ (by decide +kernel)) ggL_law_X3_day
set_option maxRecDepth 20000 in
theorem ggL_law_L_colourOf : GoodIn wsL_law wsL_colourOf := goodIn_ca (goodIn_r _ [494, 97, 495, 496, 497, 2, 498, 102, 103, 104, 105, 106, 107, 16, 108, 345, 346, 347, 348, 245, 23, 20, 22, 304, 181, 182, 183, 258, 259, 260, 329, 330, 331, 19, 332, 39, 38, 220, 214, 215, 745, 746, 747, 748, 749, 750, 751, 752, 753, 766, 767, 768, 769, 770, 771, 772] (by decide +kernel) (by decide +kernel)) (goodIn_sub (fun _ h => List.mem_append_left _ (List.mem_append_right _ h)) (by decide +kernel))
set_option maxRecDepth 20000 in
theorem gL_law_L_colourOf : GoodIn wsL_law (va_wsS RL 159 yL_colourOf wsL_colourOf) := goodIn_app (goodIn_of _ (by decide +kernel)) ggL_law_L_colourOf
set_option maxRecDepth 20000 in
theorem ggL_law_X3_colourOf : GoodIn wsL_law wsX3_colourOf := goodIn_r _ [502, 80, 292, 118, 119, 120, 5, 121, 81, 122, 123, 124, 362, 363, 364, 365, 49, 180, 181, 182, 183, 285, 286, 287, 366, 367, 368, 82, 83, 84, 85, 754, 755, 756, 757, 758, 759, 760, 761, 762, 763, 764, 765] (by decide +kernel) (by decide +kernel)
set_option maxRecDepth 20000 in
theorem gL_law_X3_colourOf : GoodIn wsL_law (wsV RL 161 RX3 yX3_colourOf wsX3_colourOf) := goodIn_app (goodIn_of _ (by decide +kernel)) ggL_law_X3_colourOf
set_option maxRecDepth 20000 in
theorem ggL_law_L_colourIn : GoodIn wsL_law wsL_colourIn := goodIn_ca (goodIn_ca (goodIn_r _ [505, 97, 128, 506, 507, 508, 2, 509, 138, 139, 102, 103, 104, 105, 106, 107, 16, 108, 345, 346, 347, 348, 245, 23, 20, 22, 304, 181, 182, 183, 258, 259, 260, 329, 330, 331, 19, 332, 39, 38, 220, 214, 215, 745, 746, 747, 748, 749, 750, 751, 752, 753, 766, 767, 768, 769, 770, 771, 772] (by decide +kernel) (by decide +kernel)) (goodIn_sub (fun _ h => List.mem_append_right _ h) (by decide +kernel))) (goodIn_sub (fun _ h => List.mem_append_left _ (List.mem_append_right _ h)) (by decide +kernel))
set_option maxRecDepth 20000 in
theorem gL_law_L_colourIn : GoodIn wsL_law (va_wsS RL 162 yL_colourIn wsL_colourIn) := goodIn_app (goodIn_of _ (by decide +kernel)) ggL_law_L_colourIn
set_option maxRecDepth 20000 in
theorem ggL_law_X3_colourIn : GoodIn wsL_law wsX3_colourIn := goodIn_r _ [513, 80, 292, 118, 119, 120, 5, 121, 81, 122, 123, 124, 82, 83, 84, 85, 362, 363, 364, 365, 49, 180, 181, 182, 183, 285, 286, 287, 366, 367, 368, 754, 755, 756, 757, 758, 759, 760, 761, 762, 763, 764, 765] (by decide +kernel) (by decide +kernel)
set_option maxRecDepth 20000 in
theorem gL_law_X3_colourIn : GoodIn wsL_law (wsV RL 164 RX3 yX3_colourIn wsX3_colourIn) := goodIn_app (goodIn_of _ (by decide +kernel)) ggL_law_X3_colourIn
set_option maxRecDepth 20000 in
theorem ggL_law_L_mourningsOf : GoodIn wsL_law wsL_mourningsOf := goodIn_ca (goodIn_r _ [516, 97, 517, 518, 519, 2, 520, 102, 103, 104, 105, 106, 107, 16, 108, 521, 522, 523, 524, 300, 301, 302, 303, 20, 22, 245, 23, 304, 181, 182, 183, 258, 259, 260, 216, 217, 218, 19, 219, 39, 220, 214, 215, 745, 746, 747, 748, 749, 750, 751, 752, 753, 766, 767, 768, 769, 770, 771, 772] (by decide +kernel) (by decide +kernel)) (goodIn_sub (fun _ h => List.mem_append_left _ (List.mem_append_right _ h)) (by decide +kernel))
set_option maxRecDepth 20000 in
theorem gL_law_L_mourningsOf : GoodIn wsL_law (va_wsS RL 165 yL_mourningsOf wsL_mourningsOf) := goodIn_app (goodIn_of _ (by decide +kernel)) ggL_law_L_mourningsOf
set_option maxRecDepth 20000 in
theorem ggL_law_X3_mourningsOf : GoodIn wsL_law wsX3_mourningsOf := goodIn_r _ [528, 80, 118, 119, 120, 5, 121, 81, 122, 123, 124, 529, 530, 531, 532, 309, 310, 311, 312, 49, 292, 180, 181, 182, 183, 285, 286, 287, 82, 83, 84, 85, 754, 755, 756, 757, 758, 759, 760, 761, 762, 763, 764, 765] (by decide +kernel) (by decide +kernel)
set_option maxRecDepth 20000 in
theorem gL_law_X3_mourningsOf : GoodIn wsL_law (wsV RL 167 RX3 yX3_mourningsOf wsX3_mourningsOf) := goodIn_app (goodIn_of _ (by decide +kernel)) ggL_law_X3_mourningsOf
set_option maxRecDepth 20000 in
theorem ggL_law_L_daysLeftFor : GoodIn wsL_law wsL_daysLeftFor := goodIn_ca (goodIn_r _ [535, 97, 536, 537, 538, 2, 539, 102, 103, 104, 105, 106, 107, 16, 108, 300, 301, 302, 303, 20, 22, 245, 23, 304, 181, 182, 183, 258, 259, 260, 216, 217, 218, 19, 219, 39, 220, 214, 215, 745, 746, 747, 748, 749, 750, 751, 752, 753, 766, 767, 768, 769, 770, 771, 772] (by decide +kernel) (by decide +kernel)) (goodIn_sub (fun _ h => List.mem_append_left _ (List.mem_append_right _ h)) (by decide +kernel))
set_option maxRecDepth 20000 in
theorem gL_law_L_daysLeftFor : GoodIn wsL_law (va_wsS RL 168 yL_daysLeftFor wsL_daysLeftFor) := goodIn_app (goodIn_of _ (by decide +kernel)) ggL_law_L_daysLeftFor
set_option maxRecDepth 20000 in
theorem ggL_law_X3_daysLeftFor : GoodIn wsL_law wsX3_daysLeftFor := goodIn_r _ [543, 80, 118, 119, 120, 5, 121, 81, 122, 123, 124, 309, 310, 311, 312, 49, 292, 180, 181, 182, 183, 285, 286, 287, 82, 83, 84, 85, 754, 755, 756, 757, 758, 759, 760, 761, 762, 763, 764, 765] (by decide +kernel) (by decide +kernel)
set_option maxRecDepth 20000 in
theorem gL_law_X3_daysLeftFor : GoodIn wsL_law (wsV RL 170 RX3 yX3_daysLeftFor wsX3_daysLeftFor) := goodIn_app (goodIn_of _ (by decide +kernel)) ggL_law_X3_daysLeftFor
set_option maxRecDepth 20000 in
theorem ggL_law_L_daysLeft : GoodIn wsL_law wsL_daysLeft := goodIn_ca (goodIn_r _ [546, 97, 547, 548, 549, 2, 550, 102, 103, 104, 105, 106, 107, 16, 108, 551, 552, 553, 554, 304, 181, 182, 183, 300, 301, 302, 303, 20, 22, 245, 23, 258, 259, 260, 216, 217, 218, 19, 219, 39, 220, 214, 215, 745, 746, 747, 748, 749, 750, 751, 752, 753, 766, 767, 768, 769, 770, 771, 772] (by decide +kernel) (by decide +kernel)) (goodIn_sub (fun _ h => List.mem_append_left _ (List.mem_append_right _ h)) (by decide +kernel))
set_option maxRecDepth 20000 in
theorem gL_law_L_daysLeft : GoodIn wsL_law (va_wsS RL 171 yL_daysLeft wsL_daysLeft) := goodIn_app (goodIn_of _ (by decide +kernel)) ggL_law_L_daysLeft
set_option maxRecDepth 20000 in
theorem ggL_law_X3_daysLeft : GoodIn wsL_law wsX3_daysLeft := goodIn_r _ [558, 80, 118, 119, 120, 5, 121, 81, 122, 123, 124, 559, 560, 561, 562, 180, 181, 182, 183, 309, 310, 311, 312, 49, 292, 285, 286, 287, 82, 83, 84, 85, 754, 755, 756, 757, 758, 759, 760, 761, 762, 763, 764, 765] (by decide +kernel) (by decide +kernel)
set_option maxRecDepth 20000 in
theorem gL_law_X3_daysLeft : GoodIn wsL_law (wsV RL 173 RX3 yX3_daysLeft wsX3_daysLeft) := goodIn_app (goodIn_of _ (by decide +kernel)) ggL_law_X3_daysLeft
set_option maxRecDepth 20000 in
theorem ggL_law_L_daysUntilLighter : GoodIn wsL_law wsL_daysUntilLighter := goodIn_ca (goodIn_r _ [565, 97, 566, 567, 568, 2, 569, 102, 103, 104, 105, 106, 107, 16, 108, 321, 322, 323, 324, 24, 22, 245, 23, 325, 326, 182, 327, 20, 304, 181, 183, 328, 149, 150, 151, 258, 259, 260, 300, 301, 302, 303, 216, 217, 218, 19, 219, 39, 220, 214, 215, 329, 330, 331, 332, 38, 570, 571, 572, 573, 745, 746, 747, 748, 749, 750, 751, 752, 753, 766, 767, 768, 769, 770, 771, 772] (by decide +kernel) (by decide +kernel)) (goodIn_sub (fun _ h => List.mem_append_left _ (List.mem_append_right _ h)) (by decide +kernel))
set_option maxRecDepth 20000 in
theorem gL_law_L_daysUntilLighter : GoodIn wsL_law (va_wsS RL 174 yL_daysUntilLighter wsL_daysUntilLighter) := goodIn_app (goodIn_of _ (by decide +kernel)) ggL_law_L_daysUntilLighter
set_option maxRecDepth 20000 in
theorem ggL_law_X3_daysUntilLighter : GoodIn wsL_law wsX3_daysUntilLighter := goodIn_r _ [577, 80, 118, 119, 120, 5, 121, 81, 122, 123, 124, 578, 579, 580, 581, 292, 362, 363, 364, 365, 49, 180, 181, 182, 183, 285, 286, 287, 366, 367, 368, 82, 83, 84, 85, 754, 755, 756, 757, 758, 759, 760, 761, 762, 763, 764, 765] (by decide +kernel) (by decide +kernel)
set_option maxRecDepth 20000 in
theorem gL_law_X3_daysUntilLighter : GoodIn wsL_law (wsV RL 176 RX3 yX3_daysUntilLighter wsX3_daysUntilLighter) := goodIn_app (goodIn_of _ (by decide +kernel)) ggL_law_X3_daysUntilLighter
set_option maxRecDepth 20000 in
theorem ggL_law_L_daysIn : GoodIn wsL_law wsL_daysIn := goodIn_ca (goodIn_r _ [584, 97, 585, 586, 587, 2, 588, 106, 107, 102, 103, 104, 105, 16, 108, 321, 322, 323, 324, 24, 22, 245, 23, 325, 326, 182, 327, 20, 304, 181, 183, 328, 149, 150, 151, 258, 259, 260, 300, 301, 302, 303, 216, 217, 218, 19, 219, 39, 220, 214, 215, 329, 330, 331, 332, 38, 589, 590, 591, 592, 745, 746, 747, 748, 749, 750, 751, 752, 753, 766, 767, 768, 769, 770, 771, 772] (by decide +kernel) (by decide +kernel)) (goodIn_sub (fun _ h => List.mem_append_left _ (List.mem_append_right _ h)) (by decide +kernel))
set_option maxRecDepth 20000 in
theorem gL_law_L_daysIn : GoodIn wsL_law (va_wsS RL 177 yL_daysIn wsL_daysIn) := goodIn_app (goodIn_of _ (by decide +kernel)) ggL_law_L_daysIn
set_option maxRecDepth 20000 in
theorem ggL_law_X3_daysIn : GoodIn wsL_law wsX3_daysIn := goodIn_r _ [596, 80, 118, 119, 120, 5, 121, 81, 122, 123, 124, 597, 598, 599, 600, 292, 559, 560, 561, 562, 180, 181, 182, 183, 309, 310, 311, 312, 49, 285, 286, 287, 362, 363, 364, 365, 366, 367, 368, 82, 83, 84, 85, 754, 755, 756, 757, 758, 759, 760, 761, 762, 763, 764, 765] (by decide +kernel) (by decide +kernel)
set_option maxRecDepth 20000 in
theorem gL_law_X3_daysIn : GoodIn wsL_law (wsV RL 179 RX3 yX3_daysIn wsX3_daysIn) := goodIn_app (goodIn_of _ (by decide +kernel)) ggL_law_X3_daysIn
set_option maxRecDepth 20000 in
theorem ggL_law_L_wearing : GoodIn wsL_law wsL_wearing := goodIn_ca (goodIn_r _ [603, 97, 604, 605, 606, 2, 607, 106, 107, 341, 342, 343, 344, 16, 108, 113, 345, 346, 347, 348, 245, 23, 20, 22, 304, 181, 182, 183, 258, 259, 260, 329, 330, 331, 19, 332, 39, 38, 220, 214, 215, 745, 746, 747, 748, 749, 750, 751, 752, 753, 766, 767, 768, 769, 770, 771, 772] (by decide +kernel) (by decide +kernel)) (goodIn_sub (fun _ h => List.mem_append_left _ (List.mem_append_right _ h)) (by decide +kernel))
set_option maxRecDepth 20000 in
theorem gL_law_L_wearing : GoodIn wsL_law (va_wsS RL 180 yL_wearing wsL_wearing) := goodIn_app (goodIn_of _ (by decide +kernel)) ggL_law_L_wearing
set_option maxRecDepth 20000 in
theorem ggL_law_X3_wearing : GoodIn wsL_law wsX3_wearing := goodIn_r _ [611, 80, 81, 46, 292, 122, 123, 5, 124, 82, 83, 84, 85, 362, 363, 364, 365, 49, 180, 181, 182, 183, 285, 286, 287, 366, 367, 368, 754, 755, 756, 757, 758, 759, 760, 761, 762, 763, 764, 765] (by decide +kernel) (by decide +kernel)
set_option maxRecDepth 20000 in
theorem gL_law_X3_wearing : GoodIn wsL_law (wsV RL 182 RX3 yX3_wearing wsX3_wearing) := goodIn_app (goodIn_of _ (by decide +kernel)) ggL_law_X3_wearing
set_option maxRecDepth 20000 in
theorem ggL_law_X2_strictest : GoodIn wsL_law wsX2_strictest := goodIn_r _ [615, 16, 108, 304, 181, 182, 183, 345, 346, 347, 2, 348, 245, 23, 20, 22, 258, 259, 260, 329, 330, 331, 19, 332, 39, 38, 220, 214, 215, 745, 746, 747, 748, 749, 750, 751, 752, 753, 766, 767, 768, 769, 770, 771, 772] (by decide +kernel) (by decide +kernel)
set_option maxRecDepth 20000 in
theorem gL_law_X2_strictest : GoodIn wsL_law (wsV RL 183 RX2 yX2_strictest wsX2_strictest) := goodIn_app (goodIn_of _ (by decide +kernel)) ggL_law_X2_strictest
set_option maxRecDepth 20000 in
theorem ggL_law_X3_strictest : GoodIn wsL_law wsX3_strictest := goodIn_r _ [619, 620, 621, 622, 5, 623, 81, 292, 180, 181, 182, 183, 362, 363, 364, 365, 49, 285, 286, 287, 366, 367, 368, 377, 378, 379, 380, 80, 754, 755, 756, 757, 758, 759, 760, 761, 762, 763, 764, 765] (by decide +kernel) (by decide +kernel)
set_option maxRecDepth 20000 in
theorem gL_law_X3_strictest : GoodIn wsL_law (wsV RL 186 RX3 yX3_strictest wsX3_strictest) := goodIn_app (goodIn_of _ (by decide +kernel)) ggL_law_X3_strictest
set_option maxRecDepth 20000 in
theorem ggL_law_X2_longestMourner : GoodIn wsL_law wsX2_longestMourner := goodIn_r _ [627, 16, 108, 551, 552, 553, 2, 554, 304, 181, 182, 183, 300, 301, 302, 303, 20, 22, 245, 23, 258, 259, 260, 216, 217, 218, 19, 219, 39, 220, 214, 215, 745, 746, 747, 748, 749, 750, 751, 752, 753, 766, 767, 768, 769, 770, 771, 772] (by decide +kernel) (by decide +kernel)
set_option maxRecDepth 20000 in
theorem gL_law_X2_longestMourner : GoodIn wsL_law (wsV RL 187 RX2 yX2_longestMourner wsX2_longestMourner) := goodIn_app (goodIn_of _ (by decide +kernel)) ggL_law_X2_longestMourner
set_option maxRecDepth 20000 in
theorem ggL_law_X3_longestMourner : GoodIn wsL_law wsX3_longestMourner := goodIn_r _ [631, 632, 633, 634, 5, 635, 81, 559, 560, 561, 562, 180, 181, 182, 183, 309, 310, 311, 312, 49, 292, 285, 286, 287, 377, 378, 379, 380, 80, 754, 755, 756, 757, 758, 759, 760, 761, 762, 763, 764, 765] (by decide +kernel) (by decide +kernel)
set_option maxRecDepth 20000 in
theorem gL_law_X3_longestMourner : GoodIn wsL_law (wsV RL 190 RX3 yX3_longestMourner wsX3_longestMourner) := goodIn_app (goodIn_of _ (by decide +kernel)) ggL_law_X3_longestMourner
set_option maxRecDepth 20000 in
theorem ggL_law_X2_daysWorn : GoodIn wsL_law wsX2_daysWorn := goodIn_r _ [639, 320, 745, 746, 747, 748, 749, 750, 751, 752, 753] (by decide +kernel) (by decide +kernel)
set_option maxRecDepth 20000 in
theorem gL_law_X2_daysWorn : GoodIn wsL_law (wsV RL 191 RX2 yX2_daysWorn wsX2_daysWorn) := goodIn_app (goodIn_of _ (by decide +kernel)) ggL_law_X2_daysWorn
set_option maxRecDepth 20000 in
theorem ggL_law_X3_daysWorn : GoodIn wsL_law wsX3_daysWorn := goodIn_r _ [643, 357, 377, 378, 379, 5, 380, 80, 754, 755, 756, 757, 758, 759, 760, 761, 762, 763, 764, 765] (by decide +kernel) (by decide +kernel)
set_option maxRecDepth 20000 in
theorem gL_law_X3_daysWorn : GoodIn wsL_law (wsV RL 194 RX3 yX3_daysWorn wsX3_daysWorn) := goodIn_app (goodIn_of _ (by decide +kernel)) ggL_law_X3_daysWorn
set_option maxRecDepth 20000 in
theorem ggL_law_L_wouldMourn : GoodIn wsL_law wsL_wouldMourn := goodIn_ca (goodIn_ca (goodIn_r _ [646, 97, 56, 647, 648, 649, 2, 650, 16, 108, 102, 103, 104, 105, 106, 107, 109, 110, 111, 112, 65, 66, 113, 144, 145, 146, 15, 147, 34, 71, 148, 149, 150, 151, 152, 153, 154, 155, 156, 157, 158, 159, 30, 31, 265, 266, 267, 268, 20, 133, 216, 217, 218, 19, 219, 39, 220, 214, 215, 745, 746, 747, 748, 749, 750, 751, 752, 753, 766, 767, 768, 769, 770, 771, 772] (by decide +kernel) (by decide +kernel)) (goodIn_sub (fun _ h => List.mem_append_left _ (List.mem_append_right _ h)) (by decide +kernel))) (goodIn_sub (fun _ h => List.mem_append_left _ (List.mem_append_left _ (List.mem_append_right _ h))) (by decide +kernel))
set_option maxRecDepth 20000 in
theorem gL_law_L_wouldMourn : GoodIn wsL_law (va_wsS RL 195 yL_wouldMourn wsL_wouldMourn) := goodIn_app (goodIn_of _ (by decide +kernel)) ggL_law_L_wouldMourn
set_option maxRecDepth 20000 in
theorem ggL_law_X3_wouldMourn : GoodIn wsL_law wsX3_wouldMourn := goodIn_r _ [654, 80, 46, 118, 119, 120, 5, 121, 81, 122, 123, 124, 82, 83, 84, 85, 277, 278, 279, 280, 184, 185, 186, 187, 50, 188, 189, 190, 191, 44, 45, 281, 282, 283, 284, 234, 235, 236, 237, 48, 231, 232, 233, 754, 755, 756, 757, 758, 759, 760, 761, 762, 763, 764, 765] (by decide +kernel) (by decide +kernel)
set_option maxRecDepth 20000 in
theorem gL_law_X3_wouldMourn : GoodIn wsL_law (wsV RL 197 RX3 yX3_wouldMourn wsX3_wouldMourn) := goodIn_app (goodIn_of _ (by decide +kernel)) ggL_law_X3_wouldMourn
set_option maxRecDepth 20000 in
theorem ggL_law_L_wouldWear : GoodIn wsL_law wsL_wouldWear := goodIn_ca (goodIn_ca (goodIn_ca (goodIn_r _ [657, 97, 128, 56, 658, 659, 660, 2, 661, 16, 20, 133, 304, 181, 182, 183, 102, 103, 104, 105, 106, 107, 108, 134, 135, 136, 137, 138, 139, 109, 110, 111, 112, 65, 66, 113, 144, 145, 146, 15, 147, 34, 71, 148, 149, 150, 151, 152, 153, 154, 155, 156, 157, 158, 159, 30, 31, 329, 330, 331, 19, 332, 39, 38, 220, 214, 215, 345, 346, 347, 348, 245, 23, 22, 258, 259, 260, 745, 746, 747, 748, 749, 750, 751, 752, 753, 766, 767, 768, 769, 770, 771, 772] (by decide +kernel) (by decide +kernel)) (goodIn_sub (fun _ h => List.mem_append_left _ (List.mem_append_right _ h)) (by decide +kernel))) (goodIn_sub (fun _ h => List.mem_append_right _ h) (by decide +kernel))) (goodIn_sub (fun _ h => List.mem_append_left _ (List.mem_append_left _ (List.mem_append_right _ h))) (by decide +kernel))
set_option maxRecDepth 20000 in
theorem gL_law_L_wouldWear : GoodIn wsL_law (va_wsS RL 198 yL_wouldWear wsL_wouldWear) := goodIn_app (goodIn_of _ (by decide +kernel)) ggL_law_L_wouldWear
set_option maxRecDepth 20000 in
theorem ggL_law_X3_wouldWear : GoodIn wsL_law wsX3_wouldWear := goodIn_r _ [665, 80, 46, 118, 119, 120, 5, 121, 81, 122, 123, 124, 82, 83, 84, 85, 666, 667, 668, 669, 292, 670, 671, 672, 673, 51, 50, 184, 185, 186, 187, 188, 189, 190, 191, 44, 45, 281, 282, 283, 284, 234, 235, 236, 237, 48, 231, 232, 233, 288, 289, 290, 291, 47, 674, 675, 676, 677, 180, 181, 182, 183, 362, 363, 364, 365, 49, 285, 286, 287, 366, 367, 368, 754, 755, 756, 757, 758, 759, 760, 761, 762, 763, 764, 765] (by decide +kernel) (by decide +kernel)
set_option maxRecDepth 20000 in
theorem gL_law_X3_wouldWear : GoodIn wsL_law (wsV RL 200 RX3 yX3_wouldWear wsX3_wouldWear) := goodIn_app (goodIn_of _ (by decide +kernel)) ggL_law_X3_wouldWear
set_option maxRecDepth 20000 in
theorem ggL_law_X2_heaviestLoss : GoodIn wsL_law wsX2_heaviestLoss := goodIn_r _ [681, 26, 16, 108, 113, 328, 149, 150, 151, 682, 683, 684, 2, 685, 25, 133, 321, 322, 323, 324, 24, 22, 245, 23, 325, 326, 182, 327, 20, 304, 181, 183, 258, 259, 260, 300, 301, 302, 303, 216, 217, 218, 19, 219, 39, 220, 214, 215, 329, 330, 331, 332, 38, 686, 687, 688, 689, 144, 145, 146, 15, 147, 34, 71, 148, 152, 153, 154, 155, 156, 157, 158, 159, 30, 31, 745, 746, 747, 748, 749, 750, 751, 752, 753, 766, 767, 768, 769, 770, 771, 772] (by decide +kernel) (by decide +kernel)
set_option maxRecDepth 20000 in
theorem gL_law_X2_heaviestLoss : GoodIn wsL_law (wsV RL 201 RX2 yX2_heaviestLoss wsX2_heaviestLoss) := goodIn_app (goodIn_of _ (by decide +kernel)) ggL_law_X2_heaviestLoss
set_option maxRecDepth 20000 in
theorem ggL_law_X3_heaviestLoss : GoodIn wsL_law wsX3_heaviestLoss := goodIn_r _ [693, 694, 695, 696, 5, 697, 81, 46, 698, 699, 700, 701, 292, 670, 671, 672, 673, 51, 50, 184, 185, 186, 187, 188, 189, 190, 191, 44, 45, 281, 282, 283, 284, 234, 235, 236, 237, 48, 231, 232, 233, 288, 289, 290, 291, 47, 674, 675, 676, 677, 180, 181, 182, 183, 362, 363, 364, 365, 49, 285, 286, 287, 366, 367, 368, 377, 378, 379, 380, 80, 754, 755, 756, 757, 758, 759, 760, 761, 762, 763, 764, 765] (by decide +kernel) (by decide +kernel)
set_option maxRecDepth 20000 in
theorem gL_law_X3_heaviestLoss : GoodIn wsL_law (wsV RL 204 RX3 yX3_heaviestLoss wsX3_heaviestLoss) := goodIn_app (goodIn_of _ (by decide +kernel)) ggL_law_X3_heaviestLoss
set_option maxRecDepth 20000 in
theorem ggL_law_X2_meanDaysLeft : GoodIn wsL_law wsX2_meanDaysLeft := goodIn_r _ [705, 16, 108, 337, 338, 339, 15, 340, 71, 33, 551, 552, 553, 2, 554, 304, 181, 182, 183, 300, 301, 302, 303, 20, 22, 245, 23, 258, 259, 260, 216, 217, 218, 19, 219, 39, 220, 214, 215, 745, 746, 747, 748, 749, 750, 751, 752, 753, 766, 767, 768, 769, 770, 771, 772] (by decide +kernel) (by decide +kernel)
set_option maxRecDepth 20000 in
theorem gL_law_X2_meanDaysLeft : GoodIn wsL_law (wsV RL 205 RX2 yX2_meanDaysLeft wsX2_meanDaysLeft) := goodIn_app (goodIn_of _ (by decide +kernel)) ggL_law_X2_meanDaysLeft
set_option maxRecDepth 20000 in
theorem ggL_law_X3_meanDaysLeft : GoodIn wsL_law wsX3_meanDaysLeft := goodIn_r _ [709, 80, 81, 559, 560, 561, 5, 562, 180, 181, 182, 183, 309, 310, 311, 312, 49, 292, 285, 286, 287, 389, 390, 391, 392, 46, 754, 755, 756, 757, 758, 759, 760, 761, 762, 763, 764, 765] (by decide +kernel) (by decide +kernel)
set_option maxRecDepth 20000 in
theorem gL_law_X3_meanDaysLeft : GoodIn wsL_law (wsV RL 209 RX3 yX3_meanDaysLeft wsX3_meanDaysLeft) := goodIn_app (goodIn_of _ (by decide +kernel)) ggL_law_X3_meanDaysLeft
set_option maxRecDepth 20000 in
theorem ggL_law_X2_digest : GoodIn wsL_law wsX2_digest := goodIn_ca (goodIn_r _ [713, 714, 715, 16, 108, 716, 370, 371, 2, 372, 717, 382, 383, 384, 337, 338, 339, 15, 340, 71, 33, 718, 485, 486, 487, 245, 719, 613, 614, 615, 304, 181, 182, 183, 345, 346, 347, 348, 23, 20, 22, 258, 259, 260, 329, 330, 331, 19, 332, 39, 38, 220, 214, 215, 720, 625, 626, 627, 551, 552, 553, 554, 300, 301, 302, 303, 216, 217, 218, 219, 721, 637, 638, 639, 320, 722, 723, 724, 725, 726, 466, 467, 468, 203, 205, 206, 207, 208, 106, 107, 209, 210, 211, 212, 213, 727, 477, 478, 479, 204, 728, 729, 730, 731, 732, 397, 398, 399, 113, 102, 103, 104, 105, 733, 412, 413, 414, 415, 734, 424, 425, 426, 427, 735, 496, 497, 498, 736, 518, 519, 520, 521, 522, 523, 524, 737, 548, 549, 550, 738, 567, 568, 569, 321, 322, 323, 324, 24, 325, 326, 327, 328, 149, 150, 151, 570, 571, 572, 573, 144, 145, 146, 147, 34, 148, 152, 153, 154, 155, 156, 157, 158, 159, 30, 31, 450, 451, 452, 453, 745, 746, 747, 748, 749, 750, 751, 752, 753, 766, 767, 768, 769, 770, 771, 772] (by decide +kernel) (by decide +kernel)) (goodIn_sub (fun _ h => List.mem_append_left _ (List.mem_append_right _ h)) (by decide +kernel))
set_option maxRecDepth 20000 in
theorem gL_law_X2_digest : GoodIn wsL_law (wsV RL 210 RX2 yX2_digest wsX2_digest) := goodIn_app (goodIn_of _ (by decide +kernel)) ggL_law_X2_digest
set_option maxRecDepth 20000 in
theorem ggL_law_X3_digest : GoodIn wsL_law wsX3_digest := goodIn_r _ [742, 80, 21, 81, 292, 357, 743, 744, 47, 48, 46, 44, 45, 389, 390, 391, 5, 392, 620, 621, 622, 623, 180, 181, 182, 183, 362, 363, 364, 365, 49, 285, 286, 287, 366, 367, 368, 632, 633, 634, 635, 559, 560, 561, 562, 309, 310, 311, 312, 529, 530, 531, 532, 578, 579, 580, 581, 458, 459, 460, 461, 50, 184, 185, 186, 187, 188, 189, 190, 191, 754, 755, 756, 757, 758, 759, 760, 761, 762, 763, 764, 765] (by decide +kernel) (by decide +kernel)
set_option maxRecDepth 20000 in
theorem gL_law_X3_digest : GoodIn wsL_law (wsV RL 214 RX3 yX3_digest wsX3_digest) := goodIn_app (goodIn_of _ (by decide +kernel)) ggL_law_X3_digest
theorem dL_law_0 : decode cL_law 0 = .ok (.new 8, 3) := by decide +kernel
theorem dL_law_3 : decode cL_law 3 = .ok (.dup, 1) := by decide +kernel
theorem dL_law_4 : decode cL_law 4 = .ok (.invokespecial 92, 3) := by decide +kernel
theorem dL_law_7 : decode cL_law 7 = .ok (.astore_n 1, 1) := by decide +kernel
theorem dL_law_8 : decode cL_law 8 = .ok (.new 93, 3) := by decide +kernel
theorem dL_law_11 : decode cL_law 11 = .ok (.dup, 1) := by decide +kernel
theorem dL_law_12 : decode cL_law 12 = .ok (.invokespecial 95, 3) := by decide +kernel
theorem dL_law_15 : decode cL_law 15 = .ok (.astore_n 2, 1) := by decide +kernel
theorem dL_law_16 : decode cL_law 16 = .ok (.iconst 1, 1) := by decide +kernel
theorem dL_law_17 : decode cL_law 17 = .ok (.newarray .long, 2) := by decide +kernel
theorem dL_law_19 : decode cL_law 19 = .ok (.astore_n 3, 1) := by decide +kernel
theorem dL_law_20 : decode cL_law 20 = .ok (.iconst 0, 1) := by decide +kernel
theorem dL_law_21 : decode cL_law 21 = .ok (.istore 4, 2) := by decide +kernel
theorem dL_law_23 : decode cL_law 23 = .ok (.iload 4, 2) := by decide +kernel
theorem dL_law_25 : decode cL_law 25 = .ok (.aload_n 0, 1) := by decide +kernel
theorem dL_law_26 : decode cL_law 26 = .ok (.arraylength, 1) := by decide +kernel
theorem dL_law_27 : decode cL_law 27 = .ok (.iconst 5, 1) := by decide +kernel
theorem dL_law_28 : decode cL_law 28 = .ok (.isub, 1) := by decide +kernel
theorem dL_law_29 : decode cL_law 29 = .ok (.if_icmp .gt 1802, 3) := by decide +kernel
theorem dL_law_32 : decode cL_law 32 = .ok (.aload_n 0, 1) := by decide +kernel
theorem dL_law_33 : decode cL_law 33 = .ok (.iload 4, 2) := by decide +kernel
theorem dL_law_35 : decode cL_law 35 = .ok (.iaload, 1) := by decide +kernel
theorem dL_law_36 : decode cL_law 36 = .ok (.bipush 63, 2) := by decide +kernel
theorem dL_law_38 : decode cL_law 38 = .ok (.iand, 1) := by decide +kernel
theorem dL_law_39 : decode cL_law 39 = .ok (.tableswitch 1786 0 32 #[145, 189, 245, 313, 405, 461, 529, 585, 598, 611, 674, 730, 786, 854, 922, 990, 1058, 1071, 1127, 1195, 1251, 1319, 1375, 1431, 1499, 1555, 1568, 1581, 1594, 1650, 1718, 1731, 1772], 145) := by decide +kernel
theorem dL_law_184 : decode cL_law 184 = .ok (.aload_n 1, 1) := by decide +kernel
theorem dL_law_185 : decode cL_law 185 = .ok (.aload_n 3, 1) := by decide +kernel
theorem dL_law_186 : decode cL_law 186 = .ok (.invokestatic 96, 3) := by decide +kernel
theorem dL_law_189 : decode cL_law 189 = .ok (.istore 5, 2) := by decide +kernel
theorem dL_law_191 : decode cL_law 191 = .ok (.aload_n 2, 1) := by decide +kernel
theorem dL_law_192 : decode cL_law 192 = .ok (.invokevirtual 101, 3) := by decide +kernel
theorem dL_law_195 : decode cL_law 195 = .ok (.istore 6, 2) := by decide +kernel
theorem dL_law_197 : decode cL_law 197 = .ok (.aload_n 2, 1) := by decide +kernel
theorem dL_law_198 : decode cL_law 198 = .ok (.invokevirtual 102, 3) := by decide +kernel
theorem dL_law_201 : decode cL_law 201 = .ok (.iload 5, 2) := by decide +kernel
theorem dL_law_203 : decode cL_law 203 = .ok (.if_icmp .eq 5, 3) := by decide +kernel
theorem dL_law_206 : decode cL_law 206 = .ok (.iconst 0, 1) := by decide +kernel
theorem dL_law_207 : decode cL_law 207 = .ok (.ireturn, 1) := by decide +kernel
theorem dL_law_208 : decode cL_law 208 = .ok (.iload 5, 2) := by decide +kernel
theorem dL_law_210 : decode cL_law 210 = .ok (.ifCond .ne 15, 3) := by decide +kernel
theorem dL_law_213 : decode cL_law 213 = .ok (.aload_n 3, 1) := by decide +kernel
theorem dL_law_214 : decode cL_law 214 = .ok (.iconst 0, 1) := by decide +kernel
theorem dL_law_215 : decode cL_law 215 = .ok (.laload, 1) := by decide +kernel
theorem dL_law_216 : decode cL_law 216 = .ok (.iload 6, 2) := by decide +kernel
theorem dL_law_218 : decode cL_law 218 = .ok (.i2l, 1) := by decide +kernel
theorem dL_law_219 : decode cL_law 219 = .ok (.lcmp, 1) := by decide +kernel
theorem dL_law_220 : decode cL_law 220 = .ok (.ifCond .eq 5, 3) := by decide +kernel
theorem dL_law_223 : decode cL_law 223 = .ok (.iconst 0, 1) := by decide +kernel
theorem dL_law_224 : decode cL_law 224 = .ok (.ireturn, 1) := by decide +kernel
theorem dL_law_225 : decode cL_law 225 = .ok (.goto 1600, 3) := by decide +kernel
theorem dL_law_228 : decode cL_law 228 = .ok (.aload_n 1, 1) := by decide +kernel
theorem dL_law_229 : decode cL_law 229 = .ok (.aload_n 0, 1) := by decide +kernel
theorem dL_law_230 : decode cL_law 230 = .ok (.iload 4, 2) := by decide +kernel
theorem dL_law_232 : decode cL_law 232 = .ok (.iconst 1, 1) := by decide +kernel
theorem dL_law_233 : decode cL_law 233 = .ok (.iadd, 1) := by decide +kernel
theorem dL_law_234 : decode cL_law 234 = .ok (.iaload, 1) := by decide +kernel
theorem dL_law_235 : decode cL_law 235 = .ok (.aload_n 3, 1) := by decide +kernel
theorem dL_law_236 : decode cL_law 236 = .ok (.invokestatic 105, 3) := by decide +kernel
theorem dL_law_239 : decode cL_law 239 = .ok (.istore 5, 2) := by decide +kernel
theorem dL_law_241 : decode cL_law 241 = .ok (.aload_n 2, 1) := by decide +kernel
theorem dL_law_242 : decode cL_law 242 = .ok (.aload_n 0, 1) := by decide +kernel
theorem dL_law_243 : decode cL_law 243 = .ok (.iload 4, 2) := by decide +kernel
theorem dL_law_245 : decode cL_law 245 = .ok (.iconst 1, 1) := by decide +kernel
theorem dL_law_246 : decode cL_law 246 = .ok (.iadd, 1) := by decide +kernel
theorem dL_law_247 : decode cL_law 247 = .ok (.iaload, 1) := by decide +kernel
theorem dL_law_248 : decode cL_law 248 = .ok (.invokevirtual 108, 3) := by decide +kernel
theorem dL_law_251 : decode cL_law 251 = .ok (.istore 6, 2) := by decide +kernel
theorem dL_law_253 : decode cL_law 253 = .ok (.aload_n 2, 1) := by decide +kernel
theorem dL_law_254 : decode cL_law 254 = .ok (.invokevirtual 102, 3) := by decide +kernel
theorem dL_law_257 : decode cL_law 257 = .ok (.iload 5, 2) := by decide +kernel
theorem dL_law_259 : decode cL_law 259 = .ok (.if_icmp .eq 5, 3) := by decide +kernel
theorem dL_law_262 : decode cL_law 262 = .ok (.iconst 0, 1) := by decide +kernel
theorem dL_law_263 : decode cL_law 263 = .ok (.ireturn, 1) := by decide +kernel
theorem dL_law_264 : decode cL_law 264 = .ok (.iload 5, 2) := by decide +kernel
theorem dL_law_266 : decode cL_law 266 = .ok (.ifCond .ne 15, 3) := by decide +kernel
theorem dL_law_269 : decode cL_law 269 = .ok (.aload_n 3, 1) := by decide +kernel
theorem dL_law_270 : decode cL_law 270 = .ok (.iconst 0, 1) := by decide +kernel
theorem dL_law_271 : decode cL_law 271 = .ok (.laload, 1) := by decide +kernel
theorem dL_law_272 : decode cL_law 272 = .ok (.iload 6, 2) := by decide +kernel
theorem dL_law_274 : decode cL_law 274 = .ok (.i2l, 1) := by decide +kernel
theorem dL_law_275 : decode cL_law 275 = .ok (.lcmp, 1) := by decide +kernel
theorem dL_law_276 : decode cL_law 276 = .ok (.ifCond .eq 5, 3) := by decide +kernel
theorem dL_law_279 : decode cL_law 279 = .ok (.iconst 0, 1) := by decide +kernel
theorem dL_law_280 : decode cL_law 280 = .ok (.ireturn, 1) := by decide +kernel
theorem dL_law_281 : decode cL_law 281 = .ok (.goto 1544, 3) := by decide +kernel
theorem dL_law_284 : decode cL_law 284 = .ok (.aload_n 1, 1) := by decide +kernel
theorem dL_law_285 : decode cL_law 285 = .ok (.aload_n 0, 1) := by decide +kernel
theorem dL_law_286 : decode cL_law 286 = .ok (.iload 4, 2) := by decide +kernel
theorem dL_law_288 : decode cL_law 288 = .ok (.iconst 1, 1) := by decide +kernel
theorem dL_law_289 : decode cL_law 289 = .ok (.iadd, 1) := by decide +kernel
theorem dL_law_290 : decode cL_law 290 = .ok (.iaload, 1) := by decide +kernel
theorem dL_law_291 : decode cL_law 291 = .ok (.aload_n 0, 1) := by decide +kernel
theorem dL_law_292 : decode cL_law 292 = .ok (.iload 4, 2) := by decide +kernel
theorem dL_law_294 : decode cL_law 294 = .ok (.iconst 2, 1) := by decide +kernel
theorem dL_law_295 : decode cL_law 295 = .ok (.iadd, 1) := by decide +kernel
theorem dL_law_296 : decode cL_law 296 = .ok (.iaload, 1) := by decide +kernel
theorem dL_law_297 : decode cL_law 297 = .ok (.aload_n 3, 1) := by decide +kernel
theorem dL_law_298 : decode cL_law 298 = .ok (.invokestatic 109, 3) := by decide +kernel
theorem dL_law_301 : decode cL_law 301 = .ok (.istore 5, 2) := by decide +kernel
theorem dL_law_303 : decode cL_law 303 = .ok (.aload_n 2, 1) := by decide +kernel
theorem dL_law_304 : decode cL_law 304 = .ok (.aload_n 0, 1) := by decide +kernel
theorem dL_law_305 : decode cL_law 305 = .ok (.iload 4, 2) := by decide +kernel
theorem dL_law_307 : decode cL_law 307 = .ok (.iconst 1, 1) := by decide +kernel
theorem dL_law_308 : decode cL_law 308 = .ok (.iadd, 1) := by decide +kernel
theorem dL_law_309 : decode cL_law 309 = .ok (.iaload, 1) := by decide +kernel
theorem dL_law_310 : decode cL_law 310 = .ok (.aload_n 0, 1) := by decide +kernel
theorem dL_law_311 : decode cL_law 311 = .ok (.iload 4, 2) := by decide +kernel
theorem dL_law_313 : decode cL_law 313 = .ok (.iconst 2, 1) := by decide +kernel
theorem dL_law_314 : decode cL_law 314 = .ok (.iadd, 1) := by decide +kernel
theorem dL_law_315 : decode cL_law 315 = .ok (.iaload, 1) := by decide +kernel
theorem dL_law_316 : decode cL_law 316 = .ok (.invokevirtual 112, 3) := by decide +kernel
theorem dL_law_319 : decode cL_law 319 = .ok (.istore 6, 2) := by decide +kernel
theorem dL_law_321 : decode cL_law 321 = .ok (.aload_n 2, 1) := by decide +kernel
theorem dL_law_322 : decode cL_law 322 = .ok (.invokevirtual 102, 3) := by decide +kernel
theorem dL_law_325 : decode cL_law 325 = .ok (.iload 5, 2) := by decide +kernel
theorem dL_law_327 : decode cL_law 327 = .ok (.if_icmp .eq 5, 3) := by decide +kernel
theorem dL_law_330 : decode cL_law 330 = .ok (.iconst 0, 1) := by decide +kernel
theorem dL_law_331 : decode cL_law 331 = .ok (.ireturn, 1) := by decide +kernel
theorem dL_law_332 : decode cL_law 332 = .ok (.iload 5, 2) := by decide +kernel
theorem dL_law_334 : decode cL_law 334 = .ok (.ifCond .ne 15, 3) := by decide +kernel
theorem dL_law_337 : decode cL_law 337 = .ok (.aload_n 3, 1) := by decide +kernel
theorem dL_law_338 : decode cL_law 338 = .ok (.iconst 0, 1) := by decide +kernel
theorem dL_law_339 : decode cL_law 339 = .ok (.laload, 1) := by decide +kernel
theorem dL_law_340 : decode cL_law 340 = .ok (.iload 6, 2) := by decide +kernel
theorem dL_law_342 : decode cL_law 342 = .ok (.i2l, 1) := by decide +kernel
theorem dL_law_343 : decode cL_law 343 = .ok (.lcmp, 1) := by decide +kernel
theorem dL_law_344 : decode cL_law 344 = .ok (.ifCond .eq 5, 3) := by decide +kernel
theorem dL_law_347 : decode cL_law 347 = .ok (.iconst 0, 1) := by decide +kernel
theorem dL_law_348 : decode cL_law 348 = .ok (.ireturn, 1) := by decide +kernel
theorem dL_law_349 : decode cL_law 349 = .ok (.goto 1476, 3) := by decide +kernel
theorem dL_law_352 : decode cL_law 352 = .ok (.aload_n 1, 1) := by decide +kernel
theorem dL_law_353 : decode cL_law 353 = .ok (.aload_n 0, 1) := by decide +kernel
theorem dL_law_354 : decode cL_law 354 = .ok (.iload 4, 2) := by decide +kernel
theorem dL_law_356 : decode cL_law 356 = .ok (.iconst 1, 1) := by decide +kernel
theorem dL_law_357 : decode cL_law 357 = .ok (.iadd, 1) := by decide +kernel
theorem dL_law_358 : decode cL_law 358 = .ok (.iaload, 1) := by decide +kernel
theorem dL_law_359 : decode cL_law 359 = .ok (.aload_n 0, 1) := by decide +kernel
theorem dL_law_360 : decode cL_law 360 = .ok (.iload 4, 2) := by decide +kernel
theorem dL_law_362 : decode cL_law 362 = .ok (.iconst 2, 1) := by decide +kernel
theorem dL_law_363 : decode cL_law 363 = .ok (.iadd, 1) := by decide +kernel
theorem dL_law_364 : decode cL_law 364 = .ok (.iaload, 1) := by decide +kernel
theorem dL_law_365 : decode cL_law 365 = .ok (.aload_n 0, 1) := by decide +kernel
theorem dL_law_366 : decode cL_law 366 = .ok (.iload 4, 2) := by decide +kernel
theorem dL_law_368 : decode cL_law 368 = .ok (.iconst 3, 1) := by decide +kernel
theorem dL_law_369 : decode cL_law 369 = .ok (.iadd, 1) := by decide +kernel
theorem dL_law_370 : decode cL_law 370 = .ok (.iaload, 1) := by decide +kernel
theorem dL_law_371 : decode cL_law 371 = .ok (.aload_n 0, 1) := by decide +kernel
theorem dL_law_372 : decode cL_law 372 = .ok (.iload 4, 2) := by decide +kernel
theorem dL_law_374 : decode cL_law 374 = .ok (.iconst 4, 1) := by decide +kernel
theorem dL_law_375 : decode cL_law 375 = .ok (.iadd, 1) := by decide +kernel
theorem dL_law_376 : decode cL_law 376 = .ok (.iaload, 1) := by decide +kernel
theorem dL_law_377 : decode cL_law 377 = .ok (.aload_n 3, 1) := by decide +kernel
theorem dL_law_378 : decode cL_law 378 = .ok (.invokestatic 113, 3) := by decide +kernel
theorem dL_law_381 : decode cL_law 381 = .ok (.istore 5, 2) := by decide +kernel
theorem dL_law_383 : decode cL_law 383 = .ok (.aload_n 2, 1) := by decide +kernel
theorem dL_law_384 : decode cL_law 384 = .ok (.aload_n 0, 1) := by decide +kernel
theorem dL_law_385 : decode cL_law 385 = .ok (.iload 4, 2) := by decide +kernel
theorem dL_law_387 : decode cL_law 387 = .ok (.iconst 1, 1) := by decide +kernel
theorem dL_law_388 : decode cL_law 388 = .ok (.iadd, 1) := by decide +kernel
theorem dL_law_389 : decode cL_law 389 = .ok (.iaload, 1) := by decide +kernel
theorem dL_law_390 : decode cL_law 390 = .ok (.aload_n 0, 1) := by decide +kernel
theorem dL_law_391 : decode cL_law 391 = .ok (.iload 4, 2) := by decide +kernel
theorem dL_law_393 : decode cL_law 393 = .ok (.iconst 2, 1) := by decide +kernel
theorem dL_law_394 : decode cL_law 394 = .ok (.iadd, 1) := by decide +kernel
theorem dL_law_395 : decode cL_law 395 = .ok (.iaload, 1) := by decide +kernel
theorem dL_law_396 : decode cL_law 396 = .ok (.aload_n 0, 1) := by decide +kernel
theorem dL_law_397 : decode cL_law 397 = .ok (.iload 4, 2) := by decide +kernel
theorem dL_law_399 : decode cL_law 399 = .ok (.iconst 3, 1) := by decide +kernel
theorem dL_law_400 : decode cL_law 400 = .ok (.iadd, 1) := by decide +kernel
theorem dL_law_401 : decode cL_law 401 = .ok (.iaload, 1) := by decide +kernel
theorem dL_law_402 : decode cL_law 402 = .ok (.aload_n 0, 1) := by decide +kernel
theorem dL_law_403 : decode cL_law 403 = .ok (.iload 4, 2) := by decide +kernel
theorem dL_law_405 : decode cL_law 405 = .ok (.iconst 4, 1) := by decide +kernel
theorem dL_law_406 : decode cL_law 406 = .ok (.iadd, 1) := by decide +kernel
theorem dL_law_407 : decode cL_law 407 = .ok (.iaload, 1) := by decide +kernel
theorem dL_law_408 : decode cL_law 408 = .ok (.invokevirtual 116, 3) := by decide +kernel
theorem dL_law_411 : decode cL_law 411 = .ok (.istore 6, 2) := by decide +kernel
theorem dL_law_413 : decode cL_law 413 = .ok (.aload_n 2, 1) := by decide +kernel
theorem dL_law_414 : decode cL_law 414 = .ok (.invokevirtual 102, 3) := by decide +kernel
theorem dL_law_417 : decode cL_law 417 = .ok (.iload 5, 2) := by decide +kernel
theorem dL_law_419 : decode cL_law 419 = .ok (.if_icmp .eq 5, 3) := by decide +kernel
theorem dL_law_422 : decode cL_law 422 = .ok (.iconst 0, 1) := by decide +kernel
theorem dL_law_423 : decode cL_law 423 = .ok (.ireturn, 1) := by decide +kernel
theorem dL_law_424 : decode cL_law 424 = .ok (.iload 5, 2) := by decide +kernel
theorem dL_law_426 : decode cL_law 426 = .ok (.ifCond .ne 15, 3) := by decide +kernel
theorem dL_law_429 : decode cL_law 429 = .ok (.aload_n 3, 1) := by decide +kernel
theorem dL_law_430 : decode cL_law 430 = .ok (.iconst 0, 1) := by decide +kernel
theorem dL_law_431 : decode cL_law 431 = .ok (.laload, 1) := by decide +kernel
theorem dL_law_432 : decode cL_law 432 = .ok (.iload 6, 2) := by decide +kernel
theorem dL_law_434 : decode cL_law 434 = .ok (.i2l, 1) := by decide +kernel
theorem dL_law_435 : decode cL_law 435 = .ok (.lcmp, 1) := by decide +kernel
theorem dL_law_436 : decode cL_law 436 = .ok (.ifCond .eq 5, 3) := by decide +kernel
theorem dL_law_439 : decode cL_law 439 = .ok (.iconst 0, 1) := by decide +kernel
theorem dL_law_440 : decode cL_law 440 = .ok (.ireturn, 1) := by decide +kernel
theorem dL_law_441 : decode cL_law 441 = .ok (.goto 1384, 3) := by decide +kernel
theorem dL_law_444 : decode cL_law 444 = .ok (.aload_n 1, 1) := by decide +kernel
theorem dL_law_445 : decode cL_law 445 = .ok (.aload_n 0, 1) := by decide +kernel
theorem dL_law_446 : decode cL_law 446 = .ok (.iload 4, 2) := by decide +kernel
theorem dL_law_448 : decode cL_law 448 = .ok (.iconst 1, 1) := by decide +kernel
theorem dL_law_449 : decode cL_law 449 = .ok (.iadd, 1) := by decide +kernel
theorem dL_law_450 : decode cL_law 450 = .ok (.iaload, 1) := by decide +kernel
theorem dL_law_451 : decode cL_law 451 = .ok (.aload_n 3, 1) := by decide +kernel
theorem dL_law_452 : decode cL_law 452 = .ok (.invokestatic 117, 3) := by decide +kernel
theorem dL_law_455 : decode cL_law 455 = .ok (.istore 5, 2) := by decide +kernel
theorem dL_law_457 : decode cL_law 457 = .ok (.aload_n 2, 1) := by decide +kernel
theorem dL_law_458 : decode cL_law 458 = .ok (.aload_n 0, 1) := by decide +kernel
theorem dL_law_459 : decode cL_law 459 = .ok (.iload 4, 2) := by decide +kernel
theorem dL_law_461 : decode cL_law 461 = .ok (.iconst 1, 1) := by decide +kernel
theorem dL_law_462 : decode cL_law 462 = .ok (.iadd, 1) := by decide +kernel
theorem dL_law_463 : decode cL_law 463 = .ok (.iaload, 1) := by decide +kernel
theorem dL_law_464 : decode cL_law 464 = .ok (.invokevirtual 119, 3) := by decide +kernel
theorem dL_law_467 : decode cL_law 467 = .ok (.istore 6, 2) := by decide +kernel
theorem dL_law_469 : decode cL_law 469 = .ok (.aload_n 2, 1) := by decide +kernel
theorem dL_law_470 : decode cL_law 470 = .ok (.invokevirtual 102, 3) := by decide +kernel
theorem dL_law_473 : decode cL_law 473 = .ok (.iload 5, 2) := by decide +kernel
theorem dL_law_475 : decode cL_law 475 = .ok (.if_icmp .eq 5, 3) := by decide +kernel
theorem dL_law_478 : decode cL_law 478 = .ok (.iconst 0, 1) := by decide +kernel
theorem dL_law_479 : decode cL_law 479 = .ok (.ireturn, 1) := by decide +kernel
theorem dL_law_480 : decode cL_law 480 = .ok (.iload 5, 2) := by decide +kernel
theorem dL_law_482 : decode cL_law 482 = .ok (.ifCond .ne 15, 3) := by decide +kernel
theorem dL_law_485 : decode cL_law 485 = .ok (.aload_n 3, 1) := by decide +kernel
theorem dL_law_486 : decode cL_law 486 = .ok (.iconst 0, 1) := by decide +kernel
theorem dL_law_487 : decode cL_law 487 = .ok (.laload, 1) := by decide +kernel
theorem dL_law_488 : decode cL_law 488 = .ok (.iload 6, 2) := by decide +kernel
theorem dL_law_490 : decode cL_law 490 = .ok (.i2l, 1) := by decide +kernel
theorem dL_law_491 : decode cL_law 491 = .ok (.lcmp, 1) := by decide +kernel
theorem dL_law_492 : decode cL_law 492 = .ok (.ifCond .eq 5, 3) := by decide +kernel
theorem dL_law_495 : decode cL_law 495 = .ok (.iconst 0, 1) := by decide +kernel
theorem dL_law_496 : decode cL_law 496 = .ok (.ireturn, 1) := by decide +kernel
theorem dL_law_497 : decode cL_law 497 = .ok (.goto 1328, 3) := by decide +kernel
theorem dL_law_500 : decode cL_law 500 = .ok (.aload_n 1, 1) := by decide +kernel
theorem dL_law_501 : decode cL_law 501 = .ok (.aload_n 0, 1) := by decide +kernel
theorem dL_law_502 : decode cL_law 502 = .ok (.iload 4, 2) := by decide +kernel
theorem dL_law_504 : decode cL_law 504 = .ok (.iconst 1, 1) := by decide +kernel
theorem dL_law_505 : decode cL_law 505 = .ok (.iadd, 1) := by decide +kernel
theorem dL_law_506 : decode cL_law 506 = .ok (.iaload, 1) := by decide +kernel
theorem dL_law_507 : decode cL_law 507 = .ok (.aload_n 0, 1) := by decide +kernel
theorem dL_law_508 : decode cL_law 508 = .ok (.iload 4, 2) := by decide +kernel
theorem dL_law_510 : decode cL_law 510 = .ok (.iconst 2, 1) := by decide +kernel
theorem dL_law_511 : decode cL_law 511 = .ok (.iadd, 1) := by decide +kernel
theorem dL_law_512 : decode cL_law 512 = .ok (.iaload, 1) := by decide +kernel
theorem dL_law_513 : decode cL_law 513 = .ok (.aload_n 3, 1) := by decide +kernel
theorem dL_law_514 : decode cL_law 514 = .ok (.invokestatic 120, 3) := by decide +kernel
theorem dL_law_517 : decode cL_law 517 = .ok (.istore 5, 2) := by decide +kernel
theorem dL_law_519 : decode cL_law 519 = .ok (.aload_n 2, 1) := by decide +kernel
theorem dL_law_520 : decode cL_law 520 = .ok (.aload_n 0, 1) := by decide +kernel
theorem dL_law_521 : decode cL_law 521 = .ok (.iload 4, 2) := by decide +kernel
theorem dL_law_523 : decode cL_law 523 = .ok (.iconst 1, 1) := by decide +kernel
theorem dL_law_524 : decode cL_law 524 = .ok (.iadd, 1) := by decide +kernel
theorem dL_law_525 : decode cL_law 525 = .ok (.iaload, 1) := by decide +kernel
theorem dL_law_526 : decode cL_law 526 = .ok (.aload_n 0, 1) := by decide +kernel
theorem dL_law_527 : decode cL_law 527 = .ok (.iload 4, 2) := by decide +kernel
theorem dL_law_529 : decode cL_law 529 = .ok (.iconst 2, 1) := by decide +kernel
theorem dL_law_530 : decode cL_law 530 = .ok (.iadd, 1) := by decide +kernel
theorem dL_law_531 : decode cL_law 531 = .ok (.iaload, 1) := by decide +kernel
theorem dL_law_532 : decode cL_law 532 = .ok (.invokevirtual 122, 3) := by decide +kernel
theorem dL_law_535 : decode cL_law 535 = .ok (.istore 6, 2) := by decide +kernel
theorem dL_law_537 : decode cL_law 537 = .ok (.aload_n 2, 1) := by decide +kernel
theorem dL_law_538 : decode cL_law 538 = .ok (.invokevirtual 102, 3) := by decide +kernel
theorem dL_law_541 : decode cL_law 541 = .ok (.iload 5, 2) := by decide +kernel
theorem dL_law_543 : decode cL_law 543 = .ok (.if_icmp .eq 5, 3) := by decide +kernel
theorem dL_law_546 : decode cL_law 546 = .ok (.iconst 0, 1) := by decide +kernel
theorem dL_law_547 : decode cL_law 547 = .ok (.ireturn, 1) := by decide +kernel
theorem dL_law_548 : decode cL_law 548 = .ok (.iload 5, 2) := by decide +kernel
theorem dL_law_550 : decode cL_law 550 = .ok (.ifCond .ne 15, 3) := by decide +kernel
theorem dL_law_553 : decode cL_law 553 = .ok (.aload_n 3, 1) := by decide +kernel
theorem dL_law_554 : decode cL_law 554 = .ok (.iconst 0, 1) := by decide +kernel
theorem dL_law_555 : decode cL_law 555 = .ok (.laload, 1) := by decide +kernel
theorem dL_law_556 : decode cL_law 556 = .ok (.iload 6, 2) := by decide +kernel
theorem dL_law_558 : decode cL_law 558 = .ok (.i2l, 1) := by decide +kernel
theorem dL_law_559 : decode cL_law 559 = .ok (.lcmp, 1) := by decide +kernel
theorem dL_law_560 : decode cL_law 560 = .ok (.ifCond .eq 5, 3) := by decide +kernel
theorem dL_law_563 : decode cL_law 563 = .ok (.iconst 0, 1) := by decide +kernel
theorem dL_law_564 : decode cL_law 564 = .ok (.ireturn, 1) := by decide +kernel
theorem dL_law_565 : decode cL_law 565 = .ok (.goto 1260, 3) := by decide +kernel
theorem dL_law_568 : decode cL_law 568 = .ok (.aload_n 1, 1) := by decide +kernel
theorem dL_law_569 : decode cL_law 569 = .ok (.aload_n 0, 1) := by decide +kernel
theorem dL_law_570 : decode cL_law 570 = .ok (.iload 4, 2) := by decide +kernel
theorem dL_law_572 : decode cL_law 572 = .ok (.iconst 1, 1) := by decide +kernel
theorem dL_law_573 : decode cL_law 573 = .ok (.iadd, 1) := by decide +kernel
theorem dL_law_574 : decode cL_law 574 = .ok (.iaload, 1) := by decide +kernel
theorem dL_law_575 : decode cL_law 575 = .ok (.aload_n 3, 1) := by decide +kernel
theorem dL_law_576 : decode cL_law 576 = .ok (.invokestatic 123, 3) := by decide +kernel
theorem dL_law_579 : decode cL_law 579 = .ok (.istore 5, 2) := by decide +kernel
theorem dL_law_581 : decode cL_law 581 = .ok (.aload_n 2, 1) := by decide +kernel
theorem dL_law_582 : decode cL_law 582 = .ok (.aload_n 0, 1) := by decide +kernel
theorem dL_law_583 : decode cL_law 583 = .ok (.iload 4, 2) := by decide +kernel
theorem dL_law_585 : decode cL_law 585 = .ok (.iconst 1, 1) := by decide +kernel
theorem dL_law_586 : decode cL_law 586 = .ok (.iadd, 1) := by decide +kernel
theorem dL_law_587 : decode cL_law 587 = .ok (.iaload, 1) := by decide +kernel
theorem dL_law_588 : decode cL_law 588 = .ok (.invokevirtual 125, 3) := by decide +kernel
theorem dL_law_591 : decode cL_law 591 = .ok (.istore 6, 2) := by decide +kernel
theorem dL_law_593 : decode cL_law 593 = .ok (.aload_n 2, 1) := by decide +kernel
theorem dL_law_594 : decode cL_law 594 = .ok (.invokevirtual 102, 3) := by decide +kernel
theorem dL_law_597 : decode cL_law 597 = .ok (.iload 5, 2) := by decide +kernel
theorem dL_law_599 : decode cL_law 599 = .ok (.if_icmp .eq 5, 3) := by decide +kernel
theorem dL_law_602 : decode cL_law 602 = .ok (.iconst 0, 1) := by decide +kernel
theorem dL_law_603 : decode cL_law 603 = .ok (.ireturn, 1) := by decide +kernel
theorem dL_law_604 : decode cL_law 604 = .ok (.iload 5, 2) := by decide +kernel
theorem dL_law_606 : decode cL_law 606 = .ok (.ifCond .ne 15, 3) := by decide +kernel
theorem dL_law_609 : decode cL_law 609 = .ok (.aload_n 3, 1) := by decide +kernel
theorem dL_law_610 : decode cL_law 610 = .ok (.iconst 0, 1) := by decide +kernel
theorem dL_law_611 : decode cL_law 611 = .ok (.laload, 1) := by decide +kernel
theorem dL_law_612 : decode cL_law 612 = .ok (.iload 6, 2) := by decide +kernel
theorem dL_law_614 : decode cL_law 614 = .ok (.i2l, 1) := by decide +kernel
theorem dL_law_615 : decode cL_law 615 = .ok (.lcmp, 1) := by decide +kernel
theorem dL_law_616 : decode cL_law 616 = .ok (.ifCond .eq 5, 3) := by decide +kernel
theorem dL_law_619 : decode cL_law 619 = .ok (.iconst 0, 1) := by decide +kernel
theorem dL_law_620 : decode cL_law 620 = .ok (.ireturn, 1) := by decide +kernel
theorem dL_law_621 : decode cL_law 621 = .ok (.goto 1204, 3) := by decide +kernel
theorem dL_law_624 : decode cL_law 624 = .ok (.aload_n 1, 1) := by decide +kernel
theorem dL_law_625 : decode cL_law 625 = .ok (.invokevirtual 126, 3) := by decide +kernel
theorem dL_law_628 : decode cL_law 628 = .ok (.aload_n 2, 1) := by decide +kernel
theorem dL_law_629 : decode cL_law 629 = .ok (.invokevirtual 129, 3) := by decide +kernel
theorem dL_law_632 : decode cL_law 632 = .ok (.if_icmp .eq 1193, 3) := by decide +kernel
theorem dL_law_635 : decode cL_law 635 = .ok (.iconst 0, 1) := by decide +kernel
theorem dL_law_636 : decode cL_law 636 = .ok (.ireturn, 1) := by decide +kernel
theorem dL_law_637 : decode cL_law 637 = .ok (.aload_n 1, 1) := by decide +kernel
theorem dL_law_638 : decode cL_law 638 = .ok (.invokevirtual 130, 3) := by decide +kernel
theorem dL_law_641 : decode cL_law 641 = .ok (.aload_n 2, 1) := by decide +kernel
theorem dL_law_642 : decode cL_law 642 = .ok (.invokevirtual 133, 3) := by decide +kernel
theorem dL_law_645 : decode cL_law 645 = .ok (.if_icmp .eq 1180, 3) := by decide +kernel
theorem dL_law_648 : decode cL_law 648 = .ok (.iconst 0, 1) := by decide +kernel
theorem dL_law_649 : decode cL_law 649 = .ok (.ireturn, 1) := by decide +kernel
theorem dL_law_650 : decode cL_law 650 = .ok (.aload_n 1, 1) := by decide +kernel
theorem dL_law_651 : decode cL_law 651 = .ok (.aload_n 0, 1) := by decide +kernel
theorem dL_law_652 : decode cL_law 652 = .ok (.iload 4, 2) := by decide +kernel
theorem dL_law_654 : decode cL_law 654 = .ok (.iconst 1, 1) := by decide +kernel
theorem dL_law_655 : decode cL_law 655 = .ok (.iadd, 1) := by decide +kernel
theorem dL_law_656 : decode cL_law 656 = .ok (.iaload, 1) := by decide +kernel
theorem dL_law_657 : decode cL_law 657 = .ok (.aload_n 3, 1) := by decide +kernel
theorem dL_law_658 : decode cL_law 658 = .ok (.invokestatic 134, 3) := by decide +kernel
theorem dL_law_661 : decode cL_law 661 = .ok (.istore 5, 2) := by decide +kernel
theorem dL_law_663 : decode cL_law 663 = .ok (.aload_n 2, 1) := by decide +kernel
theorem dL_law_664 : decode cL_law 664 = .ok (.aload_n 0, 1) := by decide +kernel
theorem dL_law_665 : decode cL_law 665 = .ok (.iload 4, 2) := by decide +kernel
theorem dL_law_667 : decode cL_law 667 = .ok (.iconst 1, 1) := by decide +kernel
theorem dL_law_668 : decode cL_law 668 = .ok (.iadd, 1) := by decide +kernel
theorem dL_law_669 : decode cL_law 669 = .ok (.iaload, 1) := by decide +kernel
theorem dL_law_670 : decode cL_law 670 = .ok (.invokevirtual 136, 3) := by decide +kernel
theorem dL_law_673 : decode cL_law 673 = .ok (.istore 6, 2) := by decide +kernel
theorem dL_law_675 : decode cL_law 675 = .ok (.aload_n 2, 1) := by decide +kernel
theorem dL_law_676 : decode cL_law 676 = .ok (.invokevirtual 102, 3) := by decide +kernel
