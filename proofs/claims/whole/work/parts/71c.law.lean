set_option maxRecDepth 20000 in
theorem ggL_law_X5_take : GoodIn wsL_law wsX5_take := goodIn_r _ [271, 186, 58, 63, 245, 246, 247, 5, 248, 194, 195, 196, 197, 198, 663, 664, 665, 666, 667, 668, 669, 670, 671, 672, 673, 674, 675, 676, 677, 678, 679, 680, 681, 682, 683, 684, 685, 686, 687, 688, 689, 690, 691, 692, 693, 694, 695, 696] (by decide +kernel) (by decide +kernel)
set_option maxRecDepth 20000 in
theorem gL_law_X5_take : GoodIn wsL_law (wsV RL 88 RX5 yX5_take wsX5_take) := goodIn_app (goodIn_of _ (by decide +kernel)) ggL_law_X5_take
set_option maxRecDepth 20000 in
theorem ggL_law_L_group : GoodIn wsL_law wsL_group := goodIn_ca (goodIn_r _ [274, 99, 275, 276, 277, 2, 278, 106, 107, 18, 114, 115, 116, 655, 656, 657, 658, 659, 660, 661, 662] (by decide +kernel) (by decide +kernel)) (goodIn_sub (fun _ h => List.mem_append_left _ (List.mem_append_left _ (List.mem_append_right _ h))) (by decide +kernel))
set_option maxRecDepth 20000 in
theorem gL_law_L_group : GoodIn wsL_law (va_wsS RL 89 yL_group wsL_group) := goodIn_app (goodIn_of _ (by decide +kernel)) ggL_law_L_group
set_option maxRecDepth 20000 in
theorem ggL_law_X5_group : GoodIn wsL_law wsX5_group := goodIn_r _ [282, 68, 187, 188, 5, 189, 194, 195, 196, 197, 198, 283, 284, 285, 286, 63, 67, 65, 663, 664, 665, 666, 667, 668, 669, 670, 671, 672, 673, 674, 675, 676, 677, 678, 679, 680, 681, 682, 683, 684, 685, 686, 687, 688, 689, 690, 691, 692, 693, 694, 695, 696] (by decide +kernel) (by decide +kernel)
set_option maxRecDepth 20000 in
theorem gL_law_X5_group : GoodIn wsL_law (wsV RL 92 RX5 yX5_group wsX5_group) := goodIn_app (goodIn_of _ (by decide +kernel)) ggL_law_X5_group
set_option maxRecDepth 20000 in
theorem ggL_law_L_spin : GoodIn wsL_law wsL_spin := goodIn_ca (goodIn_r _ [289, 99, 290, 291, 292, 2, 293, 177, 210, 211, 212, 213, 106, 107, 14, 113, 114, 115, 116, 294, 295, 296, 145, 146, 721, 722, 723, 724, 725, 726, 727, 728, 655, 656, 657, 658, 659, 660, 661, 662, 697, 698, 699, 700, 701, 702, 703, 704, 705, 706] (by decide +kernel) (by decide +kernel)) (goodIn_sub (fun _ h => List.mem_append_left _ (List.mem_append_left _ (List.mem_append_right _ h))) (by decide +kernel))
set_option maxRecDepth 20000 in
theorem gL_law_L_spin : GoodIn wsL_law (va_wsS RL 93 yL_spin wsL_spin) := goodIn_app (goodIn_of _ (by decide +kernel)) ggL_law_L_spin
set_option maxRecDepth 20000 in
theorem ggL_law_X5_spin : GoodIn wsL_law wsX5_spin := goodIn_r _ [300, 257, 258, 259, 5, 260, 63, 245, 246, 247, 248, 58, 194, 195, 196, 197, 198, 283, 284, 285, 286, 68, 67, 65, 301, 302, 303, 304, 305, 306, 307, 308, 66, 663, 664, 665, 666, 667, 668, 669, 670, 671, 672, 673, 674, 675, 676, 677, 678, 679, 680, 681, 682, 683, 684, 685, 686, 687, 688, 689, 690, 691, 692, 693, 694, 695, 696] (by decide +kernel) (by decide +kernel)
set_option maxRecDepth 20000 in
theorem gL_law_X5_spin : GoodIn wsL_law (wsV RL 96 RX5 yX5_spin wsX5_spin) := goodIn_app (goodIn_of _ (by decide +kernel)) ggL_law_X5_spin
set_option maxRecDepth 20000 in
theorem ggL_law_L_bound : GoodIn wsL_law wsL_bound := goodIn_ca (goodIn_ca (goodIn_r _ [311, 99, 101, 312, 313, 314, 2, 315, 110, 111, 176, 210, 211, 212, 213, 106, 107, 14, 113, 114, 115, 116, 316, 317, 318, 319, 169, 121, 162, 163, 160, 164, 122, 123, 124, 24, 125, 126, 127, 320, 321, 322, 323, 136, 32, 218, 324, 325, 224, 150, 151, 38, 152, 153, 326, 327, 328, 329, 330, 331, 332, 333, 334, 335, 336, 337, 338, 133, 697, 698, 699, 700, 701, 702, 703, 704, 705, 706, 655, 656, 657, 658, 659, 660, 661, 662, 721, 722, 723, 724, 725, 726, 727, 728] (by decide +kernel) (by decide +kernel)) (goodIn_sub (fun _ h => List.mem_append_right _ h) (by decide +kernel))) (goodIn_sub (fun _ h => List.mem_append_left _ (List.mem_append_left _ (List.mem_append_right _ h))) (by decide +kernel))
set_option maxRecDepth 20000 in
theorem gL_law_L_bound : GoodIn wsL_law (va_wsS RL 97 yL_bound wsL_bound) := goodIn_app (goodIn_of _ (by decide +kernel)) ggL_law_L_bound
set_option maxRecDepth 20000 in
theorem ggL_law_X5_bound : GoodIn wsL_law wsX5_bound := goodIn_r _ [342, 245, 246, 247, 5, 248, 58, 187, 188, 189, 194, 195, 196, 197, 198, 283, 284, 285, 286, 68, 63, 67, 65, 343, 344, 345, 346, 62, 66, 301, 302, 303, 304, 305, 306, 307, 308, 347, 348, 349, 350, 59, 351, 352, 353, 354, 61, 60, 663, 664, 665, 666, 667, 668, 669, 670, 671, 672, 673, 674, 675, 676, 677, 678, 679, 680, 681, 682, 683, 684, 685, 686, 687, 688, 689, 690, 691, 692, 693, 694, 695, 696] (by decide +kernel) (by decide +kernel)
set_option maxRecDepth 20000 in
theorem gL_law_X5_bound : GoodIn wsL_law (wsV RL 99 RX5 yX5_bound wsX5_bound) := goodIn_app (goodIn_of _ (by decide +kernel)) ggL_law_X5_bound
set_option maxRecDepth 20000 in
theorem ggL_law_L_seal : GoodIn wsL_law wsL_seal := goodIn_ca (goodIn_r _ [357, 100, 358, 359, 360, 2, 361, 108, 109, 112, 14, 113, 326, 327, 328, 329, 176, 330, 316, 317, 318, 319, 169, 121, 162, 163, 160, 164, 122, 123, 124, 24, 125, 126, 127, 320, 321, 322, 323, 136, 32, 218, 324, 325, 224, 150, 151, 38, 152, 153, 331, 332, 333, 334, 335, 336, 337, 338, 133, 655, 656, 657, 658, 659, 660, 661, 662, 697, 698, 699, 700, 701, 702, 703, 704, 705, 706, 721, 722, 723, 724, 725, 726, 727, 728] (by decide +kernel) (by decide +kernel)) (goodIn_sub (fun _ h => List.mem_append_left _ (List.mem_append_right _ h)) (by decide +kernel))
set_option maxRecDepth 20000 in
theorem gL_law_L_seal : GoodIn wsL_law (va_wsS RL 100 yL_seal wsL_seal) := goodIn_app (goodIn_of _ (by decide +kernel)) ggL_law_L_seal
set_option maxRecDepth 20000 in
theorem ggL_law_X5_seal : GoodIn wsL_law wsX5_seal := goodIn_r _ [365, 186, 58, 194, 195, 196, 5, 197, 198, 283, 284, 285, 286, 68, 63, 67, 65, 351, 352, 353, 354, 61, 59, 60, 343, 344, 345, 346, 62, 66, 301, 302, 303, 304, 305, 306, 307, 308, 347, 348, 349, 350, 89, 90, 91, 92, 93, 94, 70, 71, 79, 80, 81, 82, 78, 83, 84, 85, 86, 88, 663, 664, 665, 666, 667, 668, 669, 670, 671, 672, 673, 674, 675, 676, 677, 678, 679, 680, 681, 682, 683, 684, 685, 686, 687, 688, 689, 690, 691, 692, 693, 694, 695, 696] (by decide +kernel) (by decide +kernel)
set_option maxRecDepth 20000 in
theorem gL_law_X5_seal : GoodIn wsL_law (wsV RL 103 RX5 yX5_seal wsX5_seal) := goodIn_app (goodIn_of _ (by decide +kernel)) ggL_law_X5_seal
set_option maxRecDepth 20000 in
theorem ggL_law_L_unseal : GoodIn wsL_law wsL_unseal := goodIn_ca (goodIn_r _ [368, 100, 369, 370, 371, 2, 372, 108, 109, 112, 373, 21, 22, 14, 374, 375, 376, 377, 378, 379, 50, 51, 52, 53, 380, 381, 382, 24, 383, 136, 32, 36, 384, 385, 386, 38, 387, 388, 389, 390, 391, 392, 35, 393, 394, 395, 396, 397, 398, 655, 656, 657, 658, 659, 660, 661, 662, 697, 698, 699, 700, 701, 702, 703, 704, 705, 706, 709, 710, 711, 712, 713, 714, 715, 716, 717, 718, 719, 720, 721, 722, 723, 724, 725, 726, 727, 728] (by decide +kernel) (by decide +kernel)) (goodIn_sub (fun _ h => List.mem_append_left _ (List.mem_append_right _ h)) (by decide +kernel))
set_option maxRecDepth 20000 in
theorem gL_law_L_unseal : GoodIn wsL_law (va_wsS RL 104 yL_unseal wsL_unseal) := goodIn_app (goodIn_of _ (by decide +kernel)) ggL_law_L_unseal
set_option maxRecDepth 20000 in
theorem ggL_law_X5_unseal : GoodIn wsL_law wsX5_unseal := goodIn_r _ [402, 186, 403, 404, 405, 5, 406, 70, 194, 195, 196, 197, 198, 89, 90, 91, 92, 93, 94, 71, 79, 80, 81, 82, 78, 66, 83, 84, 85, 86, 88, 663, 664, 665, 666, 667, 668, 669, 670, 671, 672, 673, 674, 675, 676, 677, 678, 679, 680, 681, 682, 683, 684, 685, 686, 687, 688, 689, 690, 691, 692, 693, 694, 695, 696] (by decide +kernel) (by decide +kernel)
set_option maxRecDepth 20000 in
theorem gL_law_X5_unseal : GoodIn wsL_law (wsV RL 107 RX5 yX5_unseal wsX5_unseal) := goodIn_app (goodIn_of _ (by decide +kernel)) ggL_law_X5_unseal
set_option maxRecDepth 20000 in
theorem ggL_law_L_arrive : GoodIn wsL_law wsL_arrive := goodIn_ca (goodIn_ca (goodIn_r _ [409, 99, 100, 410, 411, 412, 2, 413, 108, 109, 112, 378, 414, 373, 415, 416, 210, 211, 212, 213, 106, 107, 14, 113, 114, 115, 116, 417, 418, 419, 24, 420, 136, 32, 36, 421, 422, 423, 38, 424, 388, 239, 425, 426, 427, 428, 429, 224, 150, 151, 152, 153, 430, 431, 432, 35, 433, 394, 434, 435, 42, 436, 437, 655, 656, 657, 658, 659, 660, 661, 662, 697, 698, 699, 700, 701, 702, 703, 704, 705, 706, 709, 710, 711, 712, 713, 714, 715, 716, 717, 718, 719, 720, 721, 722, 723, 724, 725, 726, 727, 728] (by decide +kernel) (by decide +kernel)) (goodIn_sub (fun _ h => List.mem_append_left _ (List.mem_append_right _ h)) (by decide +kernel))) (goodIn_sub (fun _ h => List.mem_append_left _ (List.mem_append_left _ (List.mem_append_right _ h))) (by decide +kernel))
set_option maxRecDepth 20000 in
theorem gL_law_L_arrive : GoodIn wsL_law (va_wsS RL 108 yL_arrive wsL_arrive) := goodIn_app (goodIn_of _ (by decide +kernel)) ggL_law_L_arrive
set_option maxRecDepth 20000 in
theorem ggL_law_X5_arrive : GoodIn wsL_law wsX5_arrive := goodIn_r _ [441, 186, 71, 93, 72, 60, 70, 73, 74, 63, 77, 78, 66, 245, 246, 247, 5, 248, 58, 194, 195, 196, 197, 198, 442, 443, 444, 445, 301, 302, 303, 304, 67, 663, 664, 665, 666, 667, 668, 669, 670, 671, 672, 673, 674, 675, 676, 677, 678, 679, 680, 681, 682, 683, 684, 685, 686, 687, 688, 689, 690, 691, 692, 693, 694, 695, 696] (by decide +kernel) (by decide +kernel)
set_option maxRecDepth 20000 in
theorem gL_law_X5_arrive : GoodIn wsL_law (wsV RL 110 RX5 yX5_arrive wsX5_arrive) := goodIn_app (goodIn_of _ (by decide +kernel)) ggL_law_X5_arrive
set_option maxRecDepth 20000 in
theorem ggL_law_L_shorten : GoodIn wsL_law wsL_shorten := goodIn_ca (goodIn_ca (goodIn_ca (goodIn_r _ [448, 99, 100, 101, 449, 450, 451, 2, 452, 108, 109, 110, 111, 112, 170, 453, 210, 211, 212, 213, 106, 107, 14, 113, 114, 115, 116, 294, 295, 296, 145, 146, 149, 150, 151, 38, 152, 153, 655, 656, 657, 658, 659, 660, 661, 662, 721, 722, 723, 724, 725, 726, 727, 728, 697, 698, 699, 700, 701, 702, 703, 704, 705, 706] (by decide +kernel) (by decide +kernel)) (goodIn_sub (fun _ h => List.mem_append_left _ (List.mem_append_right _ h)) (by decide +kernel))) (goodIn_sub (fun _ h => List.mem_append_right _ h) (by decide +kernel))) (goodIn_sub (fun _ h => List.mem_append_left _ (List.mem_append_left _ (List.mem_append_right _ h))) (by decide +kernel))
set_option maxRecDepth 20000 in
theorem gL_law_L_shorten : GoodIn wsL_law (va_wsS RL 111 yL_shorten wsL_shorten) := goodIn_app (goodIn_of _ (by decide +kernel)) ggL_law_L_shorten
set_option maxRecDepth 20000 in
theorem ggL_law_X5_shorten : GoodIn wsL_law wsX5_shorten := goodIn_r _ [457, 186, 66, 78, 257, 258, 259, 5, 260, 63, 245, 246, 247, 248, 58, 301, 302, 303, 304, 67, 187, 188, 189, 194, 195, 196, 197, 198, 663, 664, 665, 666, 667, 668, 669, 670, 671, 672, 673, 674, 675, 676, 677, 678, 679, 680, 681, 682, 683, 684, 685, 686, 687, 688, 689, 690, 691, 692, 693, 694, 695, 696] (by decide +kernel) (by decide +kernel)
set_option maxRecDepth 20000 in
theorem gL_law_X5_shorten : GoodIn wsL_law (wsV RL 114 RX5 yX5_shorten wsX5_shorten) := goodIn_app (goodIn_of _ (by decide +kernel)) ggL_law_X5_shorten
set_option maxRecDepth 20000 in
theorem ggL_law_L_tick : GoodIn wsL_law wsL_tick := goodIn_ca (goodIn_ca (goodIn_r _ [460, 100, 101, 461, 462, 463, 2, 464, 108, 109, 110, 111, 112, 465, 158, 159, 160, 161, 162, 163, 164, 373, 114, 115, 116, 466, 467, 468, 469, 21, 470, 471, 472, 473, 14, 378, 474, 475, 476, 477, 478, 379, 121, 122, 123, 124, 24, 125, 126, 127, 479, 480, 481, 482, 147, 483, 484, 485, 486, 36, 487, 136, 223, 488, 489, 490, 491, 492, 32, 493, 494, 495, 496, 497, 498, 499, 500, 501, 502, 503, 504, 16, 18, 505, 506, 507, 26, 508, 509, 49, 510, 511, 512, 513, 514, 515, 516, 517, 518, 519, 520, 521, 522, 523, 524, 525, 526, 527, 528, 529, 530, 531, 135, 532, 533, 534, 535, 22, 536, 537, 538, 539, 540, 541, 542, 543, 544, 545, 325, 546, 547, 548, 549, 550, 551, 552, 553, 554, 555, 556, 557, 558, 559, 426, 427, 428, 429, 224, 150, 151, 38, 152, 153, 560, 561, 562, 563, 564, 565, 566, 567, 134, 568, 569, 570, 35, 571, 434, 395, 435, 398, 397, 572, 396, 655, 656, 657, 658, 659, 660, 661, 662, 697, 698, 699, 700, 701, 702, 703, 704, 705, 706, 709, 710, 711, 712, 713, 714, 715, 716, 717, 718, 719, 720, 721, 722, 723, 724, 725, 726, 727, 728, 707, 708] (by decide +kernel) (by decide +kernel)) (goodIn_sub (fun _ h => List.mem_append_left _ (List.mem_append_right _ h)) (by decide +kernel))) (goodIn_sub (fun _ h => List.mem_append_right _ h) (by decide +kernel))
set_option maxRecDepth 20000 in
theorem gL_law_L_tick : GoodIn wsL_law (va_wsS RL 115 yL_tick wsL_tick) := goodIn_app (goodIn_of _ (by decide +kernel)) ggL_law_L_tick
set_option maxRecDepth 20000 in
theorem ggL_law_X5_tick : GoodIn wsL_law wsX5_tick := goodIn_r _ [576, 186, 577, 88, 84, 87, 93, 85, 86, 83, 187, 188, 5, 189, 194, 195, 196, 197, 198, 578, 579, 580, 581, 70, 58, 59, 74, 63, 73, 64, 76, 75, 77, 582, 583, 584, 585, 68, 65, 586, 587, 588, 589, 82, 62, 590, 591, 592, 593, 442, 443, 444, 445, 301, 302, 303, 304, 67, 594, 595, 596, 597, 79, 81, 72, 80, 61, 94, 403, 404, 405, 406, 663, 664, 665, 666, 667, 668, 669, 670, 671, 672, 673, 674, 675, 676, 677, 678, 679, 680, 681, 682, 683, 684, 685, 686, 687, 688, 689, 690, 691, 692, 693, 694, 695, 696] (by decide +kernel) (by decide +kernel)
set_option maxRecDepth 20000 in
theorem gL_law_X5_tick : GoodIn wsL_law (wsV RL 117 RX5 yX5_tick wsX5_tick) := goodIn_app (goodIn_of _ (by decide +kernel)) ggL_law_X5_tick
set_option maxRecDepth 20000 in
theorem ggL_law_L_core : GoodIn wsL_law wsL_core := goodIn_ca (goodIn_ca (goodIn_r _ [600, 99, 101, 601, 602, 603, 2, 604, 106, 107, 110, 111, 21, 22, 114, 115, 116, 655, 656, 657, 658, 659, 660, 661, 662] (by decide +kernel) (by decide +kernel)) (goodIn_sub (fun _ h => List.mem_append_left _ (List.mem_append_left _ (List.mem_append_right _ h))) (by decide +kernel))) (goodIn_sub (fun _ h => List.mem_append_right _ h) (by decide +kernel))
set_option maxRecDepth 20000 in
theorem gL_law_L_core : GoodIn wsL_law (va_wsS RL 118 yL_core wsL_core) := goodIn_app (goodIn_of _ (by decide +kernel)) ggL_law_L_core
set_option maxRecDepth 20000 in
theorem ggL_law_X5_core : GoodIn wsL_law wsX5_core := goodIn_r _ [608, 85, 86, 187, 188, 5, 189, 194, 195, 196, 197, 198, 663, 664, 665, 666, 667, 668, 669, 670, 671, 672, 673, 674, 675, 676, 677, 678, 679, 680, 681, 682, 683, 684, 685, 686, 687, 688, 689, 690, 691, 692, 693, 694, 695, 696] (by decide +kernel) (by decide +kernel)
set_option maxRecDepth 20000 in
theorem gL_law_X5_core : GoodIn wsL_law (wsV RL 120 RX5 yX5_core wsX5_core) := goodIn_app (goodIn_of _ (by decide +kernel)) ggL_law_X5_core
set_option maxRecDepth 20000 in
theorem ggL_law_L_row : GoodIn wsL_law wsL_row := goodIn_ca (goodIn_r _ [611, 99, 612, 613, 614, 2, 615, 106, 107, 114, 115, 116, 501, 502, 503, 504, 16, 18, 514, 515, 516, 26, 517, 509, 49, 655, 656, 657, 658, 659, 660, 661, 662, 707, 708] (by decide +kernel) (by decide +kernel)) (goodIn_sub (fun _ h => List.mem_append_left _ (List.mem_append_left _ (List.mem_append_right _ h))) (by decide +kernel))
set_option maxRecDepth 20000 in
theorem gL_law_L_row : GoodIn wsL_law (va_wsS RL 121 yL_row wsL_row) := goodIn_app (goodIn_of _ (by decide +kernel)) ggL_law_L_row
set_option maxRecDepth 20000 in
theorem ggL_law_X5_row : GoodIn wsL_law wsX5_row := goodIn_r _ [619, 68, 88, 87, 187, 188, 5, 189, 194, 195, 196, 197, 198, 283, 284, 285, 286, 63, 67, 65, 663, 664, 665, 666, 667, 668, 669, 670, 671, 672, 673, 674, 675, 676, 677, 678, 679, 680, 681, 682, 683, 684, 685, 686, 687, 688, 689, 690, 691, 692, 693, 694, 695, 696] (by decide +kernel) (by decide +kernel)
set_option maxRecDepth 20000 in
theorem gL_law_X5_row : GoodIn wsL_law (wsV RL 123 RX5 yX5_row wsX5_row) := goodIn_app (goodIn_of _ (by decide +kernel)) ggL_law_X5_row
set_option maxRecDepth 20000 in
theorem ggL_law_L_jobs : GoodIn wsL_law wsL_jobs := goodIn_ca (goodIn_ca (goodIn_r _ [622, 99, 101, 623, 624, 625, 2, 626, 110, 111, 378, 627, 628, 629, 379, 210, 211, 212, 213, 106, 107, 14, 113, 114, 115, 116, 697, 698, 699, 700, 701, 702, 703, 704, 705, 706, 709, 710, 711, 712, 713, 714, 715, 716, 717, 718, 719, 720, 655, 656, 657, 658, 659, 660, 661, 662] (by decide +kernel) (by decide +kernel)) (goodIn_sub (fun _ h => List.mem_append_right _ h) (by decide +kernel))) (goodIn_sub (fun _ h => List.mem_append_left _ (List.mem_append_left _ (List.mem_append_right _ h))) (by decide +kernel))
set_option maxRecDepth 20000 in
theorem gL_law_L_jobs : GoodIn wsL_law (va_wsS RL 124 yL_jobs wsL_jobs) := goodIn_app (goodIn_of _ (by decide +kernel)) ggL_law_L_jobs
set_option maxRecDepth 20000 in
theorem ggL_law_X5_jobs : GoodIn wsL_law wsX5_jobs := goodIn_r _ [633, 79, 80, 81, 70, 245, 246, 247, 5, 248, 58, 187, 188, 189, 194, 195, 196, 197, 198, 663, 664, 665, 666, 667, 668, 669, 670, 671, 672, 673, 674, 675, 676, 677, 678, 679, 680, 681, 682, 683, 684, 685, 686, 687, 688, 689, 690, 691, 692, 693, 694, 695, 696] (by decide +kernel) (by decide +kernel)
set_option maxRecDepth 20000 in
theorem gL_law_X5_jobs : GoodIn wsL_law (wsV RL 126 RX5 yX5_jobs wsX5_jobs) := goodIn_app (goodIn_of _ (by decide +kernel)) ggL_law_X5_jobs
set_option maxRecDepth 20000 in
theorem ggL_law_L_spun : GoodIn wsL_law wsL_spun := goodIn_ca (goodIn_r _ [636, 99, 637, 638, 639, 2, 640, 641, 210, 211, 212, 213, 106, 107, 14, 113, 114, 115, 116, 294, 295, 296, 145, 146, 721, 722, 723, 724, 725, 726, 727, 728, 655, 656, 657, 658, 659, 660, 661, 662, 697, 698, 699, 700, 701, 702, 703, 704, 705, 706] (by decide +kernel) (by decide +kernel)) (goodIn_sub (fun _ h => List.mem_append_left _ (List.mem_append_left _ (List.mem_append_right _ h))) (by decide +kernel))
set_option maxRecDepth 20000 in
theorem gL_law_L_spun : GoodIn wsL_law (va_wsS RL 127 yL_spun wsL_spun) := goodIn_app (goodIn_of _ (by decide +kernel)) ggL_law_L_spun
set_option maxRecDepth 20000 in
theorem ggL_law_X5_spun : GoodIn wsL_law wsX5_spun := goodIn_r _ [645, 82, 257, 258, 259, 5, 260, 63, 245, 246, 247, 248, 58, 194, 195, 196, 197, 198, 663, 664, 665, 666, 667, 668, 669, 670, 671, 672, 673, 674, 675, 676, 677, 678, 679, 680, 681, 682, 683, 684, 685, 686, 687, 688, 689, 690, 691, 692, 693, 694, 695, 696] (by decide +kernel) (by decide +kernel)
set_option maxRecDepth 20000 in
theorem gL_law_X5_spun : GoodIn wsL_law (wsV RL 129 RX5 yX5_spun wsX5_spun) := goodIn_app (goodIn_of _ (by decide +kernel)) ggL_law_X5_spun
set_option maxRecDepth 20000 in
theorem ggL_law_X4_late : GoodIn wsL_law wsX4_late := goodIn_r _ [649, 14, 378, 650, 379, 373, 415, 330, 655, 656, 657, 658, 659, 660, 661, 662, 697, 698, 699, 700, 701, 702, 703, 704, 705, 706, 709, 710, 711, 712, 713, 714, 715, 716, 717, 718, 719, 720] (by decide +kernel) (by decide +kernel)
set_option maxRecDepth 20000 in
theorem gL_law_X4_late : GoodIn wsL_law (wsV RL 130 RX4 yX4_late wsX4_late) := goodIn_app (goodIn_of _ (by decide +kernel)) ggL_law_X4_late
set_option maxRecDepth 20000 in
theorem ggL_law_X5_late : GoodIn wsL_law wsX5_late := goodIn_r _ [654, 198, 94, 70, 93, 72, 61, 663, 664, 665, 666, 667, 668, 669, 670, 671, 672, 673, 674, 675, 676, 677, 678, 679, 680, 681, 682, 683, 684, 685, 686, 687, 688, 689, 690, 691, 692, 693, 694, 695, 696] (by decide +kernel) (by decide +kernel)
set_option maxRecDepth 20000 in
theorem gL_law_X5_late : GoodIn wsL_law (wsV RL 133 RX5 yX5_late wsX5_late) := goodIn_app (goodIn_of _ (by decide +kernel)) ggL_law_X5_late
