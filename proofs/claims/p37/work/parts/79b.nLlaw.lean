set_option maxRecDepth 20000 in
theorem ggL_law_X8_pointCount : GoodIn wsL_law wsX8_pointCount := goodIn_r _ [127, 12, 128, 129, 130, 11, 131, 94, 767, 768, 769, 770, 771, 772, 773, 774, 775, 776, 777, 778, 779, 780] (by decide +kernel) (by decide +kernel)
set_option maxRecDepth 20000 in
theorem gL_law_X8_pointCount : GoodIn wsL_law (wsV RL 107 RX8 yX8_pointCount wsX8_pointCount) := goodIn_app (goodIn_of _ (by decide +kernel)) ggL_law_X8_pointCount
set_option maxRecDepth 20000 in
theorem ggL_law_X8_bound : GoodIn wsL_law wsX8_bound := goodIn_r _ [600, 16, 339, 340, 341, 15, 342, 110, 767, 768, 769, 770, 771, 772, 773, 774, 775, 781, 782, 783, 784, 785, 786, 787, 788] (by decide +kernel) (by decide +kernel)
set_option maxRecDepth 20000 in
theorem gL_law_X8_bound : GoodIn wsL_law (wsV RL 210 RX8 yX8_bound wsX8_bound) := goodIn_app (goodIn_of _ (by decide +kernel)) ggL_law_X8_bound
set_option maxRecDepth 20000 in
theorem ggL_law_L_cell : GoodIn wsL_law wsL_cell := goodIn_r _ [603, 604, 605] (by decide +kernel) (by decide +kernel)
set_option maxRecDepth 20000 in
theorem gL_law_L_cell : GoodIn wsL_law (va_wsS RL 248 yL_cell wsL_cell) := goodIn_app (goodIn_of _ (by decide +kernel)) ggL_law_L_cell
set_option maxRecDepth 20000 in
theorem ggL_law_L_act : GoodIn wsL_law wsL_act := goodIn_ca (goodIn_ca (goodIn_ca (goodIn_0 (goodIn_ch 0 120 (goodIn_r _ [608, 124, 125, 126, 2, 127, 12, 128, 129, 130, 11, 131, 94, 609, 610, 120, 611, 605, 612, 613, 614, 615, 21, 616, 617, 618, 20, 619, 152, 132, 133, 134, 135, 136, 137, 138, 139, 140, 141, 142, 143, 144, 145, 146, 147, 148, 149, 150, 151, 153, 154, 155, 156, 58, 620, 621, 622, 623, 624, 625, 626, 627, 628, 629, 630, 631, 632, 633, 634, 635, 636, 637, 638, 639, 640, 641, 642, 643, 644, 645, 646, 647, 648, 649, 650, 651, 652, 653, 654, 655, 656, 657, 658, 659, 660, 661, 662, 663, 664, 665, 666, 667, 16, 25, 29, 668, 669, 670, 671, 672, 673, 674, 675, 676, 677, 678, 679, 680, 681, 682] (by decide +kernel) (by decide +kernel)) (goodIn_ch 120 120 (goodIn_r _ [683, 684, 685, 686, 687, 688, 689, 690, 691, 692, 693, 694, 695, 696, 87, 88, 89, 90, 91, 92, 93, 43, 44, 95, 96, 97, 98, 45, 46, 99, 100, 101, 102, 103, 104, 105, 697, 107, 108, 15, 109, 52, 53, 110, 111, 112, 113, 114, 115, 116, 117, 698, 699, 700, 701, 702, 703, 325, 326, 327, 50, 51, 593, 594, 595, 24, 596, 253, 252, 704, 705, 706, 28, 707, 72, 223, 224, 225, 160, 226, 227, 228, 229, 165, 166, 167, 168, 169, 170, 171, 172, 173, 174, 230, 231, 232, 233, 234, 235, 236, 237, 238, 239, 240, 241, 242, 220, 221, 222, 243, 187, 188, 189, 244, 245, 246, 247, 248, 249, 250] (by decide +kernel) (by decide +kernel)) (goodIn_ch 240 120 (goodIn_r _ [251, 64, 254, 255, 256, 257, 258, 259, 260, 261, 262, 263, 264, 265, 266, 267, 268, 269, 270, 271, 272, 273, 274, 275, 276, 277, 278, 279, 280, 281, 282, 283, 284, 285, 286, 209, 210, 211, 287, 288, 289, 290, 291, 292, 293, 294, 219, 295, 296, 297, 298, 299, 300, 301, 302, 303, 304, 305, 306, 307, 308, 309, 310, 311, 312, 313, 314, 315, 316, 317, 318, 319, 320, 321, 322, 323, 197, 198, 199, 200, 324, 708, 709, 710, 711, 712, 713, 714, 715, 716, 717, 718, 719, 720, 721, 722, 328, 329, 330, 331, 332, 333, 334, 335, 336, 337, 338, 339, 340, 341, 342, 343, 344, 345, 346, 559, 560, 561, 562, 563] (by decide +kernel) (by decide +kernel)) (goodIn_r _ [564, 565, 566, 567, 568, 569, 570, 571, 572, 70, 573, 574, 575, 576, 577, 578, 579, 580, 581, 582, 583, 584, 585, 586, 587, 588, 589, 590, 591, 592, 767, 768, 769, 770, 771, 772, 773, 774, 775, 776, 777, 778, 779, 780, 789, 790, 781, 782, 783, 784, 785, 786, 787, 788, 791, 792, 793, 794, 795] (by decide +kernel) (by decide +kernel)))))) (goodIn_sub (fun _ h => List.mem_append_left _ (List.mem_append_left _ (List.mem_append_right _ h))) (by decide +kernel))) (goodIn_sub (fun _ h => List.mem_append_left _ (List.mem_append_right _ h)) (by decide +kernel))) (goodIn_sub (fun _ h => List.mem_append_right _ h) (by decide +kernel))
set_option maxRecDepth 20000 in
theorem gL_law_L_act : GoodIn wsL_law (va_wsS RL 252 yL_act wsL_act) := goodIn_app (goodIn_of _ (by decide +kernel)) ggL_law_L_act
set_option maxRecDepth 20000 in
theorem ggL_law_L_alike : GoodIn wsL_law wsL_alike := goodIn_ca (goodIn_ca (goodIn_0 (goodIn_ch 0 120 (goodIn_r _ [725, 726, 124, 125, 126, 2, 127, 12, 128, 129, 130, 11, 131, 94, 727, 728, 120, 729, 730, 731, 732, 733, 734, 735, 736, 737, 738, 739, 740, 16, 574, 575, 576, 15, 577, 112, 741, 742, 743, 744, 555, 556, 557, 558, 113, 597, 598, 599, 600, 339, 340, 341, 342, 110, 157, 158, 159, 160, 161, 162, 163, 164, 165, 166, 167, 168, 169, 170, 171, 172, 173, 174, 175, 176, 177, 178, 53, 179, 180, 181, 182, 183, 184, 185, 186, 187, 188, 189, 52, 50, 190, 191, 192, 193, 194, 195, 196, 197, 198, 199, 200, 212, 213, 214, 215, 216, 217, 218, 219, 220, 221, 222, 111, 201, 202, 203, 135, 204, 205, 206] (by decide +kernel) (by decide +kernel)) (goodIn_ch 120 120 (goodIn_r _ [207, 143, 144, 145, 146, 147, 208, 209, 210, 211, 51, 745, 746, 747, 748, 21, 668, 669, 670, 20, 671, 152, 672, 673, 674, 675, 676, 677, 678, 679, 58, 680, 681, 682, 683, 684, 685, 686, 687, 688, 689, 690, 691, 749, 750, 751, 752, 389, 282, 283, 284, 285, 234, 235, 236, 237, 238, 91, 92, 93, 239, 240, 241, 242, 243, 244, 245, 246, 247, 46, 45, 90, 286, 347, 348, 349, 350, 351, 352, 353, 230, 231, 232, 233, 354, 355, 356, 357, 358, 359, 360, 361, 362, 363, 364, 365, 366, 367, 368, 369, 370, 371, 372, 373, 374, 375, 376, 377, 378, 379, 380, 413, 414, 415, 416, 417, 418, 419, 420, 421] (by decide +kernel) (by decide +kernel)) (goodIn_ch 240 120 (goodIn_r _ [422, 423, 424, 409, 410, 411, 412, 100, 101, 102, 43, 103, 104, 105, 44, 401, 402, 403, 404, 405, 406, 407, 408, 390, 391, 392, 393, 394, 395, 396, 397, 398, 399, 400, 425, 426, 427, 428, 429, 430, 431, 33, 432, 433, 434, 32, 435, 436, 437, 438, 439, 81, 440, 441, 115, 116, 117, 442, 443, 444, 445, 446, 77, 78, 76, 447, 448, 449, 450, 451, 452, 453, 79, 454, 455, 456, 457, 458, 459, 460, 461, 462, 80, 463, 259, 260, 261, 464, 465, 466, 467, 468, 469, 470, 471, 472, 473, 474, 475, 476, 477, 478, 479, 480, 381, 382, 383, 384, 385, 386, 387, 17, 388, 255, 256, 257, 258, 277, 278, 279] (by decide +kernel) (by decide +kernel)) (goodIn_ch 360 120 (goodIn_r _ [280, 281, 287, 263, 264, 265, 266, 267, 268, 269, 481, 482, 483, 484, 485, 486, 487, 37, 488, 489, 490, 36, 491, 85, 492, 493, 494, 495, 496, 497, 498, 499, 500, 501, 502, 503, 504, 505, 506, 507, 508, 539, 540, 541, 542, 543, 544, 545, 546, 547, 548, 549, 550, 551, 552, 553, 296, 297, 298, 554, 509, 510, 511, 512, 513, 514, 515, 38, 516, 517, 518, 519, 520, 521, 522, 523, 524, 525, 526, 527, 528, 529, 530, 531, 532, 533, 534, 535, 536, 537, 538, 767, 768, 769, 770, 771, 772, 773, 774, 775, 776, 777, 778, 779, 780, 781, 782, 783, 784, 785, 786, 787, 788, 789, 790, 796, 797, 798, 799, 800] (by decide +kernel) (by decide +kernel)) (goodIn_r _ [801, 802, 803, 804, 805, 806] (by decide +kernel) (by decide +kernel))))))) (goodIn_sub (fun _ h => List.mem_append_right _ h) (by decide +kernel))) (goodIn_sub (fun _ h => List.mem_append_left _ (List.mem_append_right _ h)) (by decide +kernel))
set_option maxRecDepth 20000 in
theorem gL_law_L_alike : GoodIn wsL_law (va_wsS RL 255 yL_alike wsL_alike) := goodIn_app (goodIn_of _ (by decide +kernel)) ggL_law_L_alike
set_option maxRecDepth 20000 in
theorem ggL_law_L_bounds : GoodIn wsL_law wsL_bounds := goodIn_ca (goodIn_ca (goodIn_0 (goodIn_ch 0 120 (goodIn_r _ [755, 124, 125, 126, 2, 127, 12, 128, 129, 130, 11, 131, 94, 179, 180, 120, 181, 160, 182, 183, 184, 185, 16, 165, 166, 167, 168, 169, 170, 171, 172, 173, 174, 186, 187, 188, 15, 189, 52, 50, 756, 757, 758, 597, 598, 599, 600, 339, 340, 341, 342, 110, 157, 158, 159, 161, 162, 163, 164, 175, 176, 177, 178, 53, 212, 213, 214, 215, 216, 217, 218, 219, 220, 221, 222, 111, 201, 202, 203, 135, 204, 205, 206, 207, 143, 144, 145, 146, 147, 208, 209, 210, 211, 51, 354, 355, 356, 357, 358, 359, 360, 361, 362, 363, 364, 365, 366, 367, 368, 46, 369, 370, 371, 372, 45, 373, 374, 375, 376, 377] (by decide +kernel) (by decide +kernel)) (goodIn_r _ [378, 379, 380, 235, 236, 237, 238, 91, 92, 93, 239, 240, 241, 242, 243, 244, 245, 246, 247, 90, 347, 348, 349, 350, 351, 352, 353, 230, 231, 232, 233, 234, 190, 191, 192, 193, 194, 195, 196, 197, 198, 199, 200, 749, 750, 751, 752, 389, 282, 283, 284, 285, 286, 381, 382, 383, 384, 385, 386, 387, 17, 388, 255, 256, 257, 258, 259, 260, 261, 112, 113, 277, 278, 279, 280, 281, 287, 263, 264, 265, 266, 267, 268, 269, 767, 768, 769, 770, 771, 772, 773, 774, 775, 776, 777, 778, 779, 780, 781, 782, 783, 784, 785, 786, 787, 788] (by decide +kernel) (by decide +kernel)))) (goodIn_sub (fun _ h => List.mem_append_right _ h) (by decide +kernel))) (goodIn_sub (fun _ h => List.mem_append_left _ (List.mem_append_right _ h)) (by decide +kernel))
set_option maxRecDepth 20000 in
theorem gL_law_L_bounds : GoodIn wsL_law (va_wsS RL 259 yL_bounds wsL_bounds) := goodIn_app (goodIn_of _ (by decide +kernel)) ggL_law_L_bounds
set_option maxRecDepth 20000 in
theorem ggL_law_L_wants : GoodIn wsL_law wsL_wants := goodIn_ca (goodIn_ca (goodIn_ca (goodIn_0 (goodIn_ch 0 120 (goodIn_r _ [761, 42, 124, 125, 126, 2, 127, 12, 128, 129, 130, 11, 131, 94, 401, 402, 120, 403, 160, 135, 404, 405, 406, 407, 16, 165, 166, 167, 168, 169, 170, 171, 172, 173, 174, 143, 144, 145, 146, 147, 408, 409, 410, 15, 411, 53, 110, 285, 412, 100, 101, 102, 43, 103, 104, 92, 105, 44, 242, 220, 221, 222, 111, 243, 187, 188, 189, 52, 50, 413, 414, 415, 416, 417, 418, 419, 420, 421, 422, 423, 424, 347, 348, 349, 350, 351, 352, 353, 230, 231, 232, 233, 234, 235, 236, 237, 238, 91, 93, 239, 240, 241, 244, 245, 246, 247, 46, 45, 90, 727, 728, 729, 730, 731, 732, 733, 734, 735, 736, 737] (by decide +kernel) (by decide +kernel)) (goodIn_ch 120 120 (goodIn_r _ [738, 739, 740, 574, 575, 576, 577, 112, 741, 742, 743, 744, 555, 556, 557, 558, 113, 597, 598, 599, 600, 339, 340, 341, 342, 157, 158, 159, 161, 162, 163, 164, 175, 176, 177, 178, 179, 180, 181, 182, 183, 184, 185, 186, 190, 191, 192, 193, 194, 195, 196, 197, 198, 199, 200, 212, 213, 214, 215, 216, 217, 218, 219, 201, 202, 203, 204, 205, 206, 207, 208, 209, 210, 211, 51, 559, 560, 561, 562, 563, 564, 565, 29, 566, 567, 568, 569, 570, 571, 28, 572, 70, 72, 573, 255, 256, 257, 258, 259, 260, 261, 223, 224, 225, 136, 226, 227, 228, 229, 141, 142, 25, 248, 249, 250, 24, 251, 252, 253, 64] (by decide +kernel) (by decide +kernel)) (goodIn_r _ [254, 262, 263, 264, 265, 266, 267, 268, 269, 578, 579, 580, 581, 582, 583, 584, 585, 586, 587, 588, 589, 590, 591, 592, 593, 594, 595, 596, 767, 768, 769, 770, 771, 772, 773, 774, 775, 776, 777, 778, 779, 780, 781, 782, 783, 784, 785, 786, 787, 788, 794, 795, 791, 792, 793] (by decide +kernel) (by decide +kernel))))) (goodIn_sub (fun _ h => List.mem_append_right _ h) (by decide +kernel))) (goodIn_sub (fun _ h => List.mem_append_left _ (List.mem_append_right _ h)) (by decide +kernel))) (goodIn_sub (fun _ h => List.mem_append_left _ (List.mem_append_left _ (List.mem_append_right _ h))) (by decide +kernel))
set_option maxRecDepth 20000 in
theorem gL_law_L_wants : GoodIn wsL_law (va_wsS RL 263 yL_wants wsL_wants) := goodIn_app (goodIn_of _ (by decide +kernel)) ggL_law_L_wants
set_option maxRecDepth 20000 in
theorem ggL_law_L_done : GoodIn wsL_law wsL_done := goodIn_ca (goodIn_ca (goodIn_ca (goodIn_0 (goodIn_ch 0 120 (goodIn_r _ [764, 42, 765, 766, 727, 728, 120, 729, 730, 731, 732, 733, 734, 735, 736, 737, 738, 739, 2, 740, 16, 574, 575, 576, 15, 577, 112, 741, 742, 743, 744, 555, 556, 557, 558, 113, 597, 598, 599, 600, 339, 340, 341, 342, 110, 124, 125, 126, 127, 12, 128, 129, 130, 11, 131, 94, 157, 158, 159, 160, 161, 162, 163, 164, 165, 166, 167, 168, 169, 170, 171, 172, 173, 174, 175, 176, 177, 178, 53, 179, 180, 181, 182, 183, 184, 185, 186, 187, 188, 189, 52, 50, 190, 191, 192, 193, 194, 195, 196, 197, 198, 199, 200, 212, 213, 214, 215, 216, 217, 218, 219, 220, 221, 222, 111, 201, 202, 203, 135, 204] (by decide +kernel) (by decide +kernel)) (goodIn_ch 120 120 (goodIn_r _ [205, 206, 207, 143, 144, 145, 146, 147, 208, 209, 210, 211, 51, 559, 560, 561, 562, 563, 564, 565, 29, 566, 567, 568, 569, 570, 571, 28, 572, 70, 72, 573, 255, 256, 257, 258, 259, 260, 261, 425, 426, 427, 428, 429, 430, 431, 33, 432, 433, 434, 32, 435, 436, 91, 92, 93, 437, 438, 439, 81, 440, 441, 115, 116, 117, 442, 443, 444, 445, 446, 77, 78, 76, 447, 448, 449, 450, 451, 452, 453, 79, 454, 240, 241, 455, 456, 457, 458, 459, 460, 461, 462, 80, 463, 464, 465, 466, 467, 468, 469, 470, 471, 472, 245, 246, 247, 46, 45, 90, 473, 474, 475, 476, 477, 478, 479, 480, 223, 224, 225] (by decide +kernel) (by decide +kernel)) (goodIn_ch 240 120 (goodIn_r _ [136, 226, 227, 228, 229, 141, 142, 25, 230, 231, 232, 233, 234, 235, 236, 237, 238, 239, 242, 243, 244, 248, 249, 250, 24, 251, 252, 253, 64, 254, 262, 263, 264, 265, 266, 267, 268, 269, 708, 709, 710, 711, 712, 713, 714, 715, 716, 717, 718, 719, 720, 721, 722, 381, 382, 383, 384, 385, 386, 387, 17, 388, 277, 278, 279, 280, 281, 282, 283, 284, 285, 286, 287, 389, 270, 271, 272, 273, 274, 275, 276, 509, 510, 511, 512, 513, 514, 515, 38, 488, 489, 490, 36, 491, 85, 492, 516, 517, 518, 519, 520, 502, 503, 504, 521, 506, 507, 508, 522, 523, 524, 525, 526, 527, 528, 529, 530, 531, 532, 533] (by decide +kernel) (by decide +kernel)) (goodIn_r _ [534, 535, 536, 296, 297, 298, 537, 538, 539, 540, 541, 542, 543, 544, 545, 546, 547, 548, 549, 550, 551, 552, 553, 554, 578, 579, 580, 581, 582, 583, 584, 585, 586, 587, 588, 589, 590, 591, 592, 593, 594, 595, 596, 767, 768, 769, 770, 771, 772, 773, 774, 775, 781, 782, 783, 784, 785, 786, 787, 788, 776, 777, 778, 779, 780, 794, 795, 796, 797, 798, 799, 800, 801, 802, 803, 804, 791, 792, 793, 805, 806] (by decide +kernel) (by decide +kernel)))))) (goodIn_sub (fun _ h => List.mem_append_right _ h) (by decide +kernel))) (goodIn_sub (fun _ h => List.mem_append_left _ (List.mem_append_right _ h)) (by decide +kernel))) (goodIn_sub (fun _ h => List.mem_append_left _ (List.mem_append_left _ (List.mem_append_right _ h))) (by decide +kernel))
set_option maxRecDepth 20000 in
theorem gL_law_L_done : GoodIn wsL_law (va_wsS RL 267 yL_done wsL_done) := goodIn_app (goodIn_of _ (by decide +kernel)) ggL_law_L_done
theorem dL_law_0 : decode cL_law 0 = .ok (.new 10, 3) := by decide +kernel
theorem dL_law_3 : decode cL_law 3 = .ok (.dup, 1) := by decide +kernel
theorem dL_law_4 : decode cL_law 4 = .ok (.invokespecial 243, 3) := by decide +kernel
theorem dL_law_7 : decode cL_law 7 = .ok (.astore_n 1, 1) := by decide +kernel
theorem dL_law_8 : decode cL_law 8 = .ok (.new 10, 3) := by decide +kernel
theorem dL_law_11 : decode cL_law 11 = .ok (.dup, 1) := by decide +kernel
theorem dL_law_12 : decode cL_law 12 = .ok (.invokespecial 243, 3) := by decide +kernel
theorem dL_law_15 : decode cL_law 15 = .ok (.astore_n 2, 1) := by decide +kernel
theorem dL_law_16 : decode cL_law 16 = .ok (.aload_n 2, 1) := by decide +kernel
theorem dL_law_17 : decode cL_law 17 = .ok (.invokestatic 244, 3) := by decide +kernel
theorem dL_law_20 : decode cL_law 20 = .ok (.ifCond .eq 23, 3) := by decide +kernel
theorem dL_law_23 : decode cL_law 23 = .ok (.aload_n 1, 1) := by decide +kernel
theorem dL_law_24 : decode cL_law 24 = .ok (.invokevirtual 107, 3) := by decide +kernel
theorem dL_law_27 : decode cL_law 27 = .ok (.iconst 4, 1) := by decide +kernel
theorem dL_law_28 : decode cL_law 28 = .ok (.if_icmp .ne 15, 3) := by decide +kernel
theorem dL_law_31 : decode cL_law 31 = .ok (.aload_n 1, 1) := by decide +kernel
theorem dL_law_32 : decode cL_law 32 = .ok (.invokevirtual 210, 3) := by decide +kernel
theorem dL_law_35 : decode cL_law 35 = .ok (.iconst 2, 1) := by decide +kernel
theorem dL_law_36 : decode cL_law 36 = .ok (.if_icmp .ne 7, 3) := by decide +kernel
theorem dL_law_39 : decode cL_law 39 = .ok (.iconst 1, 1) := by decide +kernel
theorem dL_law_40 : decode cL_law 40 = .ok (.goto 4, 3) := by decide +kernel
theorem dL_law_43 : decode cL_law 43 = .ok (.iconst 0, 1) := by decide +kernel
theorem dL_law_44 : decode cL_law 44 = .ok (.istore_n 3, 1) := by decide +kernel
theorem dL_law_45 : decode cL_law 45 = .ok (.iconst 2, 1) := by decide +kernel
theorem dL_law_46 : decode cL_law 46 = .ok (.istore 4, 2) := by decide +kernel
theorem dL_law_48 : decode cL_law 48 = .ok (.iconst 0, 1) := by decide +kernel
theorem dL_law_49 : decode cL_law 49 = .ok (.istore 5, 2) := by decide +kernel
theorem dL_law_51 : decode cL_law 51 = .ok (.iload 5, 2) := by decide +kernel
theorem dL_law_53 : decode cL_law 53 = .ok (.bipush 12, 2) := by decide +kernel
theorem dL_law_55 : decode cL_law 55 = .ok (.if_icmp .ge 226, 3) := by decide +kernel
theorem dL_law_58 : decode cL_law 58 = .ok (.iload_n 3, 1) := by decide +kernel
theorem dL_law_59 : decode cL_law 59 = .ok (.ifCond .eq 222, 3) := by decide +kernel
theorem dL_law_62 : decode cL_law 62 = .ok (.aload_n 0, 1) := by decide +kernel
theorem dL_law_63 : decode cL_law 63 = .ok (.iconst 2, 1) := by decide +kernel
theorem dL_law_64 : decode cL_law 64 = .ok (.iload 5, 2) := by decide +kernel
theorem dL_law_66 : decode cL_law 66 = .ok (.imul, 1) := by decide +kernel
theorem dL_law_67 : decode cL_law 67 = .ok (.invokestatic 248, 3) := by decide +kernel
theorem dL_law_70 : decode cL_law 70 = .ok (.istore 6, 2) := by decide +kernel
theorem dL_law_72 : decode cL_law 72 = .ok (.aload_n 0, 1) := by decide +kernel
theorem dL_law_73 : decode cL_law 73 = .ok (.iconst 2, 1) := by decide +kernel
theorem dL_law_74 : decode cL_law 74 = .ok (.iload 5, 2) := by decide +kernel
theorem dL_law_76 : decode cL_law 76 = .ok (.imul, 1) := by decide +kernel
theorem dL_law_77 : decode cL_law 77 = .ok (.iconst 1, 1) := by decide +kernel
theorem dL_law_78 : decode cL_law 78 = .ok (.iadd, 1) := by decide +kernel
theorem dL_law_79 : decode cL_law 79 = .ok (.invokestatic 248, 3) := by decide +kernel
theorem dL_law_82 : decode cL_law 82 = .ok (.istore 7, 2) := by decide +kernel
theorem dL_law_84 : decode cL_law 84 = .ok (.iload 5, 2) := by decide +kernel
theorem dL_law_86 : decode cL_law 86 = .ok (.bipush 6, 2) := by decide +kernel
theorem dL_law_88 : decode cL_law 88 = .ok (.irem, 1) := by decide +kernel
theorem dL_law_89 : decode cL_law 89 = .ok (.ifCond .ne 10, 3) := by decide +kernel
theorem dL_law_92 : decode cL_law 92 = .ok (.iload 6, 2) := by decide +kernel
theorem dL_law_94 : decode cL_law 94 = .ok (.bipush (-16), 2) := by decide +kernel
theorem dL_law_96 : decode cL_law 96 = .ok (.iand, 1) := by decide +kernel
theorem dL_law_97 : decode cL_law 97 = .ok (.istore 6, 2) := by decide +kernel
theorem dL_law_99 : decode cL_law 99 = .ok (.aload_n 1, 1) := by decide +kernel
theorem dL_law_100 : decode cL_law 100 = .ok (.iload 6, 2) := by decide +kernel
theorem dL_law_102 : decode cL_law 102 = .ok (.iload 7, 2) := by decide +kernel
theorem dL_law_104 : decode cL_law 104 = .ok (.invokestatic 252, 3) := by decide +kernel
theorem dL_law_107 : decode cL_law 107 = .ok (.istore 8, 2) := by decide +kernel
theorem dL_law_109 : decode cL_law 109 = .ok (.iload 6, 2) := by decide +kernel
theorem dL_law_111 : decode cL_law 111 = .ok (.bipush 15, 2) := by decide +kernel
theorem dL_law_113 : decode cL_law 113 = .ok (.iand, 1) := by decide +kernel
theorem dL_law_114 : decode cL_law 114 = .ok (.ifCond .ne 26, 3) := by decide +kernel
theorem dL_law_117 : decode cL_law 117 = .ok (.iload 6, 2) := by decide +kernel
theorem dL_law_119 : decode cL_law 119 = .ok (.iconst 4, 1) := by decide +kernel
theorem dL_law_120 : decode cL_law 120 = .ok (.ishr, 1) := by decide +kernel
theorem dL_law_121 : decode cL_law 121 = .ok (.bipush 31, 2) := by decide +kernel
theorem dL_law_123 : decode cL_law 123 = .ok (.irem, 1) := by decide +kernel
theorem dL_law_124 : decode cL_law 124 = .ok (.ifCond .eq 16, 3) := by decide +kernel
theorem dL_law_127 : decode cL_law 127 = .ok (.iconst 1, 1) := by decide +kernel
theorem dL_law_128 : decode cL_law 128 = .ok (.iload 6, 2) := by decide +kernel
theorem dL_law_130 : decode cL_law 130 = .ok (.iconst 4, 1) := by decide +kernel
theorem dL_law_131 : decode cL_law 131 = .ok (.ishr, 1) := by decide +kernel
theorem dL_law_132 : decode cL_law 132 = .ok (.iconst 4, 1) := by decide +kernel
theorem dL_law_133 : decode cL_law 133 = .ok (.idiv, 1) := by decide +kernel
theorem dL_law_134 : decode cL_law 134 = .ok (.iconst 4, 1) := by decide +kernel
theorem dL_law_135 : decode cL_law 135 = .ok (.irem, 1) := by decide +kernel
theorem dL_law_136 : decode cL_law 136 = .ok (.iadd, 1) := by decide +kernel
theorem dL_law_137 : decode cL_law 137 = .ok (.goto 5, 3) := by decide +kernel
theorem dL_law_140 : decode cL_law 140 = .ok (.iload 4, 2) := by decide +kernel
theorem dL_law_142 : decode cL_law 142 = .ok (.istore 4, 2) := by decide +kernel
theorem dL_law_144 : decode cL_law 144 = .ok (.iload 8, 2) := by decide +kernel
theorem dL_law_146 : decode cL_law 146 = .ok (.aload_n 2, 1) := by decide +kernel
theorem dL_law_147 : decode cL_law 147 = .ok (.iload 6, 2) := by decide +kernel
theorem dL_law_149 : decode cL_law 149 = .ok (.iload 7, 2) := by decide +kernel
theorem dL_law_151 : decode cL_law 151 = .ok (.invokestatic 252, 3) := by decide +kernel
theorem dL_law_154 : decode cL_law 154 = .ok (.if_icmp .ne 22, 3) := by decide +kernel
theorem dL_law_157 : decode cL_law 157 = .ok (.aload_n 2, 1) := by decide +kernel
theorem dL_law_158 : decode cL_law 158 = .ok (.invokestatic 244, 3) := by decide +kernel
theorem dL_law_161 : decode cL_law 161 = .ok (.ifCond .eq 15, 3) := by decide +kernel
theorem dL_law_164 : decode cL_law 164 = .ok (.aload_n 1, 1) := by decide +kernel
theorem dL_law_165 : decode cL_law 165 = .ok (.aload_n 2, 1) := by decide +kernel
theorem dL_law_166 : decode cL_law 166 = .ok (.invokestatic 255, 3) := by decide +kernel
theorem dL_law_169 : decode cL_law 169 = .ok (.ifCond .eq 7, 3) := by decide +kernel
theorem dL_law_172 : decode cL_law 172 = .ok (.iconst 1, 1) := by decide +kernel
theorem dL_law_173 : decode cL_law 173 = .ok (.goto 4, 3) := by decide +kernel
theorem dL_law_176 : decode cL_law 176 = .ok (.iconst 0, 1) := by decide +kernel
theorem dL_law_177 : decode cL_law 177 = .ok (.istore_n 3, 1) := by decide +kernel
theorem dL_law_178 : decode cL_law 178 = .ok (.iload_n 3, 1) := by decide +kernel
theorem dL_law_179 : decode cL_law 179 = .ok (.ifCond .eq 94, 3) := by decide +kernel
theorem dL_law_182 : decode cL_law 182 = .ok (.aload_n 1, 1) := by decide +kernel
theorem dL_law_183 : decode cL_law 183 = .ok (.iload 4, 2) := by decide +kernel
theorem dL_law_185 : decode cL_law 185 = .ok (.invokestatic 259, 3) := by decide +kernel
theorem dL_law_188 : decode cL_law 188 = .ok (.ifCond .eq 85, 3) := by decide +kernel
theorem dL_law_191 : decode cL_law 191 = .ok (.aload_n 1, 1) := by decide +kernel
theorem dL_law_192 : decode cL_law 192 = .ok (.iload 7, 2) := by decide +kernel
theorem dL_law_194 : decode cL_law 194 = .ok (.aload_n 1, 1) := by decide +kernel
theorem dL_law_195 : decode cL_law 195 = .ok (.invokevirtual 107, 3) := by decide +kernel
theorem dL_law_198 : decode cL_law 198 = .ok (.irem, 1) := by decide +kernel
theorem dL_law_199 : decode cL_law 199 = .ok (.iconst 1, 1) := by decide +kernel
theorem dL_law_200 : decode cL_law 200 = .ok (.iload 7, 2) := by decide +kernel
theorem dL_law_202 : decode cL_law 202 = .ok (.bipush 16, 2) := by decide +kernel
theorem dL_law_204 : decode cL_law 204 = .ok (.idiv, 1) := by decide +kernel
theorem dL_law_205 : decode cL_law 205 = .ok (.bipush 9, 2) := by decide +kernel
theorem dL_law_207 : decode cL_law 207 = .ok (.irem, 1) := by decide +kernel
theorem dL_law_208 : decode cL_law 208 = .ok (.iadd, 1) := by decide +kernel
theorem dL_law_209 : decode cL_law 209 = .ok (.iload 4, 2) := by decide +kernel
theorem dL_law_211 : decode cL_law 211 = .ok (.invokestatic 263, 3) := by decide +kernel
theorem dL_law_214 : decode cL_law 214 = .ok (.ifCond .eq 59, 3) := by decide +kernel
theorem dL_law_217 : decode cL_law 217 = .ok (.aload_n 2, 1) := by decide +kernel
theorem dL_law_218 : decode cL_law 218 = .ok (.iload 7, 2) := by decide +kernel
theorem dL_law_220 : decode cL_law 220 = .ok (.aload_n 2, 1) := by decide +kernel
theorem dL_law_221 : decode cL_law 221 = .ok (.invokevirtual 107, 3) := by decide +kernel
theorem dL_law_224 : decode cL_law 224 = .ok (.irem, 1) := by decide +kernel
theorem dL_law_225 : decode cL_law 225 = .ok (.iconst 1, 1) := by decide +kernel
theorem dL_law_226 : decode cL_law 226 = .ok (.iload 7, 2) := by decide +kernel
theorem dL_law_228 : decode cL_law 228 = .ok (.bipush 16, 2) := by decide +kernel
theorem dL_law_230 : decode cL_law 230 = .ok (.idiv, 1) := by decide +kernel
theorem dL_law_231 : decode cL_law 231 = .ok (.bipush 9, 2) := by decide +kernel
theorem dL_law_233 : decode cL_law 233 = .ok (.irem, 1) := by decide +kernel
theorem dL_law_234 : decode cL_law 234 = .ok (.iadd, 1) := by decide +kernel
theorem dL_law_235 : decode cL_law 235 = .ok (.iload 4, 2) := by decide +kernel
theorem dL_law_237 : decode cL_law 237 = .ok (.invokestatic 263, 3) := by decide +kernel
theorem dL_law_240 : decode cL_law 240 = .ok (.ifCond .eq 33, 3) := by decide +kernel
theorem dL_law_243 : decode cL_law 243 = .ok (.aload_n 1, 1) := by decide +kernel
theorem dL_law_244 : decode cL_law 244 = .ok (.iload 7, 2) := by decide +kernel
theorem dL_law_246 : decode cL_law 246 = .ok (.invokestatic 267, 3) := by decide +kernel
theorem dL_law_249 : decode cL_law 249 = .ok (.ifCond .eq 24, 3) := by decide +kernel
theorem dL_law_252 : decode cL_law 252 = .ok (.aload_n 2, 1) := by decide +kernel
theorem dL_law_253 : decode cL_law 253 = .ok (.iload 7, 2) := by decide +kernel
theorem dL_law_255 : decode cL_law 255 = .ok (.invokestatic 267, 3) := by decide +kernel
theorem dL_law_258 : decode cL_law 258 = .ok (.ifCond .eq 15, 3) := by decide +kernel
theorem dL_law_261 : decode cL_law 261 = .ok (.aload_n 1, 1) := by decide +kernel
theorem dL_law_262 : decode cL_law 262 = .ok (.aload_n 2, 1) := by decide +kernel
theorem dL_law_263 : decode cL_law 263 = .ok (.invokestatic 255, 3) := by decide +kernel
theorem dL_law_266 : decode cL_law 266 = .ok (.ifCond .eq 7, 3) := by decide +kernel
theorem dL_law_269 : decode cL_law 269 = .ok (.iconst 1, 1) := by decide +kernel
theorem dL_law_270 : decode cL_law 270 = .ok (.goto 4, 3) := by decide +kernel
theorem dL_law_273 : decode cL_law 273 = .ok (.iconst 0, 1) := by decide +kernel
theorem dL_law_274 : decode cL_law 274 = .ok (.istore_n 3, 1) := by decide +kernel
theorem dL_law_275 : decode cL_law 275 = .ok (.iinc 5 1, 3) := by decide +kernel
theorem dL_law_278 : decode cL_law 278 = .ok (.goto (-227), 3) := by decide +kernel
theorem dL_law_281 : decode cL_law 281 = .ok (.iload_n 3, 1) := by decide +kernel
theorem dL_law_282 : decode cL_law 282 = .ok (.ireturn, 1) := by decide +kernel
