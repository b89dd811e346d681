theorem dL_tries_72 : decode cL_tries 72 = .ok (.goto (-24), 3) := by decide +kernel
theorem dL_tries_75 : decode cL_tries 75 = .ok (.aload_n 0, 1) := by decide +kernel
theorem dL_tries_76 : decode cL_tries 76 = .ok (.invokevirtual 117, 3) := by decide +kernel
theorem dL_tries_79 : decode cL_tries 79 = .ok (.ifCond .eq 5, 3) := by decide +kernel
theorem dL_tries_82 : decode cL_tries 82 = .ok (.iconst 1, 1) := by decide +kernel
theorem dL_tries_83 : decode cL_tries 83 = .ok (.ireturn, 1) := by decide +kernel
theorem dL_tries_84 : decode cL_tries 84 = .ok (.iinc 2 1, 3) := by decide +kernel
theorem dL_tries_87 : decode cL_tries 87 = .ok (.goto (-54), 3) := by decide +kernel
theorem dL_tries_90 : decode cL_tries 90 = .ok (.iconst 0, 1) := by decide +kernel
theorem dL_tries_91 : decode cL_tries 91 = .ok (.ireturn, 1) := by decide +kernel
set_option maxRecDepth 20000 in
theorem ggL_isFound_X11_find : GoodIn wsL_isFound wsX11_find := goodIn_r _ [8, 9, 10, 11, 12, 13, 14, 15, 16, 17, 18, 19, 20, 21, 22, 23, 24, 25, 26, 27, 28, 29, 30, 31, 32, 33, 34, 35, 36, 37, 38, 39, 40, 41, 42, 43, 44, 45, 46, 47, 48, 49, 50, 51, 52, 53, 54, 55, 56, 57, 58, 59, 60, 61, 62, 63, 64, 65, 66, 67, 68, 69, 70, 71, 72, 73, 74, 75, 76, 77, 78, 79, 80, 81, 82, 83, 84, 85, 86, 87, 88, 89, 90, 91, 92, 93, 94, 95, 96, 97, 98, 99, 100, 101, 102, 103, 104, 105, 106, 107, 108, 109, 110, 111, 112, 113, 114, 115, 116, 117, 118, 119, 120, 121, 122, 123, 124, 125, 126, 127, 128, 129, 130, 131, 132, 133, 134, 135, 136, 137, 138, 139, 140, 141, 142, 143, 144, 145, 146, 147, 148, 149, 150, 151, 152, 153, 154, 155, 156, 157, 7, 158, 159, 160, 161, 162, 163, 164, 165, 166, 167, 168, 169, 170, 171, 172, 173, 174, 175, 176, 177, 178, 179, 180, 181, 182, 183, 184, 773, 774, 775, 776, 777, 778, 779, 780, 781, 782, 783, 784, 785, 786, 787, 788, 789, 790, 791, 792, 793, 794, 795, 796, 797, 798, 799, 800, 801, 802, 803, 804, 805, 806, 807, 808] (by decide +kernel) (by decide +kernel)
set_option maxRecDepth 20000 in
theorem gL_isFound_X11_find : GoodIn wsL_isFound (wsV RL 120 RX11 yX11_find wsX11_find) := goodIn_app (goodIn_of _ (by decide +kernel)) ggL_isFound_X11_find
set_option maxRecDepth 20000 in
theorem ggL_isFound_L_tries : GoodIn wsL_isFound wsL_tries := goodIn_r _ [189, 2, 3, 190, 191, 192, 188, 193, 194, 195, 196, 197, 198, 199, 200, 201, 202, 203, 204, 205, 206, 207, 208, 209, 210, 211, 212, 213, 214, 215, 216, 756, 757, 758, 759, 760, 761, 762, 763, 764, 765, 766, 767, 768, 769, 770, 771, 772] (by decide +kernel) (by decide +kernel)
set_option maxRecDepth 20000 in
theorem gL_isFound_L_tries : GoodIn wsL_isFound (wsV RL 123 RL yL_tries wsL_tries) := goodIn_app (goodIn_of _ (by decide +kernel)) ggL_isFound_L_tries
set_option maxRecDepth 20000 in
theorem ggL_isFound_X11_checksum : GoodIn wsL_isFound wsX11_checksum := goodIn_r _ [220, 10, 221, 222, 223, 224, 24, 225, 30, 226, 42, 43, 44, 773, 774, 775, 776, 777, 778, 779, 780, 781, 782, 783, 804, 805] (by decide +kernel) (by decide +kernel)
set_option maxRecDepth 20000 in
theorem gL_isFound_X11_checksum : GoodIn wsL_isFound (wsV RL 126 RX11 yX11_checksum wsX11_checksum) := goodIn_app (goodIn_of _ (by decide +kernel)) ggL_isFound_X11_checksum
set_option maxRecDepth 20000 in
theorem ggL_isFound_L_isProved : GoodIn wsL_isFound wsL_isProved := goodIn_ca (goodIn_ca (goodIn_ca (goodIn_r _ [230, 1, 231, 232, 7, 195, 216, 214, 215, 233, 234, 235, 236, 9, 237, 238, 239, 240, 241, 242, 243, 244, 245, 24, 10, 246, 247, 163, 159, 248, 249, 38, 250, 251, 252, 15, 253, 254, 255, 256, 257, 258, 259, 260, 261, 262, 263, 264, 265, 266, 267, 268, 269, 270, 271, 272, 273, 274, 275, 276, 277, 278, 279, 280, 281, 282, 283, 284, 285, 30, 183, 286, 287, 288, 166, 289, 290, 291, 52, 50, 51, 55, 56, 57, 58, 59, 60, 49, 292, 293, 294, 295, 296, 17, 20, 153, 152, 124, 89, 88, 297, 298, 299, 300, 301, 302, 303, 304, 305, 306, 307, 308, 309, 310, 311, 312, 313, 314, 315, 316, 317, 318, 319, 320, 321, 322, 323, 324, 325, 326, 327, 328, 329, 330, 331, 332, 333, 334, 335, 336, 337, 338, 188, 339, 205, 2, 201, 202, 203, 204, 200, 340, 341, 342, 343, 344, 345, 346, 347, 348, 349, 350, 351, 352, 353, 155, 156, 157, 158, 160, 161, 162, 164, 165, 167, 168, 91, 92, 93, 169, 170, 171, 172, 173, 174, 175, 176, 177, 178, 354, 355, 356, 357, 358, 359, 360, 361, 362, 363, 364, 365, 366, 367, 368, 369, 370, 371, 226, 42, 43, 44, 372, 373, 374, 375, 376, 377, 378, 379, 380, 381, 382, 383, 384, 385, 386, 387, 388, 389, 390, 391, 392, 393, 394, 395, 27, 28, 29, 396, 397, 398, 399, 4, 5, 6, 8, 11, 12, 13, 14, 16, 18, 19, 21, 22, 23, 25, 26, 31, 32, 33, 34, 35, 36, 37, 39, 40, 41, 45, 46, 47, 48, 53, 54, 61, 62, 63, 64, 65, 66, 67, 68, 69, 70, 71, 72, 73, 74, 75, 76, 77, 78, 79, 80, 81, 82, 83, 84, 85, 86, 87, 90, 94, 95, 96, 97, 98, 99, 100, 101, 102, 103, 104, 105, 106, 107, 108, 109, 110, 111, 112, 113, 114, 115, 116, 117, 118, 119, 120, 121, 122, 123, 125, 126, 127, 128, 129, 130, 131, 132, 133, 134, 135, 136, 137, 138, 139, 140, 141, 142, 143, 144, 145, 146, 147, 148, 149, 150, 151, 154, 179, 180, 181, 182, 184, 756, 757, 758, 759, 760, 761, 762, 763, 764, 765, 766, 767, 768, 769, 770, 771, 772, 773, 774, 775, 776, 777, 778, 779, 780, 781, 782, 783, 784, 785, 786, 787, 788, 789, 790, 791, 804, 805, 806, 807, 808, 792, 793, 794, 795, 796, 797, 798, 799, 800, 801, 802, 803, 809, 810, 811, 812, 813, 814, 815, 816, 817, 818, 819, 820, 821, 822, 823, 824, 825, 826, 827, 828, 829, 830, 831, 832] (by decide +kernel) (by decide +kernel)) (goodIn_sub (fun _ h => List.mem_cons_of_mem _ (List.mem_append_left _ (List.mem_append_left _ (List.mem_append_right _ h)))) (by decide +kernel))) (goodIn_sub (fun _ h => List.mem_cons_of_mem _ (List.mem_append_left _ (List.mem_append_right _ h))) (by decide +kernel))) (goodIn_sub (fun _ h => List.mem_cons_of_mem _ (List.mem_append_right _ h)) (by decide +kernel))
set_option maxRecDepth 20000 in
theorem gL_isFound_L_isProved : GoodIn wsL_isFound (wsV RL 129 RL yL_isProved wsL_isProved) := goodIn_app (goodIn_of _ (by decide +kernel)) ggL_isFound_L_isProved
set_option maxRecDepth 20000 in
theorem ggL_isFound_X11_slotOf : GoodIn wsL_isFound wsX11_slotOf := goodIn_ca (goodIn_ca (goodIn_r _ [403, 10, 221, 391, 392, 393, 7, 394, 384, 385, 226, 42, 43, 24, 44, 30, 404, 405, 406, 407, 366, 367, 222, 223, 224, 225, 773, 774, 775, 776, 777, 778, 779, 780, 781, 782, 783, 804, 805] (by decide +kernel) (by decide +kernel)) (goodIn_sub (fun _ h => List.mem_cons_of_mem _ (List.mem_append_right _ h)) (by decide +kernel))) (goodIn_sub (fun _ h => List.mem_cons_of_mem _ (List.mem_append_left _ (List.mem_append_right _ h))) (by decide +kernel))
set_option maxRecDepth 20000 in
theorem gL_isFound_X11_slotOf : GoodIn wsL_isFound (wsV RL 114 RX11 yX11_slotOf wsX11_slotOf) := goodIn_app (goodIn_of _ (by decide +kernel)) ggL_isFound_X11_slotOf
set_option maxRecDepth 20000 in
theorem ggL_isFound_L_looks : GoodIn wsL_isFound wsL_looks := goodIn_ca (goodIn_ca (goodIn_r _ [411, 2, 3, 1, 400, 401, 402, 7, 403, 10, 221, 391, 392, 393, 394, 384, 385, 226, 42, 43, 24, 44, 30, 404, 405, 406, 407, 366, 367, 222, 223, 224, 225, 756, 757, 758, 759, 760, 761, 762, 763, 764, 765, 766, 767, 768, 769, 770, 771, 772, 773, 774, 775, 776, 777, 778, 779, 780, 781, 782, 783, 804, 805] (by decide +kernel) (by decide +kernel)) (goodIn_sub (fun _ h => List.mem_cons_of_mem _ (List.mem_append_right _ h)) (by decide +kernel))) (goodIn_sub (fun _ h => List.mem_cons_of_mem _ (List.mem_append_left _ (List.mem_append_right _ h))) (by decide +kernel))
set_option maxRecDepth 20000 in
theorem gL_isFound_L_looks : GoodIn wsL_isFound (wsV RL 132 RL yL_looks wsL_looks) := goodIn_app (goodIn_of _ (by decide +kernel)) ggL_isFound_L_looks
set_option maxRecDepth 20000 in
theorem ggL_isFound_L_isGood : GoodIn wsL_isFound wsL_isGood := goodIn_r _ [193, 194, 195, 196, 197, 198, 188, 199, 2, 3, 200, 201, 202, 203, 204, 205, 206, 207, 208, 209, 210, 211, 212, 213, 214, 215, 216, 756, 757, 758, 759, 760, 761, 762, 763, 764, 765, 766, 767, 768, 769, 770, 771, 772] (by decide +kernel) (by decide +kernel)
set_option maxRecDepth 20000 in
theorem gL_isFound_L_isGood : GoodIn wsL_isFound (wsV RL 117 RL yL_isGood wsL_isGood) := goodIn_app (goodIn_of _ (by decide +kernel)) ggL_isFound_L_isGood
set_option maxRecDepth 20000 in
theorem ggL_isFound_X11_proof : GoodIn wsL_isFound wsX11_proof := goodIn_r _ [236, 9, 237, 773, 774, 775, 776, 777, 778, 779, 780, 781, 782, 783, 784, 785, 786, 787, 788, 789, 790, 791] (by decide +kernel) (by decide +kernel)
set_option maxRecDepth 20000 in
theorem gL_isFound_X11_proof : GoodIn wsL_isFound (wsV RL 135 RX11 yX11_proof wsX11_proof) := goodIn_app (goodIn_of _ (by decide +kernel)) ggL_isFound_X11_proof
set_option maxRecDepth 20000 in
theorem ggL_isFound_X11_cost : GoodIn wsL_isFound wsX11_cost := goodIn_ca (goodIn_r _ [415, 256, 10, 221, 404, 405, 406, 7, 407, 366, 367, 222, 223, 224, 24, 225, 30, 416, 417, 418, 255, 419, 420, 421, 422, 423, 424, 42, 43, 44, 425, 80, 81, 82, 426, 427, 428, 429, 430, 431, 432, 433, 434, 435, 436, 437, 438, 439, 440, 133, 134, 135, 136, 137, 138, 441, 27, 28, 29, 442, 32, 33, 34, 443, 444, 445, 446, 31, 447, 773, 774, 775, 776, 777, 778, 779, 780, 781, 782, 783, 804, 805] (by decide +kernel) (by decide +kernel)) (goodIn_sub (fun _ h => List.mem_cons_of_mem _ (List.mem_append_left _ (List.mem_append_right _ h))) (by decide +kernel))
set_option maxRecDepth 20000 in
theorem gL_isFound_X11_cost : GoodIn wsL_isFound (wsV RL 138 RX11 yX11_cost wsX11_cost) := goodIn_app (goodIn_of _ (by decide +kernel)) ggL_isFound_X11_cost
set_option maxRecDepth 20000 in
theorem ggL_isFound_L_cost : GoodIn wsL_isFound wsL_cost := goodIn_r _ [451, 194, 195, 452, 453, 454, 188, 455, 2, 202, 201, 456, 172, 173, 174, 206, 207, 208, 209, 3, 200, 210, 211, 212, 213, 214, 215, 216, 756, 757, 758, 759, 760, 761, 762, 763, 764, 765, 766, 767, 768, 769, 770, 771, 772] (by decide +kernel) (by decide +kernel)
set_option maxRecDepth 20000 in
theorem gL_isFound_L_cost : GoodIn wsL_isFound (wsV RL 141 RL yL_cost wsL_cost) := goodIn_app (goodIn_of _ (by decide +kernel)) ggL_isFound_L_cost
set_option maxRecDepth 20000 in
theorem ggL_isFound_L_areRooms : GoodIn wsL_isFound wsL_areRooms := goodIn_ca (goodIn_ca (goodIn_r _ [460, 2, 1, 204, 205, 3, 200, 461, 462, 463, 7, 464, 250, 10, 221, 391, 392, 393, 394, 384, 385, 226, 42, 43, 24, 44, 30, 404, 405, 406, 407, 366, 367, 222, 223, 224, 225, 465, 36, 37, 38, 39, 40, 41, 45, 46, 47, 48, 49, 50, 51, 52, 53, 54, 55, 56, 57, 58, 59, 60, 61, 62, 63, 64, 65, 66, 67, 68, 69, 70, 71, 72, 73, 27, 28, 29, 74, 32, 33, 34, 75, 76, 77, 78, 79, 80, 81, 82, 466, 467, 468, 469, 292, 470, 471, 472, 473, 756, 757, 758, 759, 760, 761, 762, 763, 764, 765, 766, 767, 768, 769, 770, 771, 772, 773, 774, 775, 776, 777, 778, 779, 780, 781, 782, 783, 804, 805, 792, 793, 794, 795, 796, 797, 798, 799, 800, 801, 802, 803] (by decide +kernel) (by decide +kernel)) (goodIn_sub (fun _ h => List.mem_cons_of_mem _ (List.mem_append_right _ h)) (by decide +kernel))) (goodIn_sub (fun _ h => List.mem_cons_of_mem _ (List.mem_append_left _ (List.mem_append_right _ h))) (by decide +kernel))
set_option maxRecDepth 20000 in
theorem gL_isFound_L_areRooms : GoodIn wsL_isFound (wsV RL 142 RL yL_areRooms wsL_areRooms) := goodIn_app (goodIn_of _ (by decide +kernel)) ggL_isFound_L_areRooms
set_option maxRecDepth 20000 in
theorem ggL_isFound_L_areChoices : GoodIn wsL_isFound wsL_areChoices := goodIn_ca (goodIn_ca (goodIn_ca (goodIn_r _ [477, 2, 3, 194, 1, 201, 478, 479, 480, 188, 481, 482, 483, 190, 191, 192, 193, 195, 196, 197, 198, 199, 200, 202, 203, 204, 205, 206, 207, 208, 209, 210, 211, 212, 213, 214, 215, 216, 484, 485, 486, 7, 487, 10, 221, 488, 489, 490, 491, 384, 385, 395, 27, 28, 24, 29, 30, 404, 405, 406, 407, 366, 367, 222, 223, 224, 225, 492, 444, 445, 446, 31, 32, 33, 34, 447, 421, 422, 423, 424, 42, 43, 44, 425, 80, 81, 82, 426, 427, 428, 429, 493, 494, 495, 496, 256, 497, 498, 499, 500, 344, 345, 346, 347, 348, 349, 350, 351, 352, 353, 501, 502, 431, 432, 255, 433, 434, 435, 436, 437, 438, 439, 440, 133, 134, 135, 136, 137, 138, 452, 453, 454, 455, 456, 172, 173, 174, 503, 504, 505, 506, 226, 507, 508, 509, 510, 511, 512, 250, 391, 392, 393, 394, 513, 22, 23, 25, 26, 465, 36, 37, 38, 39, 40, 41, 45, 46, 47, 48, 49, 50, 51, 52, 53, 54, 55, 56, 57, 58, 59, 60, 61, 62, 63, 64, 65, 66, 67, 68, 69, 70, 71, 72, 73, 74, 75, 76, 77, 78, 79, 514, 129, 130, 131, 515, 756, 757, 758, 759, 760, 761, 762, 763, 764, 765, 766, 767, 768, 769, 770, 771, 772, 773, 774, 775, 776, 777, 778, 779, 780, 781, 782, 783, 804, 805, 792, 793, 794, 795, 796, 797, 798, 799, 800, 801, 802, 803] (by decide +kernel) (by decide +kernel)) (goodIn_sub (fun _ h => List.mem_cons_of_mem _ (List.mem_append_right _ h)) (by decide +kernel))) (goodIn_sub (fun _ h => List.mem_cons_of_mem _ (List.mem_append_left _ (List.mem_append_right _ h))) (by decide +kernel))) (goodIn_sub (fun _ h => List.mem_cons_of_mem _ (List.mem_append_left _ (List.mem_append_left _ (List.mem_append_right _ h)))) (by decide +kernel))
set_option maxRecDepth 20000 in
theorem gL_isFound_L_areChoices : GoodIn wsL_isFound (wsV RL 145 RL yL_areChoices wsL_areChoices) := goodIn_app (goodIn_of _ (by decide +kernel)) ggL_isFound_L_areChoices
set_option maxRecDepth 20000 in
theorem ggL_isFound_L_isImproved : GoodIn wsL_isFound wsL_isImproved := goodIn_ca (goodIn_ca (goodIn_r _ [519, 2, 3, 456, 172, 173, 174, 1, 448, 449, 450, 188, 451, 194, 195, 452, 453, 454, 455, 202, 201, 206, 207, 208, 209, 200, 210, 211, 212, 213, 214, 215, 216, 190, 191, 192, 193, 196, 197, 198, 199, 203, 204, 205, 217, 218, 219, 7, 220, 10, 221, 222, 223, 224, 24, 225, 30, 226, 42, 43, 44, 520, 521, 522, 523, 250, 256, 524, 404, 405, 406, 407, 366, 367, 513, 22, 23, 25, 26, 27, 28, 29, 31, 32, 33, 34, 465, 36, 37, 38, 39, 40, 41, 45, 46, 47, 48, 49, 50, 51, 52, 53, 54, 55, 56, 57, 58, 59, 60, 61, 62, 63, 64, 65, 66, 67, 68, 69, 70, 71, 72, 73, 74, 75, 76, 77, 78, 79, 80, 81, 82, 525, 526, 527, 255, 528, 529, 530, 301, 531, 91, 92, 93, 532, 533, 417, 418, 419, 420, 421, 422, 423, 424, 425, 426, 427, 428, 429, 430, 431, 432, 433, 434, 435, 436, 437, 438, 439, 440, 133, 134, 135, 136, 137, 138, 441, 442, 443, 444, 445, 446, 447, 534, 535, 536, 537, 538, 129, 130, 131, 539, 540, 541, 542, 300, 543, 544, 545, 546, 547, 548, 549, 550, 551, 155, 156, 157, 158, 159, 9, 160, 161, 162, 163, 164, 165, 166, 167, 168, 169, 170, 171, 175, 176, 177, 15, 178, 152, 179, 180, 181, 182, 183, 184, 408, 409, 410, 411, 400, 401, 402, 403, 391, 392, 393, 394, 384, 385, 412, 413, 414, 415, 416, 756, 757, 758, 759, 760, 761, 762, 763, 764, 765, 766, 767, 768, 769, 770, 771, 772, 773, 774, 775, 776, 777, 778, 779, 780, 781, 782, 783, 804, 805, 809, 810, 811, 792, 793, 794, 795, 796, 797, 798, 799, 800, 801, 802, 803, 806, 807, 808, 784, 785, 786, 787, 788, 789, 790, 791] (by decide +kernel) (by decide +kernel)) (goodIn_sub (fun _ h => List.mem_cons_of_mem _ (List.mem_append_left _ (List.mem_append_right _ h))) (by decide +kernel))) (goodIn_sub (fun _ h => List.mem_cons_of_mem _ (List.mem_append_right _ h)) (by decide +kernel))
set_option maxRecDepth 20000 in
theorem gL_isFound_L_isImproved : GoodIn wsL_isFound (wsV RL 148 RL yL_isImproved wsL_isImproved) := goodIn_app (goodIn_of _ (by decide +kernel)) ggL_isFound_L_isImproved
set_option maxRecDepth 20000 in
theorem ggL_isFound_L_isTold : GoodIn wsL_isFound wsL_isTold := goodIn_ca (goodIn_ca (goodIn_ca (goodIn_r _ [555, 1, 2, 3, 217, 218, 219, 7, 220, 10, 221, 222, 223, 224, 24, 225, 30, 226, 42, 43, 44, 556, 557, 558, 559, 280, 404, 405, 406, 407, 366, 367, 560, 561, 562, 279, 563, 564, 565, 333, 566, 567, 568, 569, 570, 571, 572, 573, 574, 575, 576, 577, 578, 579, 580, 581, 582, 583, 584, 585, 586, 587, 588, 589, 590, 591, 592, 593, 594, 595, 596, 597, 598, 599, 600, 601, 602, 603, 604, 605, 606, 607, 608, 609, 610, 611, 612, 613, 614, 615, 384, 385, 616, 617, 618, 619, 620, 621, 622, 623, 624, 625, 626, 627, 628, 629, 630, 631, 335, 632, 633, 634, 635, 352, 353, 250, 636, 256, 637, 638, 639, 640, 641, 334, 642, 643, 644, 645, 646, 647, 648, 649, 650, 651, 652, 653, 654, 331, 655, 656, 657, 658, 659, 62, 63, 64, 660, 661, 662, 663, 513, 22, 23, 25, 26, 27, 28, 29, 31, 32, 33, 34, 465, 36, 37, 38, 39, 40, 41, 45, 46, 47, 48, 49, 50, 51, 52, 53, 54, 55, 56, 57, 58, 59, 60, 61, 65, 66, 67, 68, 69, 70, 71, 72, 73, 74, 75, 76, 77, 78, 79, 80, 81, 82, 664, 548, 549, 550, 551, 129, 130, 131, 155, 156, 157, 158, 159, 9, 160, 161, 162, 163, 164, 165, 166, 167, 168, 91, 92, 93, 169, 170, 171, 172, 173, 174, 175, 176, 177, 15, 178, 152, 179, 180, 181, 182, 183, 184, 416, 417, 418, 255, 419, 420, 421, 422, 423, 424, 425, 426, 427, 428, 429, 430, 431, 432, 433, 434, 435, 436, 437, 438, 439, 440, 133, 134, 135, 136, 137, 138, 441, 442, 443, 444, 445, 446, 447, 448, 449, 450, 188, 451, 194, 195, 452, 453, 454, 455, 202, 201, 456, 206, 207, 208, 209, 200, 210, 211, 212, 213, 214, 215, 216, 665, 666, 667, 668, 669, 670, 671, 672, 673, 674, 675, 676, 677, 678, 679, 680, 681, 682, 683, 478, 479, 480, 481, 482, 483, 684, 685, 686, 687, 344, 345, 346, 347, 348, 349, 350, 351, 688, 689, 690, 691, 692, 693, 694, 695, 696, 697, 698, 699, 264, 700, 391, 392, 393, 394, 701, 702, 703, 263, 704, 705, 706, 310, 707, 309, 708, 709, 710, 711, 712, 713, 714, 715, 716, 717, 718, 719, 720, 721, 722, 723, 724, 725, 369, 370, 371, 726, 727, 728, 729, 730, 731, 732, 733, 734, 735, 736, 737, 738, 739, 740, 741, 742, 743, 744, 745, 746, 747, 748, 749, 750, 515, 751, 752, 753, 754, 755, 756, 757, 758, 759, 760, 761, 762, 763, 764, 765, 766, 767, 768, 769, 770, 771, 772, 773, 774, 775, 776, 777, 778, 779, 780, 781, 782, 783, 804, 805, 825, 826, 827, 828, 829, 830, 831, 832, 792, 793, 794, 795, 796, 797, 798, 799, 800, 801, 802, 803, 806, 807, 808, 784, 785, 786, 787, 788, 789, 790, 791, 813, 814, 815, 816, 817] (by decide +kernel) (by decide +kernel)) (goodIn_sub (fun _ h => List.mem_cons_of_mem _ (List.mem_append_left _ (List.mem_append_right _ h))) (by decide +kernel))) (goodIn_sub (fun _ h => List.mem_cons_of_mem _ (List.mem_append_right _ h)) (by decide +kernel))) (goodIn_sub (fun _ h => List.mem_cons_of_mem _ (List.mem_append_left _ (List.mem_append_left _ (List.mem_append_right _ h)))) (by decide +kernel))
set_option maxRecDepth 20000 in
theorem gL_isFound_L_isTold : GoodIn wsL_isFound (wsV RL 151 RL yL_isTold wsL_isTold) := goodIn_app (goodIn_of _ (by decide +kernel)) ggL_isFound_L_isTold
theorem dL_isFound_0 : decode cL_isFound 0 = .ok (.aload_n 0, 1) := by decide +kernel
theorem dL_isFound_1 : decode cL_isFound 1 = .ok (.getfield 10, 3) := by decide +kernel
theorem dL_isFound_4 : decode cL_isFound 4 = .ok (.invokevirtual 120, 3) := by decide +kernel
theorem dL_isFound_7 : decode cL_isFound 7 = .ok (.istore_n 1, 1) := by decide +kernel
theorem dL_isFound_8 : decode cL_isFound 8 = .ok (.aload_n 0, 1) := by decide +kernel
theorem dL_isFound_9 : decode cL_isFound 9 = .ok (.getfield 66, 3) := by decide +kernel
theorem dL_isFound_12 : decode cL_isFound 12 = .ok (.iconst 4, 1) := by decide +kernel
theorem dL_isFound_13 : decode cL_isFound 13 = .ok (.if_icmp .ge 13, 3) := by decide +kernel
theorem dL_isFound_16 : decode cL_isFound 16 = .ok (.aload_n 0, 1) := by decide +kernel
theorem dL_isFound_17 : decode cL_isFound 17 = .ok (.invokevirtual 123, 3) := by decide +kernel
theorem dL_isFound_20 : decode cL_isFound 20 = .ok (.iload_n 1, 1) := by decide +kernel
theorem dL_isFound_21 : decode cL_isFound 21 = .ok (.if_icmp .eq 5, 3) := by decide +kernel
theorem dL_isFound_24 : decode cL_isFound 24 = .ok (.iconst 0, 1) := by decide +kernel
theorem dL_isFound_25 : decode cL_isFound 25 = .ok (.ireturn, 1) := by decide +kernel
theorem dL_isFound_26 : decode cL_isFound 26 = .ok (.iload_n 1, 1) := by decide +kernel
theorem dL_isFound_27 : decode cL_isFound 27 = .ok (.ifCond .ne 26, 3) := by decide +kernel
theorem dL_isFound_30 : decode cL_isFound 30 = .ok (.aload_n 0, 1) := by decide +kernel
theorem dL_isFound_31 : decode cL_isFound 31 = .ok (.getfield 10, 3) := by decide +kernel
theorem dL_isFound_34 : decode cL_isFound 34 = .ok (.invokevirtual 126, 3) := by decide +kernel
theorem dL_isFound_37 : decode cL_isFound 37 = .ok (.ifCond .ne 14, 3) := by decide +kernel
theorem dL_isFound_40 : decode cL_isFound 40 = .ok (.aload_n 0, 1) := by decide +kernel
theorem dL_isFound_41 : decode cL_isFound 41 = .ok (.invokevirtual 129, 3) := by decide +kernel
theorem dL_isFound_44 : decode cL_isFound 44 = .ok (.ifCond .eq 7, 3) := by decide +kernel
theorem dL_isFound_47 : decode cL_isFound 47 = .ok (.iconst 1, 1) := by decide +kernel
theorem dL_isFound_48 : decode cL_isFound 48 = .ok (.goto 4, 3) := by decide +kernel
theorem dL_isFound_51 : decode cL_isFound 51 = .ok (.iconst 0, 1) := by decide +kernel
theorem dL_isFound_52 : decode cL_isFound 52 = .ok (.ireturn, 1) := by decide +kernel
theorem dL_isFound_53 : decode cL_isFound 53 = .ok (.iconst 0, 1) := by decide +kernel
theorem dL_isFound_54 : decode cL_isFound 54 = .ok (.istore_n 2, 1) := by decide +kernel
theorem dL_isFound_55 : decode cL_isFound 55 = .ok (.iload_n 2, 1) := by decide +kernel
theorem dL_isFound_56 : decode cL_isFound 56 = .ok (.aload_n 0, 1) := by decide +kernel
theorem dL_isFound_57 : decode cL_isFound 57 = .ok (.getfield 66, 3) := by decide +kernel
theorem dL_isFound_60 : decode cL_isFound 60 = .ok (.if_icmp .ge 36, 3) := by decide +kernel
theorem dL_isFound_63 : decode cL_isFound 63 = .ok (.aload_n 0, 1) := by decide +kernel
theorem dL_isFound_64 : decode cL_isFound 64 = .ok (.getfield 66, 3) := by decide +kernel
theorem dL_isFound_67 : decode cL_isFound 67 = .ok (.iconst 4, 1) := by decide +kernel
theorem dL_isFound_68 : decode cL_isFound 68 = .ok (.if_icmp .ge 28, 3) := by decide +kernel
theorem dL_isFound_71 : decode cL_isFound 71 = .ok (.aload_n 0, 1) := by decide +kernel
theorem dL_isFound_72 : decode cL_isFound 72 = .ok (.getfield 10, 3) := by decide +kernel
theorem dL_isFound_75 : decode cL_isFound 75 = .ok (.iload_n 2, 1) := by decide +kernel
theorem dL_isFound_76 : decode cL_isFound 76 = .ok (.invokevirtual 114, 3) := by decide +kernel
theorem dL_isFound_79 : decode cL_isFound 79 = .ok (.aload_n 0, 1) := by decide +kernel
theorem dL_isFound_80 : decode cL_isFound 80 = .ok (.getfield 32, 3) := by decide +kernel
theorem dL_isFound_83 : decode cL_isFound 83 = .ok (.iload_n 2, 1) := by decide +kernel
theorem dL_isFound_84 : decode cL_isFound 84 = .ok (.iaload, 1) := by decide +kernel
theorem dL_isFound_85 : decode cL_isFound 85 = .ok (.if_icmp .eq 5, 3) := by decide +kernel
theorem dL_isFound_88 : decode cL_isFound 88 = .ok (.iconst 0, 1) := by decide +kernel
theorem dL_isFound_89 : decode cL_isFound 89 = .ok (.ireturn, 1) := by decide +kernel
theorem dL_isFound_90 : decode cL_isFound 90 = .ok (.iinc 2 1, 3) := by decide +kernel
theorem dL_isFound_93 : decode cL_isFound 93 = .ok (.goto (-38), 3) := by decide +kernel
theorem dL_isFound_96 : decode cL_isFound 96 = .ok (.aload_n 0, 1) := by decide +kernel
theorem dL_isFound_97 : decode cL_isFound 97 = .ok (.invokevirtual 132, 3) := by decide +kernel
theorem dL_isFound_100 : decode cL_isFound 100 = .ok (.aload_n 0, 1) := by decide +kernel
theorem dL_isFound_101 : decode cL_isFound 101 = .ok (.invokevirtual 117, 3) := by decide +kernel
theorem dL_isFound_104 : decode cL_isFound 104 = .ok (.ifCond .eq 60, 3) := by decide +kernel
theorem dL_isFound_107 : decode cL_isFound 107 = .ok (.aload_n 0, 1) := by decide +kernel
theorem dL_isFound_108 : decode cL_isFound 108 = .ok (.getfield 10, 3) := by decide +kernel
theorem dL_isFound_111 : decode cL_isFound 111 = .ok (.invokevirtual 135, 3) := by decide +kernel
theorem dL_isFound_114 : decode cL_isFound 114 = .ok (.iconst (-1), 1) := by decide +kernel
theorem dL_isFound_115 : decode cL_isFound 115 = .ok (.if_icmp .ne 49, 3) := by decide +kernel
theorem dL_isFound_118 : decode cL_isFound 118 = .ok (.aload_n 0, 1) := by decide +kernel
theorem dL_isFound_119 : decode cL_isFound 119 = .ok (.getfield 10, 3) := by decide +kernel
theorem dL_isFound_122 : decode cL_isFound 122 = .ok (.invokevirtual 138, 3) := by decide +kernel
theorem dL_isFound_125 : decode cL_isFound 125 = .ok (.aload_n 0, 1) := by decide +kernel
theorem dL_isFound_126 : decode cL_isFound 126 = .ok (.invokevirtual 141, 3) := by decide +kernel
theorem dL_isFound_129 : decode cL_isFound 129 = .ok (.if_icmp .ne 35, 3) := by decide +kernel
theorem dL_isFound_132 : decode cL_isFound 132 = .ok (.aload_n 0, 1) := by decide +kernel
theorem dL_isFound_133 : decode cL_isFound 133 = .ok (.invokevirtual 142, 3) := by decide +kernel
theorem dL_isFound_136 : decode cL_isFound 136 = .ok (.ifCond .eq 28, 3) := by decide +kernel
theorem dL_isFound_139 : decode cL_isFound 139 = .ok (.aload_n 0, 1) := by decide +kernel
theorem dL_isFound_140 : decode cL_isFound 140 = .ok (.invokevirtual 145, 3) := by decide +kernel
theorem dL_isFound_143 : decode cL_isFound 143 = .ok (.ifCond .eq 21, 3) := by decide +kernel
theorem dL_isFound_146 : decode cL_isFound 146 = .ok (.aload_n 0, 1) := by decide +kernel
theorem dL_isFound_147 : decode cL_isFound 147 = .ok (.invokevirtual 148, 3) := by decide +kernel
theorem dL_isFound_150 : decode cL_isFound 150 = .ok (.ifCond .eq 14, 3) := by decide +kernel
theorem dL_isFound_153 : decode cL_isFound 153 = .ok (.aload_n 0, 1) := by decide +kernel
theorem dL_isFound_154 : decode cL_isFound 154 = .ok (.invokevirtual 151, 3) := by decide +kernel
theorem dL_isFound_157 : decode cL_isFound 157 = .ok (.ifCond .eq 7, 3) := by decide +kernel
theorem dL_isFound_160 : decode cL_isFound 160 = .ok (.iconst 1, 1) := by decide +kernel
theorem dL_isFound_161 : decode cL_isFound 161 = .ok (.goto 4, 3) := by decide +kernel
theorem dL_isFound_164 : decode cL_isFound 164 = .ok (.iconst 0, 1) := by decide +kernel
theorem dL_isFound_165 : decode cL_isFound 165 = .ok (.ireturn, 1) := by decide +kernel
set_option maxRecDepth 20000 in
theorem ggL_isProved_X11_proof : GoodIn wsL_isProved wsX11_proof := goodIn_r _ [12, 13, 14, 382, 383, 384, 385, 386, 387, 388, 389, 390, 391, 392, 393, 394, 395, 396, 397, 398, 399, 400] (by decide +kernel) (by decide +kernel)
set_option maxRecDepth 20000 in
theorem gL_isProved_X11_proof : GoodIn wsL_isProved (wsV RL 135 RX11 yX11_proof wsX11_proof) := goodIn_app (goodIn_of _ (by decide +kernel)) ggL_isProved_X11_proof
set_option maxRecDepth 20000 in
theorem ggL_isProved_X11_init : GoodIn wsL_isProved wsX11_init := goodIn_r _ [17, 18, 19, 20, 21, 22, 23, 24, 25, 26, 27, 28, 29, 30, 31, 32, 33, 34, 35, 13, 36, 37, 38, 39, 40, 41, 42, 43, 44, 45, 46, 47, 48, 49, 50, 51, 52, 53, 54, 55, 56, 57, 58, 59, 60, 61, 62, 63, 64, 65, 66, 67, 68, 69, 70, 71, 72, 73, 74, 75, 76, 77, 78, 79, 80, 81, 82, 83, 84, 85, 86, 87, 88, 89, 90, 91, 92, 93, 94, 95, 96, 97, 98, 99, 100, 101, 102, 103, 104, 105, 106, 107, 108, 109, 110, 111, 112, 113, 114, 115, 116, 117, 118, 119, 120, 121, 122, 123, 124, 125, 126, 127, 128, 129, 130, 131, 132, 133, 134, 135, 136, 137, 138, 401, 402, 382, 383, 384, 385, 386, 387, 388, 389, 390, 391, 392, 403, 404, 405, 406, 407, 408, 409, 410, 411, 412, 413, 414, 415, 416, 417, 393, 394, 395, 396, 397, 398, 399, 400, 418, 419, 420, 421, 422, 423, 424, 425, 426, 427, 428, 429, 430, 431, 432, 433, 434, 435, 436, 437, 438, 439, 440, 441] (by decide +kernel) (by decide +kernel)
set_option maxRecDepth 20000 in
theorem gL_isProved_X11_init : GoodIn wsL_isProved (wsX11_init) := ggL_isProved_X11_init
set_option maxRecDepth 20000 in
theorem ggL_isProved_L_isMade : GoodIn wsL_isProved wsL_isMade := goodIn_ca (goodIn_ca (goodIn_r _ [143, 144, 145, 146, 147, 148, 149, 150, 151, 152, 153, 4, 154, 24, 155, 156, 157, 158, 159, 160, 161, 162, 163, 164, 165, 166, 167, 168, 28, 13, 169, 170, 171, 27, 172, 173, 74, 174, 175, 176, 177, 178, 179, 180, 181, 182, 183, 184, 185, 186, 187, 35, 188, 96, 189, 190, 191, 23, 192, 69, 193, 194, 195, 196, 197, 198, 199, 200, 201, 202, 203, 204, 205, 206, 207, 208, 209, 210, 211, 212, 213, 214, 215, 216, 217, 218, 365, 366, 367, 368, 369, 370, 371, 372, 373, 374, 375, 376, 377, 378, 379, 380, 381, 382, 383, 384, 385, 386, 387, 388, 389, 390, 391, 392, 401, 402, 403, 404, 405, 393, 394, 395, 396, 397, 398, 399, 400] (by decide +kernel) (by decide +kernel)) (goodIn_sub (fun _ h => List.mem_cons_of_mem _ (List.mem_append_left _ (List.mem_append_left _ (List.mem_append_right _ h)))) (by decide +kernel))) (goodIn_sub (fun _ h => List.mem_cons_of_mem _ (List.mem_append_left _ (List.mem_append_right _ h))) (by decide +kernel))
set_option maxRecDepth 20000 in
theorem gL_isProved_L_isMade : GoodIn wsL_isProved (wsV RL 80 RL yL_isMade wsL_isMade) := goodIn_app (goodIn_of _ (by decide +kernel)) ggL_isProved_L_isMade
set_option maxRecDepth 20000 in
theorem ggL_isProved_X11_proofAt : GoodIn wsL_isProved wsX11_proofAt := goodIn_ca (goodIn_r _ [222, 223, 224, 13, 14, 225, 382, 383, 384, 385, 386, 387, 388, 389, 390, 391, 392, 393, 394, 395, 396, 397, 398, 399, 400] (by decide +kernel) (by decide +kernel)) (goodIn_sub (fun _ h => List.mem_cons_of_mem _ (List.mem_append_right _ h)) (by decide +kernel))
set_option maxRecDepth 20000 in
theorem gL_isProved_X11_proofAt : GoodIn wsL_isProved (wsV RL 154 RX11 yX11_proofAt wsX11_proofAt) := goodIn_app (goodIn_of _ (by decide +kernel)) ggL_isProved_X11_proofAt
set_option maxRecDepth 20000 in
theorem ggL_isProved_X11_wish : GoodIn wsL_isProved wsX11_wish := goodIn_ca (goodIn_ca (goodIn_ca (goodIn_r _ [229, 163, 164, 201, 202, 24, 155, 156, 157, 4, 158, 159, 160, 161, 162, 230, 231, 232, 233, 223, 224, 207, 208, 209, 23, 210, 69, 234, 235, 236, 237, 165, 166, 167, 168, 28, 13, 169, 170, 171, 27, 172, 173, 74, 174, 175, 176, 177, 178, 179, 180, 181, 182, 183, 184, 185, 186, 187, 35, 188, 96, 189, 190, 191, 192, 238, 239, 240, 241, 382, 383, 384, 385, 386, 387, 388, 389, 390, 391, 392, 401, 402, 403, 404, 405, 393, 394, 395, 396, 397, 398, 399, 400] (by decide +kernel) (by decide +kernel)) (goodIn_sub (fun _ h => List.mem_cons_of_mem _ (List.mem_append_left _ (List.mem_append_left _ (List.mem_append_right _ h)))) (by decide +kernel))) (goodIn_sub (fun _ h => List.mem_cons_of_mem _ (List.mem_append_left _ (List.mem_append_right _ h))) (by decide +kernel))) (goodIn_sub (fun _ h => List.mem_cons_of_mem _ (List.mem_append_right _ h)) (by decide +kernel))
set_option maxRecDepth 20000 in
theorem gL_isProved_X11_wish : GoodIn wsL_isProved (wsV RL 87 RX11 yX11_wish wsX11_wish) := goodIn_app (goodIn_of _ (by decide +kernel)) ggL_isProved_X11_wish
set_option maxRecDepth 20000 in
theorem ggL_isProved_X11_find : GoodIn wsL_isProved wsX11_find := goodIn_r _ [245, 13, 24, 246, 247, 248, 249, 35, 250, 93, 251, 252, 94, 253, 254, 255, 23, 256, 257, 235, 236, 237, 69, 258, 259, 260, 261, 262, 263, 264, 31, 265, 266, 267, 208, 209, 210, 268, 269, 270, 271, 87, 79, 80, 78, 272, 273, 81, 82, 83, 84, 85, 86, 274, 275, 276, 277, 278, 279, 280, 281, 282, 283, 284, 285, 286, 287, 288, 289, 290, 291, 292, 293, 294, 295, 296, 297, 298, 299, 300, 99, 98, 301, 176, 177, 178, 302, 303, 304, 305, 306, 307, 308, 309, 310, 311, 312, 313, 314, 315, 316, 317, 318, 319, 320, 321, 322, 323, 324, 325, 326, 327, 328, 329, 330, 331, 97, 332, 333, 334, 335, 336, 337, 338, 339, 340, 341, 342, 343, 344, 345, 346, 347, 348, 349, 350, 351, 352, 353, 354, 355, 356, 357, 358, 96, 95, 359, 165, 166, 167, 4, 168, 28, 169, 170, 171, 27, 172, 173, 74, 174, 175, 179, 180, 181, 182, 183, 184, 185, 186, 187, 188, 360, 361, 362, 363, 70, 364, 382, 383, 384, 385, 386, 387, 388, 389, 390, 391, 392, 393, 394, 395, 396, 397, 398, 399, 400, 406, 407, 408, 409, 410, 411, 412, 413, 414, 415, 416, 417, 401, 402, 403, 404, 405] (by decide +kernel) (by decide +kernel)
set_option maxRecDepth 20000 in
theorem gL_isProved_X11_find : GoodIn wsL_isProved (wsV RL 120 RX11 yX11_find wsX11_find) := goodIn_app (goodIn_of _ (by decide +kernel)) ggL_isProved_X11_find
theorem dL_isProved_0 : decode cL_isProved 0 = .ok (.aload_n 0, 1) := by decide +kernel
theorem dL_isProved_1 : decode cL_isProved 1 = .ok (.getfield 10, 3) := by decide +kernel
theorem dL_isProved_4 : decode cL_isProved 4 = .ok (.invokevirtual 135, 3) := by decide +kernel
theorem dL_isProved_7 : decode cL_isProved 7 = .ok (.istore_n 1, 1) := by decide +kernel
theorem dL_isProved_8 : decode cL_isProved 8 = .ok (.iconst (-1), 1) := by decide +kernel
theorem dL_isProved_9 : decode cL_isProved 9 = .ok (.istore_n 2, 1) := by decide +kernel
theorem dL_isProved_10 : decode cL_isProved 10 = .ok (.iload_n 2, 1) := by decide +kernel
theorem dL_isProved_11 : decode cL_isProved 11 = .ok (.iload_n 1, 1) := by decide +kernel
theorem dL_isProved_12 : decode cL_isProved 12 = .ok (.if_icmp .ge 134, 3) := by decide +kernel
theorem dL_isProved_15 : decode cL_isProved 15 = .ok (.new 1, 3) := by decide +kernel
theorem dL_isProved_18 : decode cL_isProved 18 = .ok (.dup, 1) := by decide +kernel
theorem dL_isProved_19 : decode cL_isProved 19 = .ok (.invokespecial 9, 3) := by decide +kernel
theorem dL_isProved_22 : decode cL_isProved 22 = .ok (.astore_n 3, 1) := by decide +kernel
theorem dL_isProved_23 : decode cL_isProved 23 = .ok (.aload_n 0, 1) := by decide +kernel
theorem dL_isProved_24 : decode cL_isProved 24 = .ok (.aload_n 3, 1) := by decide +kernel
theorem dL_isProved_25 : decode cL_isProved 25 = .ok (.invokevirtual 80, 3) := by decide +kernel
theorem dL_isProved_28 : decode cL_isProved 28 = .ok (.ifCond .ne 5, 3) := by decide +kernel
theorem dL_isProved_31 : decode cL_isProved 31 = .ok (.iconst 0, 1) := by decide +kernel
theorem dL_isProved_32 : decode cL_isProved 32 = .ok (.ireturn, 1) := by decide +kernel
theorem dL_isProved_33 : decode cL_isProved 33 = .ok (.iconst (-1), 1) := by decide +kernel
theorem dL_isProved_34 : decode cL_isProved 34 = .ok (.istore 4, 2) := by decide +kernel
theorem dL_isProved_36 : decode cL_isProved 36 = .ok (.iconst 0, 1) := by decide +kernel
theorem dL_isProved_37 : decode cL_isProved 37 = .ok (.istore 5, 2) := by decide +kernel
theorem dL_isProved_39 : decode cL_isProved 39 = .ok (.iload 5, 2) := by decide +kernel
theorem dL_isProved_41 : decode cL_isProved 41 = .ok (.iload_n 1, 1) := by decide +kernel
theorem dL_isProved_42 : decode cL_isProved 42 = .ok (.if_icmp .ge 80, 3) := by decide +kernel
theorem dL_isProved_45 : decode cL_isProved 45 = .ok (.aload_n 0, 1) := by decide +kernel
theorem dL_isProved_46 : decode cL_isProved 46 = .ok (.getfield 10, 3) := by decide +kernel
theorem dL_isProved_49 : decode cL_isProved 49 = .ok (.iload 5, 2) := by decide +kernel
theorem dL_isProved_51 : decode cL_isProved 51 = .ok (.invokevirtual 154, 3) := by decide +kernel
theorem dL_isProved_54 : decode cL_isProved 54 = .ok (.istore 6, 2) := by decide +kernel
theorem dL_isProved_56 : decode cL_isProved 56 = .ok (.iload 6, 2) := by decide +kernel
theorem dL_isProved_58 : decode cL_isProved 58 = .ok (.iload 4, 2) := by decide +kernel
theorem dL_isProved_60 : decode cL_isProved 60 = .ok (.if_icmp .le 13, 3) := by decide +kernel
theorem dL_isProved_63 : decode cL_isProved 63 = .ok (.aload_n 0, 1) := by decide +kernel
theorem dL_isProved_64 : decode cL_isProved 64 = .ok (.getfield 44, 3) := by decide +kernel
theorem dL_isProved_67 : decode cL_isProved 67 = .ok (.iload 6, 2) := by decide +kernel
theorem dL_isProved_69 : decode cL_isProved 69 = .ok (.iaload, 1) := by decide +kernel
theorem dL_isProved_70 : decode cL_isProved 70 = .ok (.ifCond .eq 5, 3) := by decide +kernel
theorem dL_isProved_73 : decode cL_isProved 73 = .ok (.iconst 0, 1) := by decide +kernel
theorem dL_isProved_74 : decode cL_isProved 74 = .ok (.ireturn, 1) := by decide +kernel
theorem dL_isProved_75 : decode cL_isProved 75 = .ok (.iload 6, 2) := by decide +kernel
theorem dL_isProved_77 : decode cL_isProved 77 = .ok (.istore 4, 2) := by decide +kernel
theorem dL_isProved_79 : decode cL_isProved 79 = .ok (.iload 5, 2) := by decide +kernel
theorem dL_isProved_81 : decode cL_isProved 81 = .ok (.iload_n 2, 1) := by decide +kernel
theorem dL_isProved_82 : decode cL_isProved 82 = .ok (.if_icmp .eq 34, 3) := by decide +kernel
theorem dL_isProved_85 : decode cL_isProved 85 = .ok (.aload_n 3, 1) := by decide +kernel
theorem dL_isProved_86 : decode cL_isProved 86 = .ok (.aload_n 0, 1) := by decide +kernel
theorem dL_isProved_87 : decode cL_isProved 87 = .ok (.getfield 35, 3) := by decide +kernel
theorem dL_isProved_90 : decode cL_isProved 90 = .ok (.iload 6, 2) := by decide +kernel
theorem dL_isProved_92 : decode cL_isProved 92 = .ok (.iaload, 1) := by decide +kernel
theorem dL_isProved_93 : decode cL_isProved 93 = .ok (.aload_n 0, 1) := by decide +kernel
theorem dL_isProved_94 : decode cL_isProved 94 = .ok (.getfield 38, 3) := by decide +kernel
theorem dL_isProved_97 : decode cL_isProved 97 = .ok (.iload 6, 2) := by decide +kernel
theorem dL_isProved_99 : decode cL_isProved 99 = .ok (.iaload, 1) := by decide +kernel
theorem dL_isProved_100 : decode cL_isProved 100 = .ok (.aload_n 0, 1) := by decide +kernel
theorem dL_isProved_101 : decode cL_isProved 101 = .ok (.getfield 41, 3) := by decide +kernel
theorem dL_isProved_104 : decode cL_isProved 104 = .ok (.iload 6, 2) := by decide +kernel
theorem dL_isProved_106 : decode cL_isProved 106 = .ok (.iaload, 1) := by decide +kernel
theorem dL_isProved_107 : decode cL_isProved 107 = .ok (.iconst 0, 1) := by decide +kernel
theorem dL_isProved_108 : decode cL_isProved 108 = .ok (.invokevirtual 87, 3) := by decide +kernel
theorem dL_isProved_111 : decode cL_isProved 111 = .ok (.ifCond .ge 5, 3) := by decide +kernel
theorem dL_isProved_114 : decode cL_isProved 114 = .ok (.iconst 0, 1) := by decide +kernel
theorem dL_isProved_115 : decode cL_isProved 115 = .ok (.ireturn, 1) := by decide +kernel
theorem dL_isProved_116 : decode cL_isProved 116 = .ok (.iinc 5 1, 3) := by decide +kernel
theorem dL_isProved_119 : decode cL_isProved 119 = .ok (.goto (-80), 3) := by decide +kernel
theorem dL_isProved_122 : decode cL_isProved 122 = .ok (.aload_n 3, 1) := by decide +kernel
theorem dL_isProved_123 : decode cL_isProved 123 = .ok (.invokevirtual 120, 3) := by decide +kernel
theorem dL_isProved_126 : decode cL_isProved 126 = .ok (.iload_n 2, 1) := by decide +kernel
theorem dL_isProved_127 : decode cL_isProved 127 = .ok (.ifCond .lt 7, 3) := by decide +kernel
theorem dL_isProved_130 : decode cL_isProved 130 = .ok (.iconst 1, 1) := by decide +kernel
theorem dL_isProved_131 : decode cL_isProved 131 = .ok (.goto 4, 3) := by decide +kernel
theorem dL_isProved_134 : decode cL_isProved 134 = .ok (.iconst 0, 1) := by decide +kernel
theorem dL_isProved_135 : decode cL_isProved 135 = .ok (.if_icmp .eq 5, 3) := by decide +kernel
theorem dL_isProved_138 : decode cL_isProved 138 = .ok (.iconst 0, 1) := by decide +kernel
theorem dL_isProved_139 : decode cL_isProved 139 = .ok (.ireturn, 1) := by decide +kernel
theorem dL_isProved_140 : decode cL_isProved 140 = .ok (.iinc 2 1, 3) := by decide +kernel
theorem dL_isProved_143 : decode cL_isProved 143 = .ok (.goto (-133), 3) := by decide +kernel
theorem dL_isProved_146 : decode cL_isProved 146 = .ok (.iconst 1, 1) := by decide +kernel
theorem dL_isProved_147 : decode cL_isProved 147 = .ok (.ireturn, 1) := by decide +kernel
set_option maxRecDepth 20000 in
theorem ggL_areRooms_X11_roomOf : GoodIn wsL_areRooms wsX11_roomOf := goodIn_ca (goodIn_ca (goodIn_r _ [11, 12, 13, 14, 15, 16, 17, 10, 18, 19, 20, 21, 22, 23, 24, 25, 26, 27, 28, 29, 30, 31, 32, 33, 34, 35, 36, 37, 38, 39, 40, 41, 42, 43, 44, 45, 46, 47, 48, 49, 50, 51, 52, 53, 54, 55, 56, 57, 58, 59, 60, 61, 62, 63, 64, 65, 66, 67, 68, 69, 70, 71, 72, 73, 74, 75, 76, 77, 78, 79, 80, 81, 82, 83, 84, 85, 86, 87, 88, 89, 90, 91, 92, 93, 94, 95, 96, 114, 115, 116, 117, 118, 119, 120, 121, 122, 123, 124, 125, 126, 127, 128, 129, 130, 131, 132, 133, 134, 135, 136, 137, 138] (by decide +kernel) (by decide +kernel)) (goodIn_sub (fun _ h => List.mem_cons_of_mem _ (List.mem_append_left _ (List.mem_append_right _ h))) (by decide +kernel))) (goodIn_sub (fun _ h => List.mem_cons_of_mem _ (List.mem_append_right _ h)) (by decide +kernel))
set_option maxRecDepth 20000 in
theorem gL_areRooms_X11_roomOf : GoodIn wsL_areRooms (wsV RL 157 RX11 yX11_roomOf wsX11_roomOf) := goodIn_app (goodIn_of _ (by decide +kernel)) ggL_areRooms_X11_roomOf
theorem dL_areRooms_0 : decode cL_areRooms 0 = .ok (.iconst 0, 1) := by decide +kernel
theorem dL_areRooms_1 : decode cL_areRooms 1 = .ok (.istore_n 1, 1) := by decide +kernel
theorem dL_areRooms_2 : decode cL_areRooms 2 = .ok (.iload_n 1, 1) := by decide +kernel
theorem dL_areRooms_3 : decode cL_areRooms 3 = .ok (.aload_n 0, 1) := by decide +kernel
