set_option maxRecDepth 20000 in
theorem wsL_law_in0 : ∀ w ∈ wsL_law0, w ∈ lw_tbl := fun w h => (goodIn_p wsL_law0 [421, 425, 110, 431, 434, 437, 417, 413, 484, 489, 493, 82, 514, 549, 553, 557, 561, 190, 564, 569, 572, 589, 304, 602, 608, 614, 377, 318, 322, 156, 159, 162, 166, 170, 326, 240, 73, 78, 174, 179, 186, 194, 385, 389, 275, 357, 231, 279, 283, 394, 398, 215, 218, 223, 227, 235, 246, 250, 257, 261, 265, 270, 287, 290, 297, 301, 308, 403, 407, 331, 335, 341, 313, 345, 349, 353, 361, 365, 369, 373, 634, 639, 645, 650, 654, 658, 663, 667, 672, 677, 683, 690, 694, 698, 702, 706, 713, 716, 764, 769, 776, 780, 796, 802, 809, 813, 818, 843, 840, 846] (by decide +kernel) (by decide +kernel) w h).1
theorem wsL_law_x0 : ∀ w ∈ (vx_atS RX6 33 "java/lang/IllegalArgumentException" ["java/lang/RuntimeException", "java/lang/Exception"]).filter goodWord, w ∈ lw_tbl := by decide +kernel
theorem wsL_law_x1 : ∀ w ∈ (vx_atS RX6 55 "java/lang/IllegalStateException" ["java/lang/RuntimeException", "java/lang/Exception"]).filter goodWord, w ∈ lw_tbl := by decide +kernel
theorem wsL_law_x2 : ∀ w ∈ (vx_atS RX6 286 "java/lang/IndexOutOfBoundsException" ["java/lang/RuntimeException", "java/lang/Exception"]).filter goodWord, w ∈ lw_tbl := by decide +kernel
theorem wsL_law_in : ∀ w ∈ wsL_law, w ∈ lw_tbl := fun w h => (List.mem_append.mp h).elim (fun h => (List.mem_append.mp h).elim (fun h => (List.mem_append.mp h).elim (fun h => wsL_law_in0 w h) (fun h => wsL_law_x0 w h)) (fun h => wsL_law_x1 w h)) (fun h => wsL_law_x2 w h)
theorem inX0 : ∀ w ∈ wsX00, w ∈ lw_tbl := by decide +kernel
theorem inlX1 : ∀ w ∈ wsX10, w ∈ wsL_law := fun _ h => List.mem_append_left _ (List.mem_append_left _ (List.mem_append_left _ (List.mem_append_left _ (List.mem_append_left _ (List.mem_append_left _ (List.mem_append_right _ h))))))
theorem inX1 : ∀ w ∈ wsX10, w ∈ lw_tbl := fun w h => wsL_law_in w (inlX1 w h)
theorem inlX2 : ∀ w ∈ wsX20, w ∈ wsL_law := fun _ h => List.mem_append_left _ (List.mem_append_left _ (List.mem_append_left _ (List.mem_append_left _ (List.mem_append_left _ (List.mem_append_left _ (List.mem_append_left _ (List.mem_append_right _ h)))))))
theorem inX2 : ∀ w ∈ wsX20, w ∈ lw_tbl := fun w h => wsL_law_in w (inlX2 w h)
theorem inlX3 : ∀ w ∈ wsX30, w ∈ wsL_law := fun _ h => List.mem_append_left _ (List.mem_append_left _ (List.mem_append_left _ (List.mem_append_left _ (List.mem_append_left _ (List.mem_append_right _ h)))))
theorem inX3 : ∀ w ∈ wsX30, w ∈ lw_tbl := fun w h => wsL_law_in w (inlX3 w h)
theorem inlX4 : ∀ w ∈ wsX40, w ∈ wsL_law := fun _ h => List.mem_append_left _ (List.mem_append_left _ (List.mem_append_left _ (List.mem_append_left _ (List.mem_append_right _ h))))
theorem inX4 : ∀ w ∈ wsX40, w ∈ lw_tbl := fun w h => wsL_law_in w (inlX4 w h)
theorem inlX5 : ∀ w ∈ wsX50, w ∈ wsL_law := fun _ h => List.mem_append_left _ (List.mem_append_left _ (List.mem_append_left _ (List.mem_append_left _ (List.mem_append_left _ (List.mem_append_left _ (List.mem_append_left _ (List.mem_append_left _ (List.mem_append_right _ h))))))))
theorem inX5 : ∀ w ∈ wsX50, w ∈ lw_tbl := fun w h => wsL_law_in w (inlX5 w h)
theorem inlX6 : ∀ w ∈ wsX60, w ∈ wsL_law := fun _ h => List.mem_append_left _ (List.mem_append_left _ (List.mem_append_left _ (List.mem_append_left _ (List.mem_append_left _ (List.mem_append_left _ (List.mem_append_left _ (List.mem_append_left _ (List.mem_append_left _ (List.mem_append_left _ (List.mem_append_right _ h))))))))))
theorem inX6 : ∀ w ∈ wsX60, w ∈ lw_tbl := fun w h => wsL_law_in w (inlX6 w h)
theorem inX7 : ∀ w ∈ wsX70, w ∈ lw_tbl := by decide +kernel
theorem inX8 : ∀ w ∈ wsX80, w ∈ lw_tbl := by decide +kernel
theorem inX9 : ∀ w ∈ wsX90, w ∈ lw_tbl := by decide +kernel
theorem inX10 : ∀ w ∈ wsX100, w ∈ lw_tbl := by decide +kernel
theorem inX11 : ∀ w ∈ wsX110, w ∈ lw_tbl := by decide +kernel
theorem inJx145de : ∀ w ∈ wsJx145de0, w ∈ lw_tbl := by decide +kernel
theorem inJx8e188 : ∀ w ∈ wsJx8e1880, w ∈ lw_tbl := by decide +kernel
theorem inJ6 : ∀ w ∈ wsJ60, w ∈ lw_tbl := by decide +kernel
theorem inJxab1ab : ∀ w ∈ wsJxab1ab0, w ∈ lw_tbl := by decide +kernel
theorem inJ9 : ∀ w ∈ wsJ90, w ∈ lw_tbl := by decide +kernel
theorem inJ0 : ∀ w ∈ wsJ00, w ∈ lw_tbl := by decide +kernel
theorem inJ10 : ∀ w ∈ wsJ100, w ∈ lw_tbl := by decide +kernel
theorem inJxa1e45 : ∀ w ∈ wsJxa1e450, w ∈ lw_tbl := by decide +kernel
theorem inJxc12de : ∀ w ∈ wsJxc12de0, w ∈ lw_tbl := by decide +kernel
theorem inlJx4a65c : ∀ w ∈ wsJx4a65c0, w ∈ wsL_law := fun _ h => List.mem_append_left _ (List.mem_append_left _ (List.mem_append_left _ (List.mem_append_left _ (List.mem_append_left _ (List.mem_append_left _ (List.mem_append_left _ (List.mem_append_left _ (List.mem_append_left _ (List.mem_append_right _ h)))))))))
theorem inJx4a65c : ∀ w ∈ wsJx4a65c0, w ∈ lw_tbl := fun w h => wsL_law_in w (inlJx4a65c w h)
theorem inJ7 : ∀ w ∈ wsJ70, w ∈ lw_tbl := by decide +kernel
theorem inJx5ef63 : ∀ w ∈ wsJx5ef630, w ∈ lw_tbl := by decide +kernel
theorem inJxbd725 : ∀ w ∈ wsJxbd7250, w ∈ lw_tbl := by decide +kernel
theorem inJ15 : ∀ w ∈ wsJ150, w ∈ lw_tbl := by decide +kernel
theorem inJxf0a74 : ∀ w ∈ wsJxf0a740, w ∈ lw_tbl := by decide +kernel
theorem inJxa66e6 : ∀ w ∈ wsJxa66e60, w ∈ lw_tbl := by decide +kernel
theorem inJ8 : ∀ w ∈ wsJ80, w ∈ lw_tbl := by decide +kernel
theorem inJ3 : ∀ w ∈ wsJ30, w ∈ lw_tbl := by decide +kernel
set_option maxRecDepth 20000 in
theorem ggL_law_L_shop : GoodIn wsL_law wsL_shop := goodIn_ca (goodIn_ca (goodIn_r _ [4, 5, 6, 7, 8, 9, 10, 11, 12, 13, 14, 15, 16, 17, 18, 19, 20, 21, 22, 23, 24, 25, 26, 27, 28, 29, 30, 31, 32, 33, 34, 35, 36, 37, 38, 3, 39, 40, 41, 42, 43, 44, 45, 46, 47, 48, 49, 50, 51, 52, 53, 54, 55, 56, 57, 58, 59, 60, 61, 62, 63, 64, 65, 66, 67, 68, 69, 70, 71, 72, 73, 74, 75, 76, 77, 78, 79, 80, 81, 82, 83, 84, 85, 86, 87, 88, 89, 90, 91, 92, 93, 94, 95, 96, 97, 98, 99, 100, 101, 102, 103, 104, 105, 106, 107, 108, 109, 110, 111, 112, 113, 114, 115, 116, 117, 118, 119, 120, 121, 122, 123, 124, 125, 126, 127, 128, 129, 130, 131, 132, 133, 134, 135, 136, 137, 138, 139, 140, 141, 142, 143, 144, 145, 146, 147, 148, 149, 583, 584, 585, 586, 587, 588, 589, 590, 591, 592, 593, 594, 595, 596, 597, 598, 599, 600, 601, 602, 603] (by decide +kernel) (by decide +kernel)) (goodIn_sub (fun _ h => List.mem_append_left _ (List.mem_append_left _ (List.mem_append_right _ h))) (by decide +kernel))) (goodIn_sub (fun _ h => List.mem_append_left _ (List.mem_append_right _ h)) (by decide +kernel))
set_option maxRecDepth 20000 in
theorem gL_law_L_shop : GoodIn wsL_law (va_wsS RL 73 yL_shop wsL_shop) := goodIn_app (goodIn_of _ (by decide +kernel)) ggL_law_L_shop
set_option maxRecDepth 20000 in
theorem ggL_law_L_cell : GoodIn wsL_law wsL_cell := goodIn_r _ [39, 40] (by decide +kernel) (by decide +kernel)
set_option maxRecDepth 20000 in
theorem gL_law_L_cell : GoodIn wsL_law (va_wsS RL 12 yL_cell wsL_cell) := goodIn_app (goodIn_of _ (by decide +kernel)) ggL_law_L_cell
set_option maxRecDepth 20000 in
theorem ggL_law_X6_digest : GoodIn wsL_law wsX6_digest := goodIn_ca (goodIn_ca (goodIn_r _ [153, 154, 155, 17, 18, 19, 156, 157, 158, 7, 159, 49, 50, 160, 161, 162, 20, 64, 65, 66, 67, 16, 68, 69, 163, 164, 165, 166, 167, 168, 169, 170, 171, 172, 173, 174, 175, 176, 177, 178, 179, 180, 181, 182, 183, 184, 26, 185, 186, 187, 188, 189, 190, 191, 192, 193, 194, 195, 196, 197, 198, 199, 200, 201, 202, 203, 204, 205, 206, 207, 208, 209, 210, 211, 212, 213, 214, 215, 216, 217, 218, 219, 220, 221, 222, 223, 224, 225, 226, 227, 228, 59, 229, 79, 230, 231, 232, 233, 234, 235, 236, 237, 77, 76, 238, 100, 101, 102, 239, 240, 241, 242, 243, 244, 245, 246, 247, 248, 249, 250, 251, 252, 253, 254, 255, 256, 257, 258, 259, 260, 261, 262, 263, 264, 265, 266, 267, 268, 269, 270, 271, 272, 273, 274, 275, 276, 277, 278, 279, 280, 281, 282, 283, 284, 285, 286, 287, 288, 289, 290, 291, 292, 293, 294, 295, 296, 297, 298, 299, 300, 301, 21, 302, 303, 304, 305, 306, 307, 308, 309, 310, 311, 312, 313, 314, 315, 316, 317, 318, 319, 320, 321, 322, 323, 324, 325, 326, 327, 328, 329, 330, 331, 332, 333, 334, 335, 336, 337, 338, 339, 340, 341, 342, 343, 344, 345, 346, 347, 348, 349, 127, 128, 350, 351, 352, 353, 354, 355, 356, 357, 358, 359, 360, 361, 362, 363, 364, 365, 366, 367, 368, 369, 370, 371, 372, 373, 374, 375, 376, 377, 378, 379, 380, 381, 382, 383, 384, 385, 386, 387, 388, 389, 390, 391, 392, 393, 394, 395, 396, 397, 398, 399, 400, 401, 402, 403, 404, 405, 406, 407, 408, 409, 410, 411, 412, 413, 414, 415, 416, 417, 418, 419, 420, 421, 422, 423, 424, 425, 426, 583, 584, 585, 586, 587, 588, 589, 590, 591, 592, 593, 594, 604, 605, 606, 607, 608, 609, 610, 611, 612, 613, 614, 615, 616, 617, 618, 619, 620, 595, 596, 597, 598, 599, 600, 601, 621, 622, 602, 603] (by decide +kernel) (by decide +kernel)) (goodIn_sub (fun _ h => List.mem_append_left _ (List.mem_append_left _ (List.mem_append_right _ h))) (by decide +kernel))) (goodIn_sub (fun _ h => List.mem_append_right _ h) (by decide +kernel))
set_option maxRecDepth 20000 in
theorem gL_law_X6_digest : GoodIn wsL_law (wsV RL 76 RX6 yX6_digest wsX6_digest) := goodIn_app (goodIn_of _ (by decide +kernel)) ggL_law_X6_digest
set_option maxRecDepth 20000 in
theorem ggL_law_L_below : GoodIn wsL_law wsL_below := goodIn_r _ [43, 44] (by decide +kernel) (by decide +kernel)
set_option maxRecDepth 20000 in
theorem gL_law_L_below : GoodIn wsL_law (va_wsS RL 18 yL_below wsL_below) := goodIn_app (goodIn_of _ (by decide +kernel)) ggL_law_L_below
set_option maxRecDepth 20000 in
theorem ggL_law_X6_wouldTake : GoodIn wsL_law wsX6_wouldTake := goodIn_ca (goodIn_r _ [381, 17, 219, 295, 296, 7, 297, 217, 218, 298, 299, 300, 301, 21, 65, 66, 67, 16, 68, 69, 169, 170, 171, 172, 173, 174, 175, 176, 177, 178, 179, 180, 181, 182, 183, 184, 26, 382, 383, 384, 385, 19, 167, 224, 225, 306, 307, 209, 336, 100, 101, 102, 266, 267, 268, 269, 270, 271, 386, 387, 388, 389, 316, 390, 391, 583, 584, 585, 586, 587, 588, 589, 590, 591, 592, 593, 594, 604, 605, 606, 607, 608, 609, 610, 611, 612, 613, 614, 615, 616, 617, 618, 619, 620, 595, 596, 597, 598, 599, 600, 601] (by decide +kernel) (by decide +kernel)) (goodIn_sub (fun _ h => List.mem_append_right _ h) (by decide +kernel))
set_option maxRecDepth 20000 in
theorem gL_law_X6_wouldTake : GoodIn wsL_law (wsV RL 80 RX6 yX6_wouldTake wsX6_wouldTake) := goodIn_app (goodIn_of _ (by decide +kernel)) ggL_law_X6_wouldTake
set_option maxRecDepth 20000 in
theorem ggL_law_X6_shop : GoodIn wsL_law wsX6_shop := goodIn_ca (goodIn_r _ [159, 49, 50, 160, 17, 18, 19, 161, 162, 20, 64, 65, 66, 67, 16, 68, 69, 163, 164, 165, 7, 166, 167, 168, 169, 170, 171, 172, 173, 174, 175, 176, 177, 178, 179, 180, 181, 182, 183, 184, 26, 185, 186, 187, 188, 189, 190, 191, 192, 193, 194, 195, 196, 197, 198, 199, 200, 201, 202, 203, 204, 583, 584, 585, 586, 587, 588, 589, 590, 591, 592, 593, 594, 604, 605, 606, 607, 608, 609, 610, 611, 612, 613, 614, 615, 616, 617, 618, 619, 620, 595, 596, 597, 598, 599, 600, 601] (by decide +kernel) (by decide +kernel)) (goodIn_sub (fun _ h => List.mem_append_left _ (List.mem_append_left _ (List.mem_append_right _ h))) (by decide +kernel))
set_option maxRecDepth 20000 in
theorem gL_law_X6_shop : GoodIn wsL_law (wsV RL 32 RX6 yX6_shop wsX6_shop) := goodIn_app (goodIn_of _ (by decide +kernel)) ggL_law_X6_shop
set_option maxRecDepth 20000 in
theorem ggL_law_X6_ofGift : GoodIn wsL_law wsX6_ofGift := goodIn_ca (goodIn_ca (goodIn_r _ [395, 217, 218, 49, 50, 19, 167, 224, 225, 396, 259, 260, 377, 306, 307, 397, 398, 265, 168, 65, 66, 67, 16, 68, 69, 169, 170, 171, 172, 173, 174, 175, 176, 177, 178, 179, 180, 181, 182, 183, 184, 26, 583, 584, 585, 586, 587, 588, 589, 590, 591, 604, 605, 606, 607, 608, 609, 610, 611, 612, 613, 614, 615, 616, 617, 618, 619, 620, 595, 596, 597, 598, 599, 600, 601, 602, 603, 592, 593, 594] (by decide +kernel) (by decide +kernel)) (goodIn_sub (fun _ h => List.mem_append_right _ h) (by decide +kernel))) (goodIn_sub (fun _ h => List.mem_append_left _ (List.mem_append_left _ (List.mem_append_right _ h))) (by decide +kernel))
set_option maxRecDepth 20000 in
theorem gL_law_X6_ofGift : GoodIn wsL_law (wsV RL 83 RX6 yX6_ofGift wsX6_ofGift) := goodIn_app (goodIn_of _ (by decide +kernel)) ggL_law_X6_ofGift
set_option maxRecDepth 20000 in
theorem ggL_law_L_isDone : GoodIn wsL_law wsL_isDone := goodIn_ca (goodIn_ca (goodIn_ca (goodIn_r _ [432, 433, 434, 435, 100, 101, 102, 41, 42, 3, 43, 44, 428, 157, 158, 7, 159, 49, 50, 160, 17, 18, 19, 161, 162, 20, 64, 65, 66, 67, 16, 68, 69, 163, 164, 165, 166, 167, 168, 169, 170, 171, 172, 173, 174, 175, 176, 177, 178, 179, 180, 181, 182, 183, 184, 26, 185, 186, 187, 188, 189, 190, 191, 192, 193, 194, 195, 196, 197, 198, 199, 200, 201, 202, 203, 204, 133, 134, 135, 136, 51, 52, 53, 54, 55, 56, 57, 58, 59, 60, 61, 62, 63, 70, 71, 72, 73, 12, 13, 74, 75, 76, 77, 78, 15, 79, 80, 23, 24, 25, 27, 28, 29, 30, 31, 32, 33, 34, 35, 36, 81, 82, 83, 84, 85, 86, 87, 88, 89, 90, 91, 92, 93, 94, 95, 96, 97, 98, 99, 103, 104, 105, 106, 107, 108, 109, 110, 111, 112, 113, 114, 115, 116, 117, 118, 119, 120, 121, 122, 123, 124, 125, 126, 127, 128, 129, 130, 131, 132, 45, 46, 47, 48, 137, 138, 139, 140, 141, 142, 143, 144, 145, 146, 147, 148, 149, 436, 437, 438, 439, 211, 210, 213, 214, 215, 216, 217, 218, 219, 440, 441, 442, 443, 212, 240, 241, 242, 243, 244, 235, 236, 237, 238, 239, 227, 228, 229, 230, 231, 232, 233, 226, 444, 445, 446, 447, 336, 448, 449, 450, 349, 451, 452, 453, 454, 455, 249, 456, 457, 458, 459, 460, 461, 462, 463, 464, 465, 466, 467, 468, 469, 470, 471, 472, 21, 295, 296, 297, 298, 299, 300, 301, 350, 351, 352, 353, 354, 355, 356, 473, 474, 475, 476, 477, 478, 479, 480, 481, 482, 483, 484, 316, 485, 486, 391, 318, 487, 488, 489, 490, 491, 492, 493, 382, 383, 384, 385, 224, 225, 306, 307, 209, 266, 267, 268, 269, 270, 271, 386, 387, 388, 389, 390, 494, 495, 496, 497, 498, 499, 500, 501, 502, 398, 503, 504, 505, 506, 507, 508, 259, 260, 265, 509, 510, 511, 512, 513, 514, 250, 251, 252, 253, 254, 331, 332, 333, 334, 335, 337, 338, 339, 340, 323, 324, 325, 315, 317, 312, 313, 314, 515, 516, 517, 518, 519, 520, 521, 522, 523, 524, 525, 526, 527, 528, 397, 529, 530, 531, 532, 533, 534, 535, 234, 536, 537, 538, 539, 540, 541, 542, 543, 544, 545, 546, 547, 548, 549, 550, 551, 552, 553, 554, 555, 556, 557, 558, 559, 560, 561, 562, 563, 564, 285, 286, 565, 566, 567, 568, 569, 583, 584, 585, 586, 587, 588, 589, 590, 591, 592, 593, 594, 604, 605, 606, 607, 608, 609, 610, 611, 612, 613, 614, 615, 616, 617, 618, 619, 620, 595, 596, 597, 598, 599, 600, 601, 602, 603, 621, 622] (by decide +kernel) (by decide +kernel)) (goodIn_sub (fun _ h => List.mem_append_left _ (List.mem_append_left _ (List.mem_append_right _ h))) (by decide +kernel))) (goodIn_sub (fun _ h => List.mem_append_left _ (List.mem_append_right _ h)) (by decide +kernel))) (goodIn_sub (fun _ h => List.mem_append_right _ h) (by decide +kernel))
set_option maxRecDepth 20000 in
theorem gL_law_L_isDone : GoodIn wsL_law (va_wsS RL 86 yL_isDone wsL_isDone) := goodIn_app (goodIn_of _ (by decide +kernel)) ggL_law_L_isDone
set_option maxRecDepth 20000 in
theorem ggL_law_L_isFair : GoodIn wsL_law wsL_isFair := goodIn_ca (goodIn_ca (goodIn_r _ [572, 429, 393, 394, 7, 395, 217, 218, 49, 50, 19, 167, 224, 225, 396, 259, 260, 377, 306, 307, 397, 398, 265, 168, 65, 66, 67, 16, 68, 69, 169, 170, 171, 172, 173, 174, 175, 176, 177, 178, 179, 180, 181, 182, 183, 184, 26, 573, 292, 293, 294, 295, 296, 297, 298, 299, 300, 301, 21, 185, 186, 187, 302, 303, 304, 305, 266, 267, 268, 269, 270, 271, 308, 309, 310, 311, 20, 192, 160, 193, 194, 195, 196, 197, 198, 199, 200, 201, 202, 203, 204, 312, 313, 314, 315, 316, 317, 318, 319, 320, 321, 322, 323, 324, 325, 326, 327, 328, 329, 17, 219, 330, 331, 332, 333, 334, 211, 212, 209, 335, 336, 100, 101, 102, 337, 338, 339, 340, 341, 342, 343, 344, 18, 254, 255, 256, 257, 258, 272, 273, 274, 275, 276, 277, 278, 59, 279, 79, 230, 280, 231, 232, 233, 345, 346, 347, 348, 249, 349, 127, 128, 350, 351, 352, 353, 354, 355, 356, 357, 358, 359, 360, 361, 362, 363, 364, 210, 365, 366, 367, 368, 574, 206, 207, 208, 213, 214, 215, 216, 220, 221, 222, 223, 226, 227, 228, 229, 234, 235, 236, 237, 77, 76, 238, 239, 240, 241, 242, 243, 244, 427, 379, 380, 381, 382, 383, 384, 385, 386, 387, 388, 389, 390, 391, 428, 157, 158, 159, 161, 162, 64, 163, 164, 165, 166, 188, 189, 190, 191, 583, 584, 585, 586, 587, 588, 589, 590, 591, 604, 605, 606, 607, 608, 609, 610, 611, 612, 613, 614, 615, 616, 617, 618, 619, 620, 595, 596, 597, 598, 599, 600, 601, 602, 603, 592, 593, 594, 621, 622] (by decide +kernel) (by decide +kernel)) (goodIn_sub (fun _ h => List.mem_append_right _ h) (by decide +kernel))) (goodIn_sub (fun _ h => List.mem_append_left _ (List.mem_append_left _ (List.mem_append_right _ h))) (by decide +kernel))
set_option maxRecDepth 20000 in
theorem gL_law_L_isFair : GoodIn wsL_law (va_wsS RL 90 yL_isFair wsL_isFair) := goodIn_app (goodIn_of _ (by decide +kernel)) ggL_law_L_isFair
set_option maxRecDepth 20000 in
theorem ggL_law_L_isTaken : GoodIn wsL_law wsL_isTaken := goodIn_ca (goodIn_ca (goodIn_r _ [577, 429, 393, 394, 7, 395, 217, 218, 49, 50, 19, 167, 224, 225, 396, 259, 260, 377, 306, 307, 397, 398, 265, 168, 65, 66, 67, 16, 68, 69, 169, 170, 171, 172, 173, 174, 175, 176, 177, 178, 179, 180, 181, 182, 183, 184, 26, 583, 584, 585, 586, 587, 588, 589, 590, 591, 604, 605, 606, 607, 608, 609, 610, 611, 612, 613, 614, 615, 616, 617, 618, 619, 620, 595, 596, 597, 598, 599, 600, 601, 602, 603, 592, 593, 594] (by decide +kernel) (by decide +kernel)) (goodIn_sub (fun _ h => List.mem_append_right _ h) (by decide +kernel))) (goodIn_sub (fun _ h => List.mem_append_left _ (List.mem_append_left _ (List.mem_append_right _ h))) (by decide +kernel))
set_option maxRecDepth 20000 in
theorem gL_law_L_isTaken : GoodIn wsL_law (va_wsS RL 94 yL_isTaken wsL_isTaken) := goodIn_app (goodIn_of _ (by decide +kernel)) ggL_law_L_isTaken
set_option maxRecDepth 20000 in
theorem ggL_law_L_arePence : GoodIn wsL_law wsL_arePence := goodIn_ca (goodIn_ca (goodIn_r _ [580, 428, 157, 158, 7, 159, 49, 50, 160, 17, 18, 19, 161, 162, 20, 64, 65, 66, 67, 16, 68, 69, 163, 164, 165, 166, 167, 168, 169, 170, 171, 172, 173, 174, 175, 176, 177, 178, 179, 180, 181, 182, 183, 184, 26, 185, 186, 187, 188, 189, 190, 191, 192, 193, 194, 195, 196, 197, 198, 199, 200, 201, 202, 203, 204, 429, 393, 394, 395, 217, 218, 224, 225, 396, 259, 260, 377, 306, 307, 397, 398, 265, 574, 206, 207, 208, 209, 210, 211, 212, 213, 214, 215, 216, 219, 220, 221, 222, 223, 226, 227, 228, 59, 229, 79, 230, 231, 232, 233, 234, 235, 236, 237, 77, 76, 238, 100, 101, 102, 239, 240, 241, 242, 243, 244, 581, 246, 247, 248, 249, 250, 251, 252, 253, 254, 255, 256, 257, 258, 261, 262, 263, 264, 266, 267, 268, 269, 270, 271, 272, 273, 274, 275, 276, 277, 278, 279, 280, 281, 282, 283, 284, 285, 286, 583, 584, 585, 586, 587, 588, 589, 590, 591, 592, 593, 594, 604, 605, 606, 607, 608, 609, 610, 611, 612, 613, 614, 615, 616, 617, 618, 619, 620, 595, 596, 597, 598, 599, 600, 601, 602, 603, 621, 622] (by decide +kernel) (by decide +kernel)) (goodIn_sub (fun _ h => List.mem_append_left _ (List.mem_append_left _ (List.mem_append_right _ h))) (by decide +kernel))) (goodIn_sub (fun _ h => List.mem_append_right _ h) (by decide +kernel))
set_option maxRecDepth 20000 in
theorem gL_law_L_arePence : GoodIn wsL_law (va_wsS RL 98 yL_arePence wsL_arePence) := goodIn_app (goodIn_of _ (by decide +kernel)) ggL_law_L_arePence
set_option maxRecDepth 20000 in
theorem ggL_law_X6_ofTill : GoodIn wsL_law wsX6_ofTill := goodIn_ca (goodIn_ca (goodIn_r _ [294, 49, 50, 295, 296, 7, 297, 217, 218, 298, 299, 300, 301, 21, 185, 186, 187, 302, 303, 304, 305, 19, 167, 306, 307, 65, 66, 67, 16, 68, 69, 169, 170, 171, 172, 173, 174, 175, 176, 177, 178, 179, 180, 181, 182, 183, 184, 26, 266, 267, 268, 269, 270, 271, 308, 309, 310, 311, 20, 192, 160, 193, 194, 195, 196, 197, 198, 199, 200, 201, 202, 203, 204, 312, 313, 314, 315, 316, 317, 318, 319, 320, 321, 322, 323, 324, 325, 326, 327, 328, 329, 17, 219, 330, 331, 332, 333, 334, 211, 212, 209, 335, 336, 100, 101, 102, 337, 338, 339, 340, 224, 225, 341, 342, 343, 344, 18, 254, 255, 256, 257, 258, 168, 259, 260, 272, 273, 274, 275, 276, 277, 278, 59, 279, 79, 230, 280, 231, 232, 233, 345, 346, 347, 348, 249, 349, 127, 128, 350, 351, 352, 353, 354, 355, 356, 357, 358, 359, 360, 361, 362, 363, 364, 210, 365, 366, 367, 368, 583, 584, 585, 586, 587, 588, 589, 590, 591, 604, 605, 606, 607, 608, 609, 610, 611, 612, 613, 614, 615, 616, 617, 618, 619, 620, 592, 593, 594, 595, 596, 597, 598, 599, 600, 601, 621, 622, 602, 603] (by decide +kernel) (by decide +kernel)) (goodIn_sub (fun _ h => List.mem_append_left _ (List.mem_append_left _ (List.mem_append_right _ h))) (by decide +kernel))) (goodIn_sub (fun _ h => List.mem_append_right _ h) (by decide +kernel))
set_option maxRecDepth 20000 in
theorem gL_law_X6_ofTill : GoodIn wsL_law (wsV RL 102 RX6 yX6_ofTill wsX6_ofTill) := goodIn_app (goodIn_of _ (by decide +kernel)) ggL_law_X6_ofTill
set_option maxRecDepth 20000 in
theorem ggL_law_X6_ofWish : GoodIn wsL_law wsX6_ofWish := goodIn_ca (goodIn_ca (goodIn_r _ [208, 49, 50, 209, 210, 211, 212, 213, 214, 215, 7, 216, 217, 218, 17, 219, 65, 66, 67, 16, 68, 69, 169, 170, 171, 172, 173, 174, 175, 176, 177, 178, 179, 180, 181, 182, 183, 184, 26, 185, 186, 187, 220, 221, 222, 223, 19, 167, 168, 224, 225, 226, 227, 228, 59, 229, 79, 230, 231, 232, 233, 234, 235, 236, 237, 77, 76, 238, 100, 101, 102, 239, 240, 241, 242, 243, 244, 595, 596, 597, 598, 599, 600, 601, 583, 584, 585, 586, 587, 588, 589, 590, 591, 592, 593, 594, 604, 605, 606, 607, 608, 609, 610, 611, 612, 613, 614, 615, 616, 617, 618, 619, 620, 621, 622] (by decide +kernel) (by decide +kernel)) (goodIn_sub (fun _ h => List.mem_append_left _ (List.mem_append_left _ (List.mem_append_right _ h))) (by decide +kernel))) (goodIn_sub (fun _ h => List.mem_append_right _ h) (by decide +kernel))
set_option maxRecDepth 20000 in
theorem gL_law_X6_ofWish : GoodIn wsL_law (wsV RL 105 RX6 yX6_ofWish wsX6_ofWish) := goodIn_app (goodIn_of _ (by decide +kernel)) ggL_law_X6_ofWish
set_option maxRecDepth 20000 in
theorem ggL_law_X6_isSound : GoodIn wsL_law wsX6_isSound := goodIn_r _ [402, 161, 162, 403, 404, 405, 7, 406, 21, 17, 219, 209, 65, 66, 67, 16, 68, 69, 169, 170, 171, 172, 173, 174, 175, 176, 177, 178, 179, 180, 181, 182, 183, 184, 26, 220, 221, 222, 223, 19, 167, 168, 224, 225, 185, 186, 187, 407, 408, 409, 410, 18, 254, 261, 262, 263, 264, 259, 260, 265, 266, 267, 268, 269, 270, 271, 411, 412, 413, 414, 226, 227, 228, 59, 229, 79, 230, 231, 232, 233, 415, 416, 417, 418, 249, 419, 420, 421, 422, 240, 241, 242, 243, 77, 244, 235, 236, 237, 76, 238, 100, 101, 102, 239, 234, 423, 424, 425, 426, 298, 299, 300, 301, 319, 320, 321, 322, 323, 324, 325, 315, 316, 317, 318, 583, 584, 585, 586, 587, 588, 589, 590, 591, 595, 596, 597, 598, 599, 600, 601, 592, 593, 594, 604, 605, 606, 607, 608, 609, 610, 611, 612, 613, 614, 615, 616, 617, 618, 619, 620, 621, 622, 602, 603] (by decide +kernel) (by decide +kernel)
set_option maxRecDepth 20000 in
theorem gL_law_X6_isSound : GoodIn wsL_law (wsV RL 108 RX6 yX6_isSound wsX6_isSound) := goodIn_app (goodIn_of _ (by decide +kernel)) ggL_law_X6_isSound
theorem dL_law_0 : decode cL_law 0 = .ok (.aload_n 0, 1) := by decide +kernel
theorem dL_law_1 : decode cL_law 1 = .ok (.invokestatic 73, 3) := by decide +kernel
theorem dL_law_4 : decode cL_law 4 = .ok (.astore_n 1, 1) := by decide +kernel
theorem dL_law_5 : decode cL_law 5 = .ok (.iconst 0, 1) := by decide +kernel
theorem dL_law_6 : decode cL_law 6 = .ok (.istore_n 2, 1) := by decide +kernel
theorem dL_law_7 : decode cL_law 7 = .ok (.iload_n 2, 1) := by decide +kernel
theorem dL_law_8 : decode cL_law 8 = .ok (.bipush 34, 2) := by decide +kernel
theorem dL_law_10 : decode cL_law 10 = .ok (.if_icmp .ge 264, 3) := by decide +kernel
theorem dL_law_13 : decode cL_law 13 = .ok (.aload_n 0, 1) := by decide +kernel
theorem dL_law_14 : decode cL_law 14 = .ok (.bipush 6, 2) := by decide +kernel
theorem dL_law_16 : decode cL_law 16 = .ok (.iload_n 2, 1) := by decide +kernel
theorem dL_law_17 : decode cL_law 17 = .ok (.bipush 22, 2) := by decide +kernel
theorem dL_law_19 : decode cL_law 19 = .ok (.irem, 1) := by decide +kernel
theorem dL_law_20 : decode cL_law 20 = .ok (.iadd, 1) := by decide +kernel
theorem dL_law_21 : decode cL_law 21 = .ok (.invokestatic 12, 3) := by decide +kernel
theorem dL_law_24 : decode cL_law 24 = .ok (.iload_n 2, 1) := by decide +kernel
theorem dL_law_25 : decode cL_law 25 = .ok (.bipush 22, 2) := by decide +kernel
theorem dL_law_27 : decode cL_law 27 = .ok (.idiv, 1) := by decide +kernel
theorem dL_law_28 : decode cL_law 28 = .ok (.bipush 9, 2) := by decide +kernel
theorem dL_law_30 : decode cL_law 30 = .ok (.imul, 1) := by decide +kernel
theorem dL_law_31 : decode cL_law 31 = .ok (.ishr, 1) := by decide +kernel
theorem dL_law_32 : decode cL_law 32 = .ok (.istore_n 3, 1) := by decide +kernel
theorem dL_law_33 : decode cL_law 33 = .ok (.aload_n 1, 1) := by decide +kernel
theorem dL_law_34 : decode cL_law 34 = .ok (.invokevirtual 76, 3) := by decide +kernel
theorem dL_law_37 : decode cL_law 37 = .ok (.lstore 4, 2) := by decide +kernel
theorem dL_law_39 : decode cL_law 39 = .ok (.iload_n 3, 1) := by decide +kernel
theorem dL_law_40 : decode cL_law 40 = .ok (.iconst 4, 1) := by decide +kernel
theorem dL_law_41 : decode cL_law 41 = .ok (.ishr, 1) := by decide +kernel
theorem dL_law_42 : decode cL_law 42 = .ok (.iconst 3, 1) := by decide +kernel
theorem dL_law_43 : decode cL_law 43 = .ok (.invokestatic 18, 3) := by decide +kernel
theorem dL_law_46 : decode cL_law 46 = .ok (.istore 6, 2) := by decide +kernel
theorem dL_law_48 : decode cL_law 48 = .ok (.aload_n 1, 1) := by decide +kernel
theorem dL_law_49 : decode cL_law 49 = .ok (.iload 6, 2) := by decide +kernel
theorem dL_law_51 : decode cL_law 51 = .ok (.invokevirtual 80, 3) := by decide +kernel
theorem dL_law_54 : decode cL_law 54 = .ok (.istore 7, 2) := by decide +kernel
theorem dL_law_56 : decode cL_law 56 = .ok (.aload_n 1, 1) := by decide +kernel
theorem dL_law_57 : decode cL_law 57 = .ok (.iconst 3, 1) := by decide +kernel
theorem dL_law_58 : decode cL_law 58 = .ok (.invokevirtual 32, 3) := by decide +kernel
theorem dL_law_61 : decode cL_law 61 = .ok (.istore 8, 2) := by decide +kernel
theorem dL_law_63 : decode cL_law 63 = .ok (.iload 8, 2) := by decide +kernel
theorem dL_law_65 : decode cL_law 65 = .ok (.newarray .int, 2) := by decide +kernel
theorem dL_law_67 : decode cL_law 67 = .ok (.astore 9, 2) := by decide +kernel
theorem dL_law_69 : decode cL_law 69 = .ok (.iconst 0, 1) := by decide +kernel
theorem dL_law_70 : decode cL_law 70 = .ok (.istore 10, 2) := by decide +kernel
theorem dL_law_72 : decode cL_law 72 = .ok (.iload 10, 2) := by decide +kernel
theorem dL_law_74 : decode cL_law 74 = .ok (.iload 8, 2) := by decide +kernel
theorem dL_law_76 : decode cL_law 76 = .ok (.if_icmp .ge 21, 3) := by decide +kernel
theorem dL_law_79 : decode cL_law 79 = .ok (.aload 9, 2) := by decide +kernel
theorem dL_law_81 : decode cL_law 81 = .ok (.iload 10, 2) := by decide +kernel
theorem dL_law_83 : decode cL_law 83 = .ok (.aload_n 1, 1) := by decide +kernel
theorem dL_law_84 : decode cL_law 84 = .ok (.iload 10, 2) := by decide +kernel
theorem dL_law_86 : decode cL_law 86 = .ok (.iconst 5, 1) := by decide +kernel
theorem dL_law_87 : decode cL_law 87 = .ok (.invokevirtual 83, 3) := by decide +kernel
theorem dL_law_90 : decode cL_law 90 = .ok (.iastore, 1) := by decide +kernel
theorem dL_law_91 : decode cL_law 91 = .ok (.iinc 10 1, 3) := by decide +kernel
theorem dL_law_94 : decode cL_law 94 = .ok (.goto (-22), 3) := by decide +kernel
theorem dL_law_97 : decode cL_law 97 = .ok (.aload_n 1, 1) := by decide +kernel
theorem dL_law_98 : decode cL_law 98 = .ok (.iload_n 3, 1) := by decide +kernel
theorem dL_law_99 : decode cL_law 99 = .ok (.invokestatic 86, 3) := by decide +kernel
theorem dL_law_102 : decode cL_law 102 = .ok (.istore 10, 2) := by decide +kernel
theorem dL_law_104 : decode cL_law 104 = .ok (.iload 10, 2) := by decide +kernel
theorem dL_law_106 : decode cL_law 106 = .ok (.ifCond .ne 15, 3) := by decide +kernel
theorem dL_law_109 : decode cL_law 109 = .ok (.aload_n 1, 1) := by decide +kernel
theorem dL_law_110 : decode cL_law 110 = .ok (.invokevirtual 76, 3) := by decide +kernel
theorem dL_law_113 : decode cL_law 113 = .ok (.lload 4, 2) := by decide +kernel
theorem dL_law_115 : decode cL_law 115 = .ok (.lcmp, 1) := by decide +kernel
theorem dL_law_116 : decode cL_law 116 = .ok (.ifCond .eq 5, 3) := by decide +kernel
theorem dL_law_119 : decode cL_law 119 = .ok (.iconst 0, 1) := by decide +kernel
theorem dL_law_120 : decode cL_law 120 = .ok (.ireturn, 1) := by decide +kernel
theorem dL_law_121 : decode cL_law 121 = .ok (.iload 10, 2) := by decide +kernel
theorem dL_law_123 : decode cL_law 123 = .ok (.ifCond .eq 29, 3) := by decide +kernel
theorem dL_law_126 : decode cL_law 126 = .ok (.iload_n 3, 1) := by decide +kernel
theorem dL_law_127 : decode cL_law 127 = .ok (.bipush 23, 2) := by decide +kernel
theorem dL_law_129 : decode cL_law 129 = .ok (.invokestatic 18, 3) := by decide +kernel
theorem dL_law_132 : decode cL_law 132 = .ok (.bipush 7, 2) := by decide +kernel
theorem dL_law_134 : decode cL_law 134 = .ok (.if_icmp .eq 14, 3) := by decide +kernel
theorem dL_law_137 : decode cL_law 137 = .ok (.iload_n 3, 1) := by decide +kernel
theorem dL_law_138 : decode cL_law 138 = .ok (.bipush 23, 2) := by decide +kernel
theorem dL_law_140 : decode cL_law 140 = .ok (.invokestatic 18, 3) := by decide +kernel
theorem dL_law_143 : decode cL_law 143 = .ok (.bipush 8, 2) := by decide +kernel
theorem dL_law_145 : decode cL_law 145 = .ok (.if_icmp .ne 7, 3) := by decide +kernel
theorem dL_law_148 : decode cL_law 148 = .ok (.iconst 1, 1) := by decide +kernel
theorem dL_law_149 : decode cL_law 149 = .ok (.goto 4, 3) := by decide +kernel
theorem dL_law_152 : decode cL_law 152 = .ok (.iconst 0, 1) := by decide +kernel
theorem dL_law_153 : decode cL_law 153 = .ok (.istore 11, 2) := by decide +kernel
theorem dL_law_155 : decode cL_law 155 = .ok (.iload 11, 2) := by decide +kernel
theorem dL_law_157 : decode cL_law 157 = .ok (.ifCond .eq 19, 3) := by decide +kernel
theorem dL_law_160 : decode cL_law 160 = .ok (.aload_n 1, 1) := by decide +kernel
theorem dL_law_161 : decode cL_law 161 = .ok (.iload 6, 2) := by decide +kernel
theorem dL_law_163 : decode cL_law 163 = .ok (.iload 7, 2) := by decide +kernel
theorem dL_law_165 : decode cL_law 165 = .ok (.aload 9, 2) := by decide +kernel
theorem dL_law_167 : decode cL_law 167 = .ok (.invokestatic 90, 3) := by decide +kernel
theorem dL_law_170 : decode cL_law 170 = .ok (.ifCond .eq 22, 3) := by decide +kernel
theorem dL_law_173 : decode cL_law 173 = .ok (.goto 12, 3) := by decide +kernel
theorem dL_law_176 : decode cL_law 176 = .ok (.aload_n 1, 1) := by decide +kernel
theorem dL_law_177 : decode cL_law 177 = .ok (.aload 9, 2) := by decide +kernel
theorem dL_law_179 : decode cL_law 179 = .ok (.invokestatic 94, 3) := by decide +kernel
theorem dL_law_182 : decode cL_law 182 = .ok (.ifCond .eq 10, 3) := by decide +kernel
theorem dL_law_185 : decode cL_law 185 = .ok (.aload_n 1, 1) := by decide +kernel
theorem dL_law_186 : decode cL_law 186 = .ok (.invokestatic 98, 3) := by decide +kernel
theorem dL_law_189 : decode cL_law 189 = .ok (.ifCond .ne 5, 3) := by decide +kernel
theorem dL_law_192 : decode cL_law 192 = .ok (.iconst 0, 1) := by decide +kernel
theorem dL_law_193 : decode cL_law 193 = .ok (.ireturn, 1) := by decide +kernel
theorem dL_law_194 : decode cL_law 194 = .ok (.aload_n 1, 1) := by decide +kernel
theorem dL_law_195 : decode cL_law 195 = .ok (.iconst 0, 1) := by decide +kernel
theorem dL_law_196 : decode cL_law 196 = .ok (.iconst 0, 1) := by decide +kernel
theorem dL_law_197 : decode cL_law 197 = .ok (.invokevirtual 102, 3) := by decide +kernel
theorem dL_law_200 : decode cL_law 200 = .ok (.aload_n 1, 1) := by decide +kernel
theorem dL_law_201 : decode cL_law 201 = .ok (.iconst 1, 1) := by decide +kernel
theorem dL_law_202 : decode cL_law 202 = .ok (.iconst 0, 1) := by decide +kernel
theorem dL_law_203 : decode cL_law 203 = .ok (.invokevirtual 102, 3) := by decide +kernel
theorem dL_law_206 : decode cL_law 206 = .ok (.iadd, 1) := by decide +kernel
theorem dL_law_207 : decode cL_law 207 = .ok (.aload_n 1, 1) := by decide +kernel
theorem dL_law_208 : decode cL_law 208 = .ok (.iconst 2, 1) := by decide +kernel
theorem dL_law_209 : decode cL_law 209 = .ok (.iconst 0, 1) := by decide +kernel
theorem dL_law_210 : decode cL_law 210 = .ok (.invokevirtual 102, 3) := by decide +kernel
theorem dL_law_213 : decode cL_law 213 = .ok (.iadd, 1) := by decide +kernel
theorem dL_law_214 : decode cL_law 214 = .ok (.iconst 3, 1) := by decide +kernel
theorem dL_law_215 : decode cL_law 215 = .ok (.if_icmp .ne 7, 3) := by decide +kernel
theorem dL_law_218 : decode cL_law 218 = .ok (.iconst 1, 1) := by decide +kernel
theorem dL_law_219 : decode cL_law 219 = .ok (.goto 4, 3) := by decide +kernel
theorem dL_law_222 : decode cL_law 222 = .ok (.iconst 0, 1) := by decide +kernel
theorem dL_law_223 : decode cL_law 223 = .ok (.istore 12, 2) := by decide +kernel
theorem dL_law_225 : decode cL_law 225 = .ok (.iconst 0, 1) := by decide +kernel
theorem dL_law_226 : decode cL_law 226 = .ok (.istore 13, 2) := by decide +kernel
theorem dL_law_228 : decode cL_law 228 = .ok (.iload 13, 2) := by decide +kernel
theorem dL_law_230 : decode cL_law 230 = .ok (.aload_n 1, 1) := by decide +kernel
theorem dL_law_231 : decode cL_law 231 = .ok (.iconst 1, 1) := by decide +kernel
theorem dL_law_232 : decode cL_law 232 = .ok (.invokevirtual 32, 3) := by decide +kernel
theorem dL_law_235 : decode cL_law 235 = .ok (.if_icmp .ge 33, 3) := by decide +kernel
theorem dL_law_238 : decode cL_law 238 = .ok (.iload 12, 2) := by decide +kernel
theorem dL_law_240 : decode cL_law 240 = .ok (.ifCond .eq 28, 3) := by decide +kernel
theorem dL_law_243 : decode cL_law 243 = .ok (.aload_n 1, 1) := by decide +kernel
theorem dL_law_244 : decode cL_law 244 = .ok (.iload 13, 2) := by decide +kernel
theorem dL_law_246 : decode cL_law 246 = .ok (.iconst 4, 1) := by decide +kernel
theorem dL_law_247 : decode cL_law 247 = .ok (.invokevirtual 105, 3) := by decide +kernel
theorem dL_law_250 : decode cL_law 250 = .ok (.aload_n 1, 1) := by decide +kernel
theorem dL_law_251 : decode cL_law 251 = .ok (.iload 13, 2) := by decide +kernel
theorem dL_law_253 : decode cL_law 253 = .ok (.iconst 0, 1) := by decide +kernel
theorem dL_law_254 : decode cL_law 254 = .ok (.invokevirtual 105, 3) := by decide +kernel
theorem dL_law_257 : decode cL_law 257 = .ok (.if_icmp .le 5, 3) := by decide +kernel
theorem dL_law_260 : decode cL_law 260 = .ok (.iconst 0, 1) := by decide +kernel
theorem dL_law_261 : decode cL_law 261 = .ok (.ireturn, 1) := by decide +kernel
theorem dL_law_262 : decode cL_law 262 = .ok (.iinc 13 1, 3) := by decide +kernel
theorem dL_law_265 : decode cL_law 265 = .ok (.goto (-37), 3) := by decide +kernel
theorem dL_law_268 : decode cL_law 268 = .ok (.iinc 2 1, 3) := by decide +kernel
theorem dL_law_271 : decode cL_law 271 = .ok (.goto (-264), 3) := by decide +kernel
theorem dL_law_274 : decode cL_law 274 = .ok (.aload_n 1, 1) := by decide +kernel
theorem dL_law_275 : decode cL_law 275 = .ok (.invokevirtual 76, 3) := by decide +kernel
theorem dL_law_278 : decode cL_law 278 = .ok (.lstore_n 2, 1) := by decide +kernel
theorem dL_law_279 : decode cL_law 279 = .ok (.aload_n 1, 1) := by decide +kernel
theorem dL_law_280 : decode cL_law 280 = .ok (.invokevirtual 108, 3) := by decide +kernel
theorem dL_law_283 : decode cL_law 283 = .ok (.ifCond .eq 16, 3) := by decide +kernel
theorem dL_law_286 : decode cL_law 286 = .ok (.aload_n 1, 1) := by decide +kernel
theorem dL_law_287 : decode cL_law 287 = .ok (.invokevirtual 76, 3) := by decide +kernel
theorem dL_law_290 : decode cL_law 290 = .ok (.lload_n 2, 1) := by decide +kernel
theorem dL_law_291 : decode cL_law 291 = .ok (.lcmp, 1) := by decide +kernel
theorem dL_law_292 : decode cL_law 292 = .ok (.ifCond .ne 7, 3) := by decide +kernel
theorem dL_law_295 : decode cL_law 295 = .ok (.iconst 1, 1) := by decide +kernel
theorem dL_law_296 : decode cL_law 296 = .ok (.goto 4, 3) := by decide +kernel
theorem dL_law_299 : decode cL_law 299 = .ok (.iconst 0, 1) := by decide +kernel
theorem dL_law_300 : decode cL_law 300 = .ok (.ireturn, 1) := by decide +kernel
set_option maxRecDepth 20000 in
theorem ggL_isTaken_X6_ofGift : GoodIn wsL_isTaken wsX6_ofGift := goodIn_ca (goodIn_ca (goodIn_r _ [5, 6, 7, 8, 9, 10, 11, 12, 13, 14, 15, 16, 17, 18, 19, 20, 21, 22, 23, 24, 25, 26, 27, 28, 29, 30, 31, 32, 33, 34, 35, 36, 37, 38, 39, 40, 41, 42, 43, 44, 45, 46, 47, 48, 49, 50, 51, 52, 53, 54, 55, 56, 57, 58, 59, 60, 61, 62, 63, 64, 65, 66, 67, 68, 69, 70, 71, 72, 73, 74, 75, 76, 77, 78, 79, 80, 81, 82, 83, 84] (by decide +kernel) (by decide +kernel)) (goodIn_sub (fun _ h => List.mem_cons_of_mem _ (List.mem_append_left _ (List.mem_append_right _ h))) (by decide +kernel))) (goodIn_sub (fun _ h => List.mem_cons_of_mem _ (List.mem_append_right _ h)) (by decide +kernel))
set_option maxRecDepth 20000 in
theorem gL_isTaken_X6_ofGift : GoodIn wsL_isTaken (wsV RL 83 RX6 yX6_ofGift wsX6_ofGift) := goodIn_app (goodIn_of _ (by decide +kernel)) ggL_isTaken_X6_ofGift
theorem dL_isTaken_0 : decode cL_isTaken 0 = .ok (.iconst 0, 1) := by decide +kernel
theorem dL_isTaken_1 : decode cL_isTaken 1 = .ok (.istore_n 2, 1) := by decide +kernel
theorem dL_isTaken_2 : decode cL_isTaken 2 = .ok (.iload_n 2, 1) := by decide +kernel
theorem dL_isTaken_3 : decode cL_isTaken 3 = .ok (.aload_n 1, 1) := by decide +kernel
theorem dL_isTaken_4 : decode cL_isTaken 4 = .ok (.arraylength, 1) := by decide +kernel
theorem dL_isTaken_5 : decode cL_isTaken 5 = .ok (.if_icmp .ge 41, 3) := by decide +kernel
theorem dL_isTaken_8 : decode cL_isTaken 8 = .ok (.aload_n 0, 1) := by decide +kernel
theorem dL_isTaken_9 : decode cL_isTaken 9 = .ok (.iload_n 2, 1) := by decide +kernel
theorem dL_isTaken_10 : decode cL_isTaken 10 = .ok (.iconst 5, 1) := by decide +kernel
theorem dL_isTaken_11 : decode cL_isTaken 11 = .ok (.invokevirtual 83, 3) := by decide +kernel
theorem dL_isTaken_14 : decode cL_isTaken 14 = .ok (.iconst 1, 1) := by decide +kernel
theorem dL_isTaken_15 : decode cL_isTaken 15 = .ok (.if_icmp .ne 7, 3) := by decide +kernel
theorem dL_isTaken_18 : decode cL_isTaken 18 = .ok (.iconst 1, 1) := by decide +kernel
theorem dL_isTaken_19 : decode cL_isTaken 19 = .ok (.goto 4, 3) := by decide +kernel
theorem dL_isTaken_22 : decode cL_isTaken 22 = .ok (.iconst 0, 1) := by decide +kernel
theorem dL_isTaken_23 : decode cL_isTaken 23 = .ok (.aload_n 1, 1) := by decide +kernel
theorem dL_isTaken_24 : decode cL_isTaken 24 = .ok (.iload_n 2, 1) := by decide +kernel
theorem dL_isTaken_25 : decode cL_isTaken 25 = .ok (.iaload, 1) := by decide +kernel
theorem dL_isTaken_26 : decode cL_isTaken 26 = .ok (.iconst 1, 1) := by decide +kernel
theorem dL_isTaken_27 : decode cL_isTaken 27 = .ok (.if_icmp .ne 7, 3) := by decide +kernel
theorem dL_isTaken_30 : decode cL_isTaken 30 = .ok (.iconst 1, 1) := by decide +kernel
theorem dL_isTaken_31 : decode cL_isTaken 31 = .ok (.goto 4, 3) := by decide +kernel
theorem dL_isTaken_34 : decode cL_isTaken 34 = .ok (.iconst 0, 1) := by decide +kernel
theorem dL_isTaken_35 : decode cL_isTaken 35 = .ok (.if_icmp .eq 5, 3) := by decide +kernel
theorem dL_isTaken_38 : decode cL_isTaken 38 = .ok (.iconst 0, 1) := by decide +kernel
theorem dL_isTaken_39 : decode cL_isTaken 39 = .ok (.ireturn, 1) := by decide +kernel
theorem dL_isTaken_40 : decode cL_isTaken 40 = .ok (.iinc 2 1, 3) := by decide +kernel
theorem dL_isTaken_43 : decode cL_isTaken 43 = .ok (.goto (-41), 3) := by decide +kernel
theorem dL_isTaken_46 : decode cL_isTaken 46 = .ok (.iconst 1, 1) := by decide +kernel
theorem dL_isTaken_47 : decode cL_isTaken 47 = .ok (.ireturn, 1) := by decide +kernel
set_option maxRecDepth 20000 in
theorem ggL_isFair_X6_ofGift : GoodIn wsL_isFair wsX6_ofGift := goodIn_ca (goodIn_ca (goodIn_r _ [5, 6, 7, 8, 9, 10, 11, 12, 13, 14, 15, 16, 17, 18, 19, 20, 21, 22, 23, 24, 25, 26, 27, 28, 29, 30, 31, 32, 33, 34, 35, 36, 37, 38, 39, 40, 41, 42, 43, 44, 45, 46, 239, 240, 241, 242, 243, 244, 245, 246, 247, 248, 249, 250, 251, 252, 253, 254, 255, 256, 257, 258, 259, 260, 261, 262, 263, 264, 265, 266, 267, 268, 269, 270, 271, 272, 273, 274, 275, 276] (by decide +kernel) (by decide +kernel)) (goodIn_sub (fun _ h => List.mem_cons_of_mem _ (List.mem_append_left _ (List.mem_append_right _ h))) (by decide +kernel))) (goodIn_sub (fun _ h => List.mem_cons_of_mem _ (List.mem_append_right _ h)) (by decide +kernel))
set_option maxRecDepth 20000 in
theorem gL_isFair_X6_ofGift : GoodIn wsL_isFair (wsV RL 83 RX6 yX6_ofGift wsX6_ofGift) := goodIn_app (goodIn_of _ (by decide +kernel)) ggL_isFair_X6_ofGift
set_option maxRecDepth 20000 in
theorem ggL_isFair_X6_ofTill : GoodIn wsL_isFair wsX6_ofTill := goodIn_ca (goodIn_ca (goodIn_r _ [50, 8, 9, 51, 52, 4, 53, 6, 7, 54, 55, 56, 57, 58, 59, 60, 61, 62, 63, 64, 65, 10, 11, 18, 19, 24, 25, 26, 27, 28, 29, 30, 31, 32, 33, 34, 35, 36, 37, 38, 39, 40, 41, 42, 43, 44, 45, 46, 66, 67, 68, 69, 70, 71, 72, 73, 74, 75, 76, 77, 78, 79, 80, 81, 82, 83, 84, 85, 86, 87, 88, 89, 90, 91, 92, 93, 94, 95, 96, 97, 98, 99, 100, 101, 102, 103, 104, 105, 106, 107, 108, 109, 110, 111, 112, 113, 114, 115, 116, 117, 118, 119, 120, 121, 122, 123, 124, 125, 126, 127, 12, 13, 128, 129, 130, 131, 132, 133, 134, 135, 136, 137, 23, 15, 16, 138, 139, 140, 141, 142, 143, 144, 145, 146, 147, 148, 149, 150, 151, 152, 153, 154, 155, 156, 157, 158, 159, 160, 161, 162, 163, 164, 165, 166, 167, 168, 169, 170, 171, 172, 173, 174, 175, 176, 177, 178, 179, 180, 239, 240, 241, 242, 243, 244, 245, 246, 247, 248, 249, 250, 251, 252, 253, 254, 255, 256, 257, 258, 259, 260, 261, 262, 263, 264, 274, 275, 276, 265, 266, 267, 268, 269, 270, 271, 277, 278, 272, 273] (by decide +kernel) (by decide +kernel)) (goodIn_sub (fun _ h => List.mem_cons_of_mem _ (List.mem_append_right _ h)) (by decide +kernel))) (goodIn_sub (fun _ h => List.mem_cons_of_mem _ (List.mem_append_left _ (List.mem_append_right _ h))) (by decide +kernel))
set_option maxRecDepth 20000 in
theorem gL_isFair_X6_ofTill : GoodIn wsL_isFair (wsV RL 102 RX6 yX6_ofTill wsX6_ofTill) := goodIn_app (goodIn_of _ (by decide +kernel)) ggL_isFair_X6_ofTill
set_option maxRecDepth 20000 in
theorem ggL_isFair_X6_ofWish : GoodIn wsL_isFair wsX6_ofWish := goodIn_ca (goodIn_ca (goodIn_r _ [184, 8, 9, 118, 176, 116, 117, 185, 186, 187, 4, 188, 6, 7, 109, 110, 24, 25, 26, 27, 28, 29, 30, 31, 32, 33, 34, 35, 36, 37, 38, 39, 40, 41, 42, 43, 44, 45, 46, 59, 60, 61, 189, 190, 191, 192, 10, 11, 23, 12, 13, 193, 194, 195, 145, 196, 147, 148, 150, 151, 152, 197, 198, 199, 200, 201, 202, 203, 121, 122, 123, 204, 205, 206, 207, 208, 209, 265, 266, 267, 268, 269, 270, 271, 239, 240, 241, 242, 243, 244, 245, 246, 247, 274, 275, 276, 248, 249, 250, 251, 252, 253, 254, 255, 256, 257, 258, 259, 260, 261, 262, 263, 264, 277, 278] (by decide +kernel) (by decide +kernel)) (goodIn_sub (fun _ h => List.mem_cons_of_mem _ (List.mem_append_right _ h)) (by decide +kernel))) (goodIn_sub (fun _ h => List.mem_cons_of_mem _ (List.mem_append_left _ (List.mem_append_right _ h))) (by decide +kernel))
set_option maxRecDepth 20000 in
theorem gL_isFair_X6_ofWish : GoodIn wsL_isFair (wsV RL 105 RX6 yX6_ofWish wsX6_ofWish) := goodIn_app (goodIn_of _ (by decide +kernel)) ggL_isFair_X6_ofWish
set_option maxRecDepth 20000 in
theorem ggL_isFair_X6_wouldTake : GoodIn wsL_isFair wsX6_wouldTake := goodIn_ca (goodIn_r _ [213, 109, 110, 51, 52, 4, 53, 6, 7, 54, 55, 56, 57, 58, 24, 25, 26, 27, 28, 29, 30, 31, 32, 33, 34, 35, 36, 37, 38, 39, 40, 41, 42, 43, 44, 45, 46, 214, 215, 216, 217, 10, 11, 12, 13, 18, 19, 118, 120, 121, 122, 123, 66, 67, 68, 69, 70, 71, 218, 219, 220, 221, 95, 222, 223, 239, 240, 241, 242, 243, 244, 245, 246, 247, 274, 275, 276, 248, 249, 250, 251, 252, 253, 254, 255, 256, 257, 258, 259, 260, 261, 262, 263, 264, 265, 266, 267, 268, 269, 270, 271] (by decide +kernel) (by decide +kernel)) (goodIn_sub (fun _ h => List.mem_cons_of_mem _ (List.mem_append_left _ (List.mem_append_right _ h))) (by decide +kernel))
set_option maxRecDepth 20000 in
theorem gL_isFair_X6_wouldTake : GoodIn wsL_isFair (wsV RL 80 RX6 yX6_wouldTake wsX6_wouldTake) := goodIn_app (goodIn_of _ (by decide +kernel)) ggL_isFair_X6_wouldTake
set_option maxRecDepth 20000 in
theorem ggL_isFair_X6_shop : GoodIn wsL_isFair wsX6_shop := goodIn_ca (goodIn_r _ [227, 8, 9, 78, 109, 132, 10, 228, 229, 76, 230, 24, 25, 26, 27, 28, 29, 231, 232, 233, 4, 234, 11, 23, 30, 31, 32, 33, 34, 35, 36, 37, 38, 39, 40, 41, 42, 43, 44, 45, 46, 59, 60, 61, 235, 236, 237, 238, 77, 79, 80, 81, 82, 83, 84, 85, 86, 87, 88, 89, 90, 239, 240, 241, 242, 243, 244, 245, 246, 247, 274, 275, 276, 248, 249, 250, 251, 252, 253, 254, 255, 256, 257, 258, 259, 260, 261, 262, 263, 264, 265, 266, 267, 268, 269, 270, 271] (by decide +kernel) (by decide +kernel)) (goodIn_sub (fun _ h => List.mem_cons_of_mem _ (List.mem_append_right _ h)) (by decide +kernel))
set_option maxRecDepth 20000 in
theorem gL_isFair_X6_shop : GoodIn wsL_isFair (wsV RL 32 RX6 yX6_shop wsX6_shop) := goodIn_app (goodIn_of _ (by decide +kernel)) ggL_isFair_X6_shop
theorem dL_isFair_0 : decode cL_isFair 0 = .ok (.iconst 0, 1) := by decide +kernel
theorem dL_isFair_1 : decode cL_isFair 1 = .ok (.istore 4, 2) := by decide +kernel
theorem dL_isFair_3 : decode cL_isFair 3 = .ok (.iconst 0, 1) := by decide +kernel
theorem dL_isFair_4 : decode cL_isFair 4 = .ok (.istore 5, 2) := by decide +kernel
theorem dL_isFair_6 : decode cL_isFair 6 = .ok (.iload 5, 2) := by decide +kernel
theorem dL_isFair_8 : decode cL_isFair 8 = .ok (.aload_n 3, 1) := by decide +kernel
theorem dL_isFair_9 : decode cL_isFair 9 = .ok (.arraylength, 1) := by decide +kernel
theorem dL_isFair_10 : decode cL_isFair 10 = .ok (.if_icmp .ge 166, 3) := by decide +kernel
theorem dL_isFair_13 : decode cL_isFair 13 = .ok (.aload_n 0, 1) := by decide +kernel
theorem dL_isFair_14 : decode cL_isFair 14 = .ok (.iload 5, 2) := by decide +kernel
theorem dL_isFair_16 : decode cL_isFair 16 = .ok (.iconst 5, 1) := by decide +kernel
theorem dL_isFair_17 : decode cL_isFair 17 = .ok (.invokevirtual 83, 3) := by decide +kernel
theorem dL_isFair_20 : decode cL_isFair 20 = .ok (.aload_n 3, 1) := by decide +kernel
theorem dL_isFair_21 : decode cL_isFair 21 = .ok (.iload 5, 2) := by decide +kernel
theorem dL_isFair_23 : decode cL_isFair 23 = .ok (.iaload, 1) := by decide +kernel
theorem dL_isFair_24 : decode cL_isFair 24 = .ok (.if_icmp .ne 6, 3) := by decide +kernel
theorem dL_isFair_27 : decode cL_isFair 27 = .ok (.goto 143, 3) := by decide +kernel
theorem dL_isFair_30 : decode cL_isFair 30 = .ok (.aload_n 3, 1) := by decide +kernel
theorem dL_isFair_31 : decode cL_isFair 31 = .ok (.iload 5, 2) := by decide +kernel
theorem dL_isFair_33 : decode cL_isFair 33 = .ok (.iaload, 1) := by decide +kernel
theorem dL_isFair_34 : decode cL_isFair 34 = .ok (.ifCond .ne 14, 3) := by decide +kernel
theorem dL_isFair_37 : decode cL_isFair 37 = .ok (.aload_n 0, 1) := by decide +kernel
theorem dL_isFair_38 : decode cL_isFair 38 = .ok (.iload 5, 2) := by decide +kernel
theorem dL_isFair_40 : decode cL_isFair 40 = .ok (.iconst 5, 1) := by decide +kernel
theorem dL_isFair_41 : decode cL_isFair 41 = .ok (.invokevirtual 83, 3) := by decide +kernel
theorem dL_isFair_44 : decode cL_isFair 44 = .ok (.iconst 1, 1) := by decide +kernel
theorem dL_isFair_45 : decode cL_isFair 45 = .ok (.if_icmp .eq 5, 3) := by decide +kernel
theorem dL_isFair_48 : decode cL_isFair 48 = .ok (.iconst 0, 1) := by decide +kernel
theorem dL_isFair_49 : decode cL_isFair 49 = .ok (.ireturn, 1) := by decide +kernel
theorem dL_isFair_50 : decode cL_isFair 50 = .ok (.iinc 4 1, 3) := by decide +kernel
theorem dL_isFair_53 : decode cL_isFair 53 = .ok (.aload_n 0, 1) := by decide +kernel
theorem dL_isFair_54 : decode cL_isFair 54 = .ok (.iload 5, 2) := by decide +kernel
theorem dL_isFair_56 : decode cL_isFair 56 = .ok (.iconst 0, 1) := by decide +kernel
theorem dL_isFair_57 : decode cL_isFair 57 = .ok (.invokevirtual 83, 3) := by decide +kernel
theorem dL_isFair_60 : decode cL_isFair 60 = .ok (.istore 6, 2) := by decide +kernel
theorem dL_isFair_62 : decode cL_isFair 62 = .ok (.iconst 0, 1) := by decide +kernel
theorem dL_isFair_63 : decode cL_isFair 63 = .ok (.istore 7, 2) := by decide +kernel
theorem dL_isFair_65 : decode cL_isFair 65 = .ok (.iconst 0, 1) := by decide +kernel
theorem dL_isFair_66 : decode cL_isFair 66 = .ok (.istore 8, 2) := by decide +kernel
theorem dL_isFair_68 : decode cL_isFair 68 = .ok (.iload 8, 2) := by decide +kernel
theorem dL_isFair_70 : decode cL_isFair 70 = .ok (.aload_n 3, 1) := by decide +kernel
theorem dL_isFair_71 : decode cL_isFair 71 = .ok (.arraylength, 1) := by decide +kernel
theorem dL_isFair_72 : decode cL_isFair 72 = .ok (.if_icmp .ge 84, 3) := by decide +kernel
theorem dL_isFair_75 : decode cL_isFair 75 = .ok (.aload_n 0, 1) := by decide +kernel
theorem dL_isFair_76 : decode cL_isFair 76 = .ok (.iload 8, 2) := by decide +kernel
theorem dL_isFair_78 : decode cL_isFair 78 = .ok (.iconst 0, 1) := by decide +kernel
theorem dL_isFair_79 : decode cL_isFair 79 = .ok (.invokevirtual 83, 3) := by decide +kernel
theorem dL_isFair_82 : decode cL_isFair 82 = .ok (.iload 6, 2) := by decide +kernel
theorem dL_isFair_84 : decode cL_isFair 84 = .ok (.if_icmp .ne 66, 3) := by decide +kernel
theorem dL_isFair_87 : decode cL_isFair 87 = .ok (.aload_n 0, 1) := by decide +kernel
theorem dL_isFair_88 : decode cL_isFair 88 = .ok (.iload 8, 2) := by decide +kernel
theorem dL_isFair_90 : decode cL_isFair 90 = .ok (.iconst 5, 1) := by decide +kernel
theorem dL_isFair_91 : decode cL_isFair 91 = .ok (.invokevirtual 83, 3) := by decide +kernel
theorem dL_isFair_94 : decode cL_isFair 94 = .ok (.ifCond .eq 6, 3) := by decide +kernel
theorem dL_isFair_97 : decode cL_isFair 97 = .ok (.goto 53, 3) := by decide +kernel
theorem dL_isFair_100 : decode cL_isFair 100 = .ok (.aload_n 0, 1) := by decide +kernel
theorem dL_isFair_101 : decode cL_isFair 101 = .ok (.aload_n 0, 1) := by decide +kernel
theorem dL_isFair_102 : decode cL_isFair 102 = .ok (.iload 8, 2) := by decide +kernel
theorem dL_isFair_104 : decode cL_isFair 104 = .ok (.iconst 2, 1) := by decide +kernel
theorem dL_isFair_105 : decode cL_isFair 105 = .ok (.invokevirtual 83, 3) := by decide +kernel
theorem dL_isFair_108 : decode cL_isFair 108 = .ok (.iconst 0, 1) := by decide +kernel
theorem dL_isFair_109 : decode cL_isFair 109 = .ok (.invokevirtual 102, 3) := by decide +kernel
theorem dL_isFair_112 : decode cL_isFair 112 = .ok (.iconst 1, 1) := by decide +kernel
theorem dL_isFair_113 : decode cL_isFair 113 = .ok (.if_icmp .ne 7, 3) := by decide +kernel
theorem dL_isFair_116 : decode cL_isFair 116 = .ok (.iconst 1, 1) := by decide +kernel
theorem dL_isFair_117 : decode cL_isFair 117 = .ok (.goto 4, 3) := by decide +kernel
theorem dL_isFair_120 : decode cL_isFair 120 = .ok (.iconst 0, 1) := by decide +kernel
theorem dL_isFair_121 : decode cL_isFair 121 = .ok (.istore 9, 2) := by decide +kernel
theorem dL_isFair_123 : decode cL_isFair 123 = .ok (.iload 9, 2) := by decide +kernel
theorem dL_isFair_125 : decode cL_isFair 125 = .ok (.ifCond .eq 22, 3) := by decide +kernel
theorem dL_isFair_128 : decode cL_isFair 128 = .ok (.aload_n 0, 1) := by decide +kernel
theorem dL_isFair_129 : decode cL_isFair 129 = .ok (.iload 8, 2) := by decide +kernel
theorem dL_isFair_131 : decode cL_isFair 131 = .ok (.iconst 3, 1) := by decide +kernel
theorem dL_isFair_132 : decode cL_isFair 132 = .ok (.invokevirtual 83, 3) := by decide +kernel
theorem dL_isFair_135 : decode cL_isFair 135 = .ok (.aload_n 0, 1) := by decide +kernel
theorem dL_isFair_136 : decode cL_isFair 136 = .ok (.iload 5, 2) := by decide +kernel
theorem dL_isFair_138 : decode cL_isFair 138 = .ok (.iconst 3, 1) := by decide +kernel
theorem dL_isFair_139 : decode cL_isFair 139 = .ok (.invokevirtual 83, 3) := by decide +kernel
theorem dL_isFair_142 : decode cL_isFair 142 = .ok (.if_icmp .le 5, 3) := by decide +kernel
theorem dL_isFair_145 : decode cL_isFair 145 = .ok (.iconst 0, 1) := by decide +kernel
theorem dL_isFair_146 : decode cL_isFair 146 = .ok (.ireturn, 1) := by decide +kernel
theorem dL_isFair_147 : decode cL_isFair 147 = .ok (.iinc 7 1, 3) := by decide +kernel
theorem dL_isFair_150 : decode cL_isFair 150 = .ok (.iinc 8 1, 3) := by decide +kernel
theorem dL_isFair_153 : decode cL_isFair 153 = .ok (.goto (-85), 3) := by decide +kernel
theorem dL_isFair_156 : decode cL_isFair 156 = .ok (.iload 7, 2) := by decide +kernel
theorem dL_isFair_158 : decode cL_isFair 158 = .ok (.aload_n 0, 1) := by decide +kernel
theorem dL_isFair_159 : decode cL_isFair 159 = .ok (.iload 6, 2) := by decide +kernel
theorem dL_isFair_161 : decode cL_isFair 161 = .ok (.iconst 0, 1) := by decide +kernel
theorem dL_isFair_162 : decode cL_isFair 162 = .ok (.invokevirtual 105, 3) := by decide +kernel
theorem dL_isFair_165 : decode cL_isFair 165 = .ok (.if_icmp .ge 5, 3) := by decide +kernel
theorem dL_isFair_168 : decode cL_isFair 168 = .ok (.iconst 0, 1) := by decide +kernel
theorem dL_isFair_169 : decode cL_isFair 169 = .ok (.ireturn, 1) := by decide +kernel
theorem dL_isFair_170 : decode cL_isFair 170 = .ok (.iinc 5 1, 3) := by decide +kernel
theorem dL_isFair_173 : decode cL_isFair 173 = .ok (.goto (-167), 3) := by decide +kernel
theorem dL_isFair_176 : decode cL_isFair 176 = .ok (.iload 4, 2) := by decide +kernel
theorem dL_isFair_178 : decode cL_isFair 178 = .ok (.iload_n 2, 1) := by decide +kernel
theorem dL_isFair_179 : decode cL_isFair 179 = .ok (.if_icmp .ne 11, 3) := by decide +kernel
theorem dL_isFair_182 : decode cL_isFair 182 = .ok (.aload_n 0, 1) := by decide +kernel
theorem dL_isFair_183 : decode cL_isFair 183 = .ok (.iload_n 1, 1) := by decide +kernel
theorem dL_isFair_184 : decode cL_isFair 184 = .ok (.invokevirtual 80, 3) := by decide +kernel
theorem dL_isFair_187 : decode cL_isFair 187 = .ok (.ifCond .eq 5, 3) := by decide +kernel
theorem dL_isFair_190 : decode cL_isFair 190 = .ok (.iconst 0, 1) := by decide +kernel
theorem dL_isFair_191 : decode cL_isFair 191 = .ok (.ireturn, 1) := by decide +kernel
theorem dL_isFair_192 : decode cL_isFair 192 = .ok (.iconst 0, 1) := by decide +kernel
theorem dL_isFair_193 : decode cL_isFair 193 = .ok (.istore 5, 2) := by decide +kernel
theorem dL_isFair_195 : decode cL_isFair 195 = .ok (.iconst 0, 1) := by decide +kernel
theorem dL_isFair_196 : decode cL_isFair 196 = .ok (.istore 6, 2) := by decide +kernel
theorem dL_isFair_198 : decode cL_isFair 198 = .ok (.iload 6, 2) := by decide +kernel
theorem dL_isFair_200 : decode cL_isFair 200 = .ok (.aload_n 0, 1) := by decide +kernel
theorem dL_isFair_201 : decode cL_isFair 201 = .ok (.iconst 1, 1) := by decide +kernel
theorem dL_isFair_202 : decode cL_isFair 202 = .ok (.invokevirtual 32, 3) := by decide +kernel
theorem dL_isFair_205 : decode cL_isFair 205 = .ok (.if_icmp .ge 36, 3) := by decide +kernel
theorem dL_isFair_208 : decode cL_isFair 208 = .ok (.iload 5, 2) := by decide +kernel
theorem dL_isFair_210 : decode cL_isFair 210 = .ok (.aload_n 0, 1) := by decide +kernel
theorem dL_isFair_211 : decode cL_isFair 211 = .ok (.iload 6, 2) := by decide +kernel
theorem dL_isFair_213 : decode cL_isFair 213 = .ok (.iconst 2, 1) := by decide +kernel
theorem dL_isFair_214 : decode cL_isFair 214 = .ok (.invokevirtual 105, 3) := by decide +kernel
theorem dL_isFair_217 : decode cL_isFair 217 = .ok (.iconst 1, 1) := by decide +kernel
theorem dL_isFair_218 : decode cL_isFair 218 = .ok (.if_icmp .ne 7, 3) := by decide +kernel
theorem dL_isFair_221 : decode cL_isFair 221 = .ok (.iconst 0, 1) := by decide +kernel
theorem dL_isFair_222 : decode cL_isFair 222 = .ok (.goto 10, 3) := by decide +kernel
theorem dL_isFair_225 : decode cL_isFair 225 = .ok (.aload_n 0, 1) := by decide +kernel
theorem dL_isFair_226 : decode cL_isFair 226 = .ok (.iload 6, 2) := by decide +kernel
theorem dL_isFair_228 : decode cL_isFair 228 = .ok (.iconst 0, 1) := by decide +kernel
theorem dL_isFair_229 : decode cL_isFair 229 = .ok (.invokevirtual 105, 3) := by decide +kernel
theorem dL_isFair_232 : decode cL_isFair 232 = .ok (.iadd, 1) := by decide +kernel
theorem dL_isFair_233 : decode cL_isFair 233 = .ok (.istore 5, 2) := by decide +kernel
theorem dL_isFair_235 : decode cL_isFair 235 = .ok (.iinc 6 1, 3) := by decide +kernel
theorem dL_isFair_238 : decode cL_isFair 238 = .ok (.goto (-40), 3) := by decide +kernel
theorem dL_isFair_241 : decode cL_isFair 241 = .ok (.aload_n 0, 1) := by decide +kernel
theorem dL_isFair_242 : decode cL_isFair 242 = .ok (.iload_n 1, 1) := by decide +kernel
theorem dL_isFair_243 : decode cL_isFair 243 = .ok (.iconst 3, 1) := by decide +kernel
theorem dL_isFair_244 : decode cL_isFair 244 = .ok (.invokevirtual 102, 3) := by decide +kernel
theorem dL_isFair_247 : decode cL_isFair 247 = .ok (.iload 5, 2) := by decide +kernel
theorem dL_isFair_249 : decode cL_isFair 249 = .ok (.if_icmp .gt 7, 3) := by decide +kernel
theorem dL_isFair_252 : decode cL_isFair 252 = .ok (.iconst 1, 1) := by decide +kernel
theorem dL_isFair_253 : decode cL_isFair 253 = .ok (.goto 4, 3) := by decide +kernel
theorem dL_isFair_256 : decode cL_isFair 256 = .ok (.iconst 0, 1) := by decide +kernel
theorem dL_isFair_257 : decode cL_isFair 257 = .ok (.ireturn, 1) := by decide +kernel
set_option maxRecDepth 20000 in
theorem ggL_arePence_X6_shop : GoodIn wsL_arePence wsX6_shop := goodIn_ca (goodIn_r _ [5, 6, 7, 8, 9, 10, 11, 12, 13, 14, 15, 16, 17, 18, 19, 20, 21, 22, 23, 24, 4, 25, 26, 27, 28, 29, 30, 31, 32, 33, 34, 35, 36, 37, 38, 39, 40, 41, 42, 43, 44, 45, 46, 47, 48, 49, 50, 51, 52, 53, 54, 55, 56, 57, 58, 59, 60, 61, 62, 63, 64, 164, 165, 166, 167, 168, 169, 170, 171, 172, 173, 174, 175, 176, 177, 178, 179, 180, 181, 182, 183, 184, 185, 186, 187, 188, 189, 190, 191, 192, 193, 194, 195, 196, 197, 198, 199] (by decide +kernel) (by decide +kernel)) (goodIn_sub (fun _ h => List.mem_cons_of_mem _ (List.mem_append_left _ (List.mem_append_right _ h))) (by decide +kernel))
set_option maxRecDepth 20000 in
theorem gL_arePence_X6_shop : GoodIn wsL_arePence (wsV RL 32 RX6 yX6_shop wsX6_shop) := goodIn_app (goodIn_of _ (by decide +kernel)) ggL_arePence_X6_shop
set_option maxRecDepth 20000 in
theorem ggL_arePence_X6_ofGift : GoodIn wsL_arePence wsX6_ofGift := goodIn_ca (goodIn_ca (goodIn_r _ [68, 69, 70, 6, 7, 11, 26, 71, 72, 73, 74, 75, 76, 77, 78, 79, 80, 81, 27, 16, 17, 18, 19, 20, 21, 28, 29, 30, 31, 32, 33, 34, 35, 36, 37, 38, 39, 40, 41, 42, 43, 44, 164, 165, 166, 167, 168, 169, 170, 171, 172, 176, 177, 178, 179, 180, 181, 182, 183, 184, 185, 186, 187, 188, 189, 190, 191, 192, 193, 194, 195, 196, 197, 198, 199, 200, 201, 173, 174, 175] (by decide +kernel) (by decide +kernel)) (goodIn_sub (fun _ h => List.mem_cons_of_mem _ (List.mem_append_right _ h)) (by decide +kernel))) (goodIn_sub (fun _ h => List.mem_cons_of_mem _ (List.mem_append_left _ (List.mem_append_right _ h))) (by decide +kernel))
set_option maxRecDepth 20000 in
theorem gL_arePence_X6_ofGift : GoodIn wsL_arePence (wsV RL 83 RX6 yX6_ofGift wsX6_ofGift) := goodIn_app (goodIn_of _ (by decide +kernel)) ggL_arePence_X6_ofGift
set_option maxRecDepth 20000 in
theorem ggL_arePence_X6_ofWish : GoodIn wsL_arePence wsX6_ofWish := goodIn_ca (goodIn_ca (goodIn_r _ [85, 6, 7, 86, 87, 88, 89, 90, 91, 92, 4, 93, 69, 70, 9, 94, 16, 17, 18, 19, 20, 21, 28, 29, 30, 31, 32, 33, 34, 35, 36, 37, 38, 39, 40, 41, 42, 43, 44, 45, 46, 47, 95, 96, 97, 98, 11, 26, 27, 71, 72, 99, 100, 101, 102, 103, 104, 105, 106, 107, 108, 109, 110, 111, 112, 113, 114, 115, 116, 117, 118, 119, 120, 121, 122, 123, 124, 193, 194, 195, 196, 197, 198, 199, 164, 165, 166, 167, 168, 169, 170, 171, 172, 173, 174, 175, 176, 177, 178, 179, 180, 181, 182, 183, 184, 185, 186, 187, 188, 189, 190, 191, 192, 202, 203] (by decide +kernel) (by decide +kernel)) (goodIn_sub (fun _ h => List.mem_cons_of_mem _ (List.mem_append_left _ (List.mem_append_right _ h))) (by decide +kernel))) (goodIn_sub (fun _ h => List.mem_cons_of_mem _ (List.mem_append_right _ h)) (by decide +kernel))
set_option maxRecDepth 20000 in
theorem gL_arePence_X6_ofWish : GoodIn wsL_arePence (wsV RL 105 RX6 yX6_ofWish wsX6_ofWish) := goodIn_app (goodIn_of _ (by decide +kernel)) ggL_arePence_X6_ofWish
set_option maxRecDepth 20000 in
theorem ggL_arePence_X6_ofGuest : GoodIn wsL_arePence wsX6_ofGuest := goodIn_ca (goodIn_ca (goodIn_r _ [128, 6, 7, 129, 130, 131, 132, 4, 133, 69, 70, 10, 134, 16, 17, 18, 19, 20, 21, 28, 29, 30, 31, 32, 33, 34, 35, 36, 37, 38, 39, 40, 41, 42, 43, 44, 135, 136, 137, 138, 11, 26, 27, 74, 75, 45, 46, 47, 139, 140, 141, 142, 81, 143, 144, 145, 146, 147, 148, 149, 150, 151, 152, 9, 94, 153, 154, 155, 102, 156, 104, 105, 157, 106, 107, 108, 158, 159, 160, 161, 14, 52, 162, 163, 8, 53, 54, 55, 56, 57, 58, 59, 60, 61, 62, 63, 64, 200, 201, 164, 165, 166, 167, 168, 169, 170, 171, 172, 173, 174, 175, 176, 177, 178, 179, 180, 181, 182, 183, 184, 185, 186, 187, 188, 189, 190, 191, 192, 193, 194, 195, 196, 197, 198, 199, 202, 203] (by decide +kernel) (by decide +kernel)) (goodIn_sub (fun _ h => List.mem_cons_of_mem _ (List.mem_append_left _ (List.mem_append_right _ h))) (by decide +kernel))) (goodIn_sub (fun _ h => List.mem_cons_of_mem _ (List.mem_append_right _ h)) (by decide +kernel))
set_option maxRecDepth 20000 in
theorem gL_arePence_X6_ofGuest : GoodIn wsL_arePence (wsV RL 112 RX6 yX6_ofGuest wsX6_ofGuest) := goodIn_app (goodIn_of _ (by decide +kernel)) ggL_arePence_X6_ofGuest
theorem dL_arePence_0 : decode cL_arePence 0 = .ok (.aload_n 0, 1) := by decide +kernel
theorem dL_arePence_1 : decode cL_arePence 1 = .ok (.bipush 8, 2) := by decide +kernel
theorem dL_arePence_3 : decode cL_arePence 3 = .ok (.invokevirtual 32, 3) := by decide +kernel
theorem dL_arePence_6 : decode cL_arePence 6 = .ok (.istore_n 1, 1) := by decide +kernel
theorem dL_arePence_7 : decode cL_arePence 7 = .ok (.iconst 0, 1) := by decide +kernel
theorem dL_arePence_8 : decode cL_arePence 8 = .ok (.istore_n 2, 1) := by decide +kernel
theorem dL_arePence_9 : decode cL_arePence 9 = .ok (.iload_n 2, 1) := by decide +kernel
theorem dL_arePence_10 : decode cL_arePence 10 = .ok (.aload_n 0, 1) := by decide +kernel
theorem dL_arePence_11 : decode cL_arePence 11 = .ok (.iconst 3, 1) := by decide +kernel
theorem dL_arePence_12 : decode cL_arePence 12 = .ok (.invokevirtual 32, 3) := by decide +kernel
theorem dL_arePence_15 : decode cL_arePence 15 = .ok (.if_icmp .ge 31, 3) := by decide +kernel
theorem dL_arePence_18 : decode cL_arePence 18 = .ok (.iload_n 1, 1) := by decide +kernel
theorem dL_arePence_19 : decode cL_arePence 19 = .ok (.aload_n 0, 1) := by decide +kernel
theorem dL_arePence_20 : decode cL_arePence 20 = .ok (.iload_n 2, 1) := by decide +kernel
theorem dL_arePence_21 : decode cL_arePence 21 = .ok (.iconst 5, 1) := by decide +kernel
theorem dL_arePence_22 : decode cL_arePence 22 = .ok (.invokevirtual 83, 3) := by decide +kernel
theorem dL_arePence_25 : decode cL_arePence 25 = .ok (.ifCond .ne 12, 3) := by decide +kernel
theorem dL_arePence_28 : decode cL_arePence 28 = .ok (.aload_n 0, 1) := by decide +kernel
theorem dL_arePence_29 : decode cL_arePence 29 = .ok (.iload_n 2, 1) := by decide +kernel
theorem dL_arePence_30 : decode cL_arePence 30 = .ok (.iconst 4, 1) := by decide +kernel
theorem dL_arePence_31 : decode cL_arePence 31 = .ok (.invokevirtual 83, 3) := by decide +kernel
theorem dL_arePence_34 : decode cL_arePence 34 = .ok (.goto 4, 3) := by decide +kernel
theorem dL_arePence_37 : decode cL_arePence 37 = .ok (.iconst 0, 1) := by decide +kernel
theorem dL_arePence_38 : decode cL_arePence 38 = .ok (.iadd, 1) := by decide +kernel
theorem dL_arePence_39 : decode cL_arePence 39 = .ok (.istore_n 1, 1) := by decide +kernel
theorem dL_arePence_40 : decode cL_arePence 40 = .ok (.iinc 2 1, 3) := by decide +kernel
theorem dL_arePence_43 : decode cL_arePence 43 = .ok (.goto (-34), 3) := by decide +kernel
theorem dL_arePence_46 : decode cL_arePence 46 = .ok (.iconst 0, 1) := by decide +kernel
theorem dL_arePence_47 : decode cL_arePence 47 = .ok (.istore_n 2, 1) := by decide +kernel
theorem dL_arePence_48 : decode cL_arePence 48 = .ok (.iload_n 2, 1) := by decide +kernel
theorem dL_arePence_49 : decode cL_arePence 49 = .ok (.aload_n 0, 1) := by decide +kernel
theorem dL_arePence_50 : decode cL_arePence 50 = .ok (.iconst 1, 1) := by decide +kernel
theorem dL_arePence_51 : decode cL_arePence 51 = .ok (.invokevirtual 32, 3) := by decide +kernel
theorem dL_arePence_54 : decode cL_arePence 54 = .ok (.if_icmp .ge 19, 3) := by decide +kernel
theorem dL_arePence_57 : decode cL_arePence 57 = .ok (.iload_n 1, 1) := by decide +kernel
theorem dL_arePence_58 : decode cL_arePence 58 = .ok (.aload_n 0, 1) := by decide +kernel
theorem dL_arePence_59 : decode cL_arePence 59 = .ok (.iload_n 2, 1) := by decide +kernel
theorem dL_arePence_60 : decode cL_arePence 60 = .ok (.bipush 6, 2) := by decide +kernel
theorem dL_arePence_62 : decode cL_arePence 62 = .ok (.invokevirtual 105, 3) := by decide +kernel
theorem dL_arePence_65 : decode cL_arePence 65 = .ok (.iadd, 1) := by decide +kernel
theorem dL_arePence_66 : decode cL_arePence 66 = .ok (.istore_n 1, 1) := by decide +kernel
theorem dL_arePence_67 : decode cL_arePence 67 = .ok (.iinc 2 1, 3) := by decide +kernel
theorem dL_arePence_70 : decode cL_arePence 70 = .ok (.goto (-22), 3) := by decide +kernel
theorem dL_arePence_73 : decode cL_arePence 73 = .ok (.iconst 0, 1) := by decide +kernel
theorem dL_arePence_74 : decode cL_arePence 74 = .ok (.istore_n 2, 1) := by decide +kernel
theorem dL_arePence_75 : decode cL_arePence 75 = .ok (.iconst 0, 1) := by decide +kernel
theorem dL_arePence_76 : decode cL_arePence 76 = .ok (.istore_n 3, 1) := by decide +kernel
theorem dL_arePence_77 : decode cL_arePence 77 = .ok (.iload_n 3, 1) := by decide +kernel
theorem dL_arePence_78 : decode cL_arePence 78 = .ok (.aload_n 0, 1) := by decide +kernel
theorem dL_arePence_79 : decode cL_arePence 79 = .ok (.iconst 2, 1) := by decide +kernel
theorem dL_arePence_80 : decode cL_arePence 80 = .ok (.invokevirtual 32, 3) := by decide +kernel
theorem dL_arePence_83 : decode cL_arePence 83 = .ok (.if_icmp .ge 36, 3) := by decide +kernel
theorem dL_arePence_86 : decode cL_arePence 86 = .ok (.aload_n 0, 1) := by decide +kernel
theorem dL_arePence_87 : decode cL_arePence 87 = .ok (.iload_n 3, 1) := by decide +kernel
theorem dL_arePence_88 : decode cL_arePence 88 = .ok (.iconst 0, 1) := by decide +kernel
theorem dL_arePence_89 : decode cL_arePence 89 = .ok (.invokevirtual 112, 3) := by decide +kernel
theorem dL_arePence_92 : decode cL_arePence 92 = .ok (.ifCond .ge 5, 3) := by decide +kernel
theorem dL_arePence_95 : decode cL_arePence 95 = .ok (.iconst 0, 1) := by decide +kernel
theorem dL_arePence_96 : decode cL_arePence 96 = .ok (.ireturn, 1) := by decide +kernel
theorem dL_arePence_97 : decode cL_arePence 97 = .ok (.iload_n 2, 1) := by decide +kernel
theorem dL_arePence_98 : decode cL_arePence 98 = .ok (.aload_n 0, 1) := by decide +kernel
theorem dL_arePence_99 : decode cL_arePence 99 = .ok (.iload_n 3, 1) := by decide +kernel
theorem dL_arePence_100 : decode cL_arePence 100 = .ok (.iconst 2, 1) := by decide +kernel
theorem dL_arePence_101 : decode cL_arePence 101 = .ok (.invokevirtual 112, 3) := by decide +kernel
theorem dL_arePence_104 : decode cL_arePence 104 = .ok (.aload_n 0, 1) := by decide +kernel
theorem dL_arePence_105 : decode cL_arePence 105 = .ok (.iload_n 3, 1) := by decide +kernel
theorem dL_arePence_106 : decode cL_arePence 106 = .ok (.iconst 3, 1) := by decide +kernel
theorem dL_arePence_107 : decode cL_arePence 107 = .ok (.invokevirtual 112, 3) := by decide +kernel
theorem dL_arePence_110 : decode cL_arePence 110 = .ok (.iadd, 1) := by decide +kernel
theorem dL_arePence_111 : decode cL_arePence 111 = .ok (.iadd, 1) := by decide +kernel
theorem dL_arePence_112 : decode cL_arePence 112 = .ok (.istore_n 2, 1) := by decide +kernel
theorem dL_arePence_113 : decode cL_arePence 113 = .ok (.iinc 3 1, 3) := by decide +kernel
theorem dL_arePence_116 : decode cL_arePence 116 = .ok (.goto (-39), 3) := by decide +kernel
theorem dL_arePence_119 : decode cL_arePence 119 = .ok (.iload_n 1, 1) := by decide +kernel
theorem dL_arePence_120 : decode cL_arePence 120 = .ok (.aload_n 0, 1) := by decide +kernel
theorem dL_arePence_121 : decode cL_arePence 121 = .ok (.bipush 7, 2) := by decide +kernel
theorem dL_arePence_123 : decode cL_arePence 123 = .ok (.invokevirtual 32, 3) := by decide +kernel
theorem dL_arePence_126 : decode cL_arePence 126 = .ok (.if_icmp .ne 24, 3) := by decide +kernel
theorem dL_arePence_129 : decode cL_arePence 129 = .ok (.iload_n 2, 1) := by decide +kernel
theorem dL_arePence_130 : decode cL_arePence 130 = .ok (.aload_n 0, 1) := by decide +kernel
theorem dL_arePence_131 : decode cL_arePence 131 = .ok (.bipush 7, 2) := by decide +kernel
theorem dL_arePence_133 : decode cL_arePence 133 = .ok (.invokevirtual 32, 3) := by decide +kernel
theorem dL_arePence_136 : decode cL_arePence 136 = .ok (.aload_n 0, 1) := by decide +kernel
theorem dL_arePence_137 : decode cL_arePence 137 = .ok (.bipush 8, 2) := by decide +kernel
theorem dL_arePence_139 : decode cL_arePence 139 = .ok (.invokevirtual 32, 3) := by decide +kernel
theorem dL_arePence_142 : decode cL_arePence 142 = .ok (.isub, 1) := by decide +kernel
theorem dL_arePence_143 : decode cL_arePence 143 = .ok (.if_icmp .ne 7, 3) := by decide +kernel
theorem dL_arePence_146 : decode cL_arePence 146 = .ok (.iconst 1, 1) := by decide +kernel
theorem dL_arePence_147 : decode cL_arePence 147 = .ok (.goto 4, 3) := by decide +kernel
theorem dL_arePence_150 : decode cL_arePence 150 = .ok (.iconst 0, 1) := by decide +kernel
theorem dL_arePence_151 : decode cL_arePence 151 = .ok (.ireturn, 1) := by decide +kernel
