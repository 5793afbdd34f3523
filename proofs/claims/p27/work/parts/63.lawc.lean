set_option maxRecDepth 20000 in
theorem gh_X6_digest : GoodIn wsL_law [.code yX6_digest cX6_digest 5 (some .long)] := goodIn_r _ [153] (by decide +kernel) (by decide +kernel)
set_option maxRecDepth 20000 in
theorem gp_X6_digest_wsX6_digest_r1 : GoodIn wsL_law wsX6_digest_r1 := goodIn_r _ [154, 155, 17, 18, 19, 156, 157, 158, 7, 159, 49, 50, 160, 161, 162, 20, 64, 65, 66, 67, 16, 68, 69, 163] (by decide +kernel) (by decide +kernel)
set_option maxRecDepth 20000 in
theorem gp_X6_digest_wsX6_digest_r2 : GoodIn wsL_law wsX6_digest_r2 := goodIn_r _ [164, 165, 166, 167, 168, 169, 170, 171, 172, 173, 174, 175, 176, 177, 178, 179, 180, 181, 182, 183, 184, 26, 185, 186] (by decide +kernel) (by decide +kernel)
set_option maxRecDepth 20000 in
theorem gp_X6_digest_wsX6_digest_r3 : GoodIn wsL_law wsX6_digest_r3 := goodIn_r _ [187, 188, 189, 190, 191, 192, 193, 194, 195, 196, 197, 198, 199, 200, 201, 202, 203, 204, 205, 206, 207, 208, 209, 210] (by decide +kernel) (by decide +kernel)
set_option maxRecDepth 20000 in
theorem gp_X6_digest_wsX6_digest_r4 : GoodIn wsL_law wsX6_digest_r4 := goodIn_r _ [211, 212, 213, 214, 215, 216, 217, 218, 219, 220, 221, 222, 223, 224, 225, 226, 227, 228, 59, 229, 79, 230, 231, 232] (by decide +kernel) (by decide +kernel)
set_option maxRecDepth 20000 in
theorem gp_X6_digest_wsX6_digest_r5 : GoodIn wsL_law wsX6_digest_r5 := goodIn_r _ [233, 234, 235, 236, 237, 77, 76, 238, 100, 101, 102, 239, 240, 241, 242, 243, 244, 245, 246, 247, 248, 249, 250, 251] (by decide +kernel) (by decide +kernel)
set_option maxRecDepth 20000 in
theorem gp_X6_digest_wsX6_digest_r6 : GoodIn wsL_law wsX6_digest_r6 := goodIn_r _ [252, 253, 254, 255, 256, 257, 258, 259, 260, 261, 262, 263, 264, 265, 266, 267, 268, 269, 270, 271, 272, 273, 274, 275] (by decide +kernel) (by decide +kernel)
set_option maxRecDepth 20000 in
theorem gp_X6_digest_wsX6_digest_r7 : GoodIn wsL_law wsX6_digest_r7 := goodIn_r _ [276, 277, 278, 279, 280, 281, 282, 283, 284, 285, 286, 287, 288, 289, 290, 291, 292, 293, 294, 295, 296, 297, 298, 299] (by decide +kernel) (by decide +kernel)
set_option maxRecDepth 20000 in
theorem gp_X6_digest_wsX6_digest_r8 : GoodIn wsL_law wsX6_digest_r8 := goodIn_r _ [300, 301, 21, 302, 303, 304, 305, 306, 307, 308, 309, 310, 311, 312, 313, 314, 315, 316, 317, 318, 319, 320, 321, 322] (by decide +kernel) (by decide +kernel)
set_option maxRecDepth 20000 in
theorem gp_X6_digest_wsX6_digest_r9 : GoodIn wsL_law wsX6_digest_r9 := goodIn_r _ [323, 324, 325, 326, 327, 328, 329, 330, 331, 332, 333, 334, 335, 336, 337, 338, 339, 340, 341, 342, 343, 344, 345, 346] (by decide +kernel) (by decide +kernel)
set_option maxRecDepth 20000 in
theorem gp_X6_digest_wsX6_digest_r10 : GoodIn wsL_law wsX6_digest_r10 := goodIn_r _ [347, 348, 349, 127, 128, 350, 351, 352, 353, 354, 355, 356, 357, 358, 359, 360, 361, 362, 363, 364, 365, 366, 367, 368] (by decide +kernel) (by decide +kernel)
set_option maxRecDepth 20000 in
theorem gp_X6_digest_wsX6_digest_r11 : GoodIn wsL_law wsX6_digest_r11 := goodIn_r _ [369, 370, 371, 372, 373, 374, 375, 376, 377, 378, 379, 380, 381, 382, 383, 384, 385, 386, 387, 388, 389, 390, 391, 392] (by decide +kernel) (by decide +kernel)
set_option maxRecDepth 20000 in
theorem gp_X6_digest_wsX6_digest_r12 : GoodIn wsL_law wsX6_digest_r12 := goodIn_r _ [393, 394, 395, 396, 397, 398, 399, 400, 401, 402, 403, 404, 405, 406, 407, 408, 409, 410, 411, 412, 413, 414, 415, 416] (by decide +kernel) (by decide +kernel)
set_option maxRecDepth 20000 in
theorem gp_X6_digest_wsX6_digest_r13 : GoodIn wsL_law wsX6_digest_r13 := goodIn_r _ [417, 418, 419, 420, 421, 422, 423, 424, 425, 426] (by decide +kernel) (by decide +kernel)
set_option maxRecDepth 20000 in
theorem gp_X6_digest_wsX60 : GoodIn wsL_law wsX60 := goodIn_r _ [583, 584, 585, 586, 587, 588, 589, 590, 591] (by decide +kernel) (by decide +kernel)
set_option maxRecDepth 20000 in
theorem gp_X6_digest_wsJx4a65c0 : GoodIn wsL_law wsJx4a65c0 := goodIn_r _ [592, 593, 594] (by decide +kernel) (by decide +kernel)
set_option maxRecDepth 20000 in
theorem gp_X6_digest_wsX10 : GoodIn wsL_law wsX10 := goodIn_r _ [604, 605, 606, 607, 608, 609, 610, 611, 612] (by decide +kernel) (by decide +kernel)
set_option maxRecDepth 20000 in
theorem gp_X6_digest_wsX30 : GoodIn wsL_law wsX30 := goodIn_r _ [613, 614, 615, 616, 617, 618, 619, 620] (by decide +kernel) (by decide +kernel)
set_option maxRecDepth 20000 in
theorem gp_X6_digest_wsX50 : GoodIn wsL_law wsX50 := goodIn_r _ [595, 596, 597, 598, 599, 600, 601] (by decide +kernel) (by decide +kernel)
set_option maxRecDepth 20000 in
theorem gp_X6_digest_wsX40 : GoodIn wsL_law wsX40 := goodIn_r _ [621, 622] (by decide +kernel) (by decide +kernel)
set_option maxRecDepth 20000 in
theorem gp_X6_digest_wsX20 : GoodIn wsL_law wsX20 := goodIn_r _ [602, 603] (by decide +kernel) (by decide +kernel)
set_option maxRecDepth 20000 in
theorem ggL_law_X6_digest : GoodIn wsL_law wsX6_digest := goodIn_ca (goodIn_ca (goodIn_app gh_X6_digest (goodIn_app (goodIn_app (goodIn_app (goodIn_app (goodIn_app (goodIn_app (goodIn_app (goodIn_app gp_X6_digest_wsX6_digest_r1 (goodIn_app gp_X6_digest_wsX6_digest_r2 (goodIn_app gp_X6_digest_wsX6_digest_r3 (goodIn_app gp_X6_digest_wsX6_digest_r4 (goodIn_app gp_X6_digest_wsX6_digest_r5 (goodIn_app gp_X6_digest_wsX6_digest_r6 (goodIn_app gp_X6_digest_wsX6_digest_r7 (goodIn_app gp_X6_digest_wsX6_digest_r8 (goodIn_app gp_X6_digest_wsX6_digest_r9 (goodIn_app gp_X6_digest_wsX6_digest_r10 (goodIn_app gp_X6_digest_wsX6_digest_r11 (goodIn_app gp_X6_digest_wsX6_digest_r12 (gp_X6_digest_wsX6_digest_r13))))))))))))) gp_X6_digest_wsX60) gp_X6_digest_wsJx4a65c0) gp_X6_digest_wsX10) gp_X6_digest_wsX30) gp_X6_digest_wsX50) gp_X6_digest_wsX40) gp_X6_digest_wsX20)) (goodIn_sub (fun _ h => List.mem_append_left _ (List.mem_append_left _ (List.mem_append_right _ h))) (by decide +kernel))) (goodIn_sub (fun _ h => List.mem_append_right _ h) (by decide +kernel))
set_option maxRecDepth 20000 in
theorem gL_law_X6_digest : GoodIn wsL_law (wsV RL 76 RX6 yX6_digest wsX6_digest) := goodIn_app (goodIn_of _ (by decide +kernel)) ggL_law_X6_digest
set_option maxRecDepth 20000 in
theorem gh_L_isDone : GoodIn wsL_law [.codeWith yL_isDone cL_isDone 6 (some .boolean) [(43, 333, 334, 69), (43, 333, 338, 71)]] := goodIn_r _ [432] (by decide +kernel) (by decide +kernel)
set_option maxRecDepth 20000 in
theorem gp_L_isDone_wsL_isDone_r1 : GoodIn wsL_law wsL_isDone_r1 := goodIn_r _ [433, 434, 435, 100, 101, 102, 41, 42, 3, 43, 44, 428, 157, 158, 7, 159, 49, 50, 160, 17, 18, 19, 161, 162] (by decide +kernel) (by decide +kernel)
set_option maxRecDepth 20000 in
theorem gp_L_isDone_wsL_isDone_r2 : GoodIn wsL_law wsL_isDone_r2 := goodIn_r _ [20, 64, 65, 66, 67, 16, 68, 69, 163, 164, 165, 166, 167, 168, 169, 170, 171, 172, 173, 174, 175, 176, 177, 178] (by decide +kernel) (by decide +kernel)
set_option maxRecDepth 20000 in
theorem gp_L_isDone_wsL_isDone_r3 : GoodIn wsL_law wsL_isDone_r3 := goodIn_r _ [179, 180, 181, 182, 183, 184, 26, 185, 186, 187, 188, 189, 190, 191, 192, 193, 194, 195, 196, 197, 198, 199, 200, 201] (by decide +kernel) (by decide +kernel)
set_option maxRecDepth 20000 in
theorem gp_L_isDone_wsL_isDone_r4 : GoodIn wsL_law wsL_isDone_r4 := goodIn_r _ [202, 203, 204, 133, 134, 135, 136, 51, 52, 53, 54, 55, 56, 57, 58, 59, 60, 61, 62, 63, 70, 71, 72, 73] (by decide +kernel) (by decide +kernel)
set_option maxRecDepth 20000 in
theorem gp_L_isDone_wsL_isDone_r5 : GoodIn wsL_law wsL_isDone_r5 := goodIn_r _ [12, 13, 74, 75, 76, 77, 78, 15, 79, 80, 23, 24, 25, 27, 28, 29, 30, 31, 32, 33, 34, 35, 36, 81] (by decide +kernel) (by decide +kernel)
set_option maxRecDepth 20000 in
theorem gp_L_isDone_wsL_isDone_r6 : GoodIn wsL_law wsL_isDone_r6 := goodIn_r _ [82, 83, 84, 85, 86, 87, 88, 89, 90, 91, 92, 93, 94, 95, 96, 97, 98, 99, 103, 104, 105, 106, 107, 108] (by decide +kernel) (by decide +kernel)
set_option maxRecDepth 20000 in
theorem gp_L_isDone_wsL_isDone_r7 : GoodIn wsL_law wsL_isDone_r7 := goodIn_r _ [109, 110, 111, 112, 113, 114, 115, 116, 117, 118, 119, 120, 121, 122, 123, 124, 125, 126, 127, 128, 129, 130, 131, 132] (by decide +kernel) (by decide +kernel)
set_option maxRecDepth 20000 in
theorem gp_L_isDone_wsL_isDone_r8 : GoodIn wsL_law wsL_isDone_r8 := goodIn_r _ [45, 46, 47, 48, 137, 138, 139, 140, 141, 142, 143, 144, 145, 146, 147, 148, 149, 436, 437, 438, 439, 211, 210, 213] (by decide +kernel) (by decide +kernel)
set_option maxRecDepth 20000 in
theorem gp_L_isDone_wsL_isDone_r9 : GoodIn wsL_law wsL_isDone_r9 := goodIn_r _ [214, 215, 216, 217, 218, 219, 440, 441, 442, 443, 212, 240, 241, 242, 243, 244, 235, 236, 237, 238, 239, 227, 228, 229] (by decide +kernel) (by decide +kernel)
set_option maxRecDepth 20000 in
theorem gp_L_isDone_wsL_isDone_r10 : GoodIn wsL_law wsL_isDone_r10 := goodIn_r _ [230, 231, 232, 233, 226, 444, 445, 446, 447, 336, 448, 449, 450, 349, 451, 452, 453, 454, 455, 249, 456, 457, 458, 459] (by decide +kernel) (by decide +kernel)
set_option maxRecDepth 20000 in
theorem gp_L_isDone_wsL_isDone_r11 : GoodIn wsL_law wsL_isDone_r11 := goodIn_r _ [460, 461, 462, 463, 464, 465, 466, 467, 468, 469, 470, 471, 472, 21, 295, 296, 297, 298, 299, 300, 301, 350, 351, 352] (by decide +kernel) (by decide +kernel)
set_option maxRecDepth 20000 in
theorem gp_L_isDone_wsL_isDone_r12 : GoodIn wsL_law wsL_isDone_r12 := goodIn_r _ [353, 354, 355, 356, 473, 474, 475, 476, 477, 478, 479, 480, 481, 482, 483, 484, 316, 485, 486, 391, 318, 487, 488, 489] (by decide +kernel) (by decide +kernel)
set_option maxRecDepth 20000 in
theorem gp_L_isDone_wsL_isDone_r13 : GoodIn wsL_law wsL_isDone_r13 := goodIn_r _ [490, 491, 492, 493, 382, 383, 384, 385, 224, 225, 306, 307, 209, 266, 267, 268, 269, 270, 271, 386, 387, 388, 389, 390] (by decide +kernel) (by decide +kernel)
set_option maxRecDepth 20000 in
theorem gp_L_isDone_wsL_isDone_r14 : GoodIn wsL_law wsL_isDone_r14 := goodIn_r _ [494, 495, 496, 497, 498, 499, 500, 501, 502, 398, 503, 504, 505, 506, 507, 508, 259, 260, 265, 509, 510, 511, 512, 513] (by decide +kernel) (by decide +kernel)
set_option maxRecDepth 20000 in
theorem gp_L_isDone_wsL_isDone_r15 : GoodIn wsL_law wsL_isDone_r15 := goodIn_r _ [514, 250, 251, 252, 253, 254, 331, 332, 333, 334, 335, 337, 338, 339, 340, 323, 324, 325, 315, 317, 312, 313, 314, 515] (by decide +kernel) (by decide +kernel)
set_option maxRecDepth 20000 in
theorem gp_L_isDone_wsL_isDone_r16 : GoodIn wsL_law wsL_isDone_r16 := goodIn_r _ [516, 517, 518, 519, 520, 521, 522, 523, 524, 525, 526, 527, 528, 397, 529, 530, 531, 532, 533, 534, 535, 234, 536, 537] (by decide +kernel) (by decide +kernel)
set_option maxRecDepth 20000 in
theorem gp_L_isDone_wsL_isDone_r17 : GoodIn wsL_law wsL_isDone_r17 := goodIn_r _ [538, 539, 540, 541, 542, 543, 544, 545, 546, 547, 548, 549, 550, 551, 552, 553, 554, 555, 556, 557, 558, 559, 560, 561] (by decide +kernel) (by decide +kernel)
set_option maxRecDepth 20000 in
theorem gp_L_isDone_wsL_isDone_r18 : GoodIn wsL_law wsL_isDone_r18 := goodIn_r _ [562, 563, 564, 285, 286, 565, 566, 567, 568, 569] (by decide +kernel) (by decide +kernel)
set_option maxRecDepth 20000 in
theorem gp_L_isDone_wsX60 : GoodIn wsL_law wsX60 := goodIn_r _ [583, 584, 585, 586, 587, 588, 589, 590, 591] (by decide +kernel) (by decide +kernel)
set_option maxRecDepth 20000 in
theorem gp_L_isDone_wsJx4a65c0 : GoodIn wsL_law wsJx4a65c0 := goodIn_r _ [592, 593, 594] (by decide +kernel) (by decide +kernel)
set_option maxRecDepth 20000 in
theorem gp_L_isDone_wsX10 : GoodIn wsL_law wsX10 := goodIn_r _ [604, 605, 606, 607, 608, 609, 610, 611, 612] (by decide +kernel) (by decide +kernel)
set_option maxRecDepth 20000 in
theorem gp_L_isDone_wsX30 : GoodIn wsL_law wsX30 := goodIn_r _ [613, 614, 615, 616, 617, 618, 619, 620] (by decide +kernel) (by decide +kernel)
set_option maxRecDepth 20000 in
theorem gp_L_isDone_wsX50 : GoodIn wsL_law wsX50 := goodIn_r _ [595, 596, 597, 598, 599, 600, 601] (by decide +kernel) (by decide +kernel)
set_option maxRecDepth 20000 in
theorem gp_L_isDone_wsX20 : GoodIn wsL_law wsX20 := goodIn_r _ [602, 603] (by decide +kernel) (by decide +kernel)
set_option maxRecDepth 20000 in
theorem gp_L_isDone_wsX40 : GoodIn wsL_law wsX40 := goodIn_r _ [621, 622] (by decide +kernel) (by decide +kernel)
set_option maxRecDepth 20000 in
theorem ggL_law_L_isDone : GoodIn wsL_law wsL_isDone := goodIn_ca (goodIn_ca (goodIn_ca (goodIn_app gh_L_isDone (goodIn_app (goodIn_app (goodIn_app (goodIn_app (goodIn_app (goodIn_app (goodIn_app (goodIn_app gp_L_isDone_wsL_isDone_r1 (goodIn_app gp_L_isDone_wsL_isDone_r2 (goodIn_app gp_L_isDone_wsL_isDone_r3 (goodIn_app gp_L_isDone_wsL_isDone_r4 (goodIn_app gp_L_isDone_wsL_isDone_r5 (goodIn_app gp_L_isDone_wsL_isDone_r6 (goodIn_app gp_L_isDone_wsL_isDone_r7 (goodIn_app gp_L_isDone_wsL_isDone_r8 (goodIn_app gp_L_isDone_wsL_isDone_r9 (goodIn_app gp_L_isDone_wsL_isDone_r10 (goodIn_app gp_L_isDone_wsL_isDone_r11 (goodIn_app gp_L_isDone_wsL_isDone_r12 (goodIn_app gp_L_isDone_wsL_isDone_r13 (goodIn_app gp_L_isDone_wsL_isDone_r14 (goodIn_app gp_L_isDone_wsL_isDone_r15 (goodIn_app gp_L_isDone_wsL_isDone_r16 (goodIn_app gp_L_isDone_wsL_isDone_r17 (gp_L_isDone_wsL_isDone_r18)))))))))))))))))) gp_L_isDone_wsX60) gp_L_isDone_wsJx4a65c0) gp_L_isDone_wsX10) gp_L_isDone_wsX30) gp_L_isDone_wsX50) gp_L_isDone_wsX20) gp_L_isDone_wsX40)) (goodIn_sub (fun _ h => List.mem_append_left _ (List.mem_append_left _ (List.mem_append_right _ h))) (by decide +kernel))) (goodIn_sub (fun _ h => List.mem_append_left _ (List.mem_append_right _ h)) (by decide +kernel))) (goodIn_sub (fun _ h => List.mem_append_right _ h) (by decide +kernel))
set_option maxRecDepth 20000 in
theorem gL_law_L_isDone : GoodIn wsL_law (va_wsS RL 86 yL_isDone wsL_isDone) := goodIn_app (goodIn_of _ (by decide +kernel)) ggL_law_L_isDone
set_option maxRecDepth 20000 in
theorem gh_L_isFair : GoodIn wsL_law [.code yL_isFair cL_isFair 10 (some .boolean)] := goodIn_r _ [572] (by decide +kernel) (by decide +kernel)
set_option maxRecDepth 20000 in
theorem gp_L_isFair_wsL_isFair_r1 : GoodIn wsL_law wsL_isFair_r1 := goodIn_r _ [429, 393, 394, 7, 395, 217, 218, 49, 50, 19, 167, 224, 225, 396, 259, 260, 377, 306, 307, 397, 398, 265, 168, 65] (by decide +kernel) (by decide +kernel)
set_option maxRecDepth 20000 in
theorem gp_L_isFair_wsL_isFair_r2 : GoodIn wsL_law wsL_isFair_r2 := goodIn_r _ [66, 67, 16, 68, 69, 169, 170, 171, 172, 173, 174, 175, 176, 177, 178, 179, 180, 181, 182, 183, 184, 26, 573, 292] (by decide +kernel) (by decide +kernel)
set_option maxRecDepth 20000 in
theorem gp_L_isFair_wsL_isFair_r3 : GoodIn wsL_law wsL_isFair_r3 := goodIn_r _ [293, 294, 295, 296, 297, 298, 299, 300, 301, 21, 185, 186, 187, 302, 303, 304, 305, 266, 267, 268, 269, 270, 271, 308] (by decide +kernel) (by decide +kernel)
set_option maxRecDepth 20000 in
theorem gp_L_isFair_wsL_isFair_r4 : GoodIn wsL_law wsL_isFair_r4 := goodIn_r _ [309, 310, 311, 20, 192, 160, 193, 194, 195, 196, 197, 198, 199, 200, 201, 202, 203, 204, 312, 313, 314, 315, 316, 317] (by decide +kernel) (by decide +kernel)
set_option maxRecDepth 20000 in
theorem gp_L_isFair_wsL_isFair_r5 : GoodIn wsL_law wsL_isFair_r5 := goodIn_r _ [318, 319, 320, 321, 322, 323, 324, 325, 326, 327, 328, 329, 17, 219, 330, 331, 332, 333, 334, 211, 212, 209, 335, 336] (by decide +kernel) (by decide +kernel)
set_option maxRecDepth 20000 in
theorem gp_L_isFair_wsL_isFair_r6 : GoodIn wsL_law wsL_isFair_r6 := goodIn_r _ [100, 101, 102, 337, 338, 339, 340, 341, 342, 343, 344, 18, 254, 255, 256, 257, 258, 272, 273, 274, 275, 276, 277, 278] (by decide +kernel) (by decide +kernel)
set_option maxRecDepth 20000 in
theorem gp_L_isFair_wsL_isFair_r7 : GoodIn wsL_law wsL_isFair_r7 := goodIn_r _ [59, 279, 79, 230, 280, 231, 232, 233, 345, 346, 347, 348, 249, 349, 127, 128, 350, 351, 352, 353, 354, 355, 356, 357] (by decide +kernel) (by decide +kernel)
set_option maxRecDepth 20000 in
theorem gp_L_isFair_wsL_isFair_r8 : GoodIn wsL_law wsL_isFair_r8 := goodIn_r _ [358, 359, 360, 361, 362, 363, 364, 210, 365, 366, 367, 368, 574, 206, 207, 208, 213, 214, 215, 216, 220, 221, 222, 223] (by decide +kernel) (by decide +kernel)
set_option maxRecDepth 20000 in
theorem gp_L_isFair_wsL_isFair_r9 : GoodIn wsL_law wsL_isFair_r9 := goodIn_r _ [226, 227, 228, 229, 234, 235, 236, 237, 77, 76, 238, 239, 240, 241, 242, 243, 244, 427, 379, 380, 381, 382, 383, 384] (by decide +kernel) (by decide +kernel)
set_option maxRecDepth 20000 in
theorem gp_L_isFair_wsL_isFair_r10 : GoodIn wsL_law wsL_isFair_r10 := goodIn_r _ [385, 386, 387, 388, 389, 390, 391, 428, 157, 158, 159, 161, 162, 64, 163, 164, 165, 166, 188, 189, 190, 191] (by decide +kernel) (by decide +kernel)
set_option maxRecDepth 20000 in
theorem gp_L_isFair_wsX60 : GoodIn wsL_law wsX60 := goodIn_r _ [583, 584, 585, 586, 587, 588, 589, 590, 591] (by decide +kernel) (by decide +kernel)
set_option maxRecDepth 20000 in
theorem gp_L_isFair_wsX10 : GoodIn wsL_law wsX10 := goodIn_r _ [604, 605, 606, 607, 608, 609, 610, 611, 612] (by decide +kernel) (by decide +kernel)
set_option maxRecDepth 20000 in
theorem gp_L_isFair_wsX30 : GoodIn wsL_law wsX30 := goodIn_r _ [613, 614, 615, 616, 617, 618, 619, 620] (by decide +kernel) (by decide +kernel)
set_option maxRecDepth 20000 in
theorem gp_L_isFair_wsX50 : GoodIn wsL_law wsX50 := goodIn_r _ [595, 596, 597, 598, 599, 600, 601] (by decide +kernel) (by decide +kernel)
set_option maxRecDepth 20000 in
theorem gp_L_isFair_wsX20 : GoodIn wsL_law wsX20 := goodIn_r _ [602, 603] (by decide +kernel) (by decide +kernel)
set_option maxRecDepth 20000 in
theorem gp_L_isFair_wsJx4a65c0 : GoodIn wsL_law wsJx4a65c0 := goodIn_r _ [592, 593, 594] (by decide +kernel) (by decide +kernel)
set_option maxRecDepth 20000 in
theorem gp_L_isFair_wsX40 : GoodIn wsL_law wsX40 := goodIn_r _ [621, 622] (by decide +kernel) (by decide +kernel)
set_option maxRecDepth 20000 in
theorem ggL_law_L_isFair : GoodIn wsL_law wsL_isFair := goodIn_ca (goodIn_ca (goodIn_app gh_L_isFair (goodIn_app (goodIn_app (goodIn_app (goodIn_app (goodIn_app (goodIn_app (goodIn_app (goodIn_app gp_L_isFair_wsL_isFair_r1 (goodIn_app gp_L_isFair_wsL_isFair_r2 (goodIn_app gp_L_isFair_wsL_isFair_r3 (goodIn_app gp_L_isFair_wsL_isFair_r4 (goodIn_app gp_L_isFair_wsL_isFair_r5 (goodIn_app gp_L_isFair_wsL_isFair_r6 (goodIn_app gp_L_isFair_wsL_isFair_r7 (goodIn_app gp_L_isFair_wsL_isFair_r8 (goodIn_app gp_L_isFair_wsL_isFair_r9 (gp_L_isFair_wsL_isFair_r10)))))))))) gp_L_isFair_wsX60) gp_L_isFair_wsX10) gp_L_isFair_wsX30) gp_L_isFair_wsX50) gp_L_isFair_wsX20) gp_L_isFair_wsJx4a65c0) gp_L_isFair_wsX40)) (goodIn_sub (fun _ h => List.mem_append_right _ h) (by decide +kernel))) (goodIn_sub (fun _ h => List.mem_append_left _ (List.mem_append_left _ (List.mem_append_right _ h))) (by decide +kernel))
set_option maxRecDepth 20000 in
theorem gL_law_L_isFair : GoodIn wsL_law (va_wsS RL 90 yL_isFair wsL_isFair) := goodIn_app (goodIn_of _ (by decide +kernel)) ggL_law_L_isFair
