/-! THE LAW'S WORDS, by places -/
theorem sub_r {big : List Cond} (ws : List Cond) (ps : List Nat) (hp : ws = ps.filterMap (fun i => big[i]?)) : ∀ w ∈ ws, w ∈ big := by
  intro w hw
  rw [hp] at hw
  obtain ⟨i, -, hi⟩ := List.mem_filterMap.mp hw
  exact List.mem_of_getElem? hi
theorem app_r {big a b : List Cond} (h1 : ∀ w ∈ a, w ∈ big) (h2 : ∀ w ∈ b, w ∈ big) : ∀ w ∈ a ++ b, w ∈ big := fun w h => (List.mem_append.mp h).elim (h1 w) (h2 w)

set_option maxRecDepth 20000 in
theorem lw_in_1 : ∀ w ∈ wsL_law0_r1, w ∈ lw_tbl := sub_r _ [43, 44, 30, 574, 575, 36, 815, 497, 498, 29, 499, 45, 46, 47, 48, 49, 50, 51, 52, 31, 240, 84, 85, 32] rfl

set_option maxRecDepth 20000 in
theorem lw_in_2 : ∀ w ∈ wsL_law0_r2, w ∈ lw_tbl := sub_r _ [241, 121, 122, 33, 242, 243, 244, 245, 235, 239, 53, 54, 55, 56, 83, 63, 64, 65, 66, 67, 68, 57, 58, 59] rfl

set_option maxRecDepth 20000 in
theorem lw_in_3 : ∀ w ∈ wsL_law0_r3, w ∈ lw_tbl := sub_r _ [60, 87, 88, 89, 90, 93, 95, 97, 99, 101, 103, 124, 125, 126, 176, 178, 180, 182, 184, 186, 188, 190, 192, 194] rfl

set_option maxRecDepth 20000 in
theorem lw_in_4 : ∀ w ∈ wsL_law0_r4, w ∈ lw_tbl := sub_r _ [196, 198, 200, 127, 129, 34, 202, 160, 161, 35, 203, 131, 132, 133, 134, 163, 164, 165, 166, 168, 236, 237, 238, 576] rfl

set_option maxRecDepth 20000 in
theorem lw_in_5 : ∀ w ∈ wsL_law0_r5, w ∈ lw_tbl := sub_r _ [577, 578, 579, 583, 584, 586, 587, 588, 589, 591, 592, 593, 594, 595, 596, 597, 598, 600, 601, 602, 603, 580, 582, 261] rfl

set_option maxRecDepth 20000 in
theorem lw_in_6 : ∀ w ∈ wsL_law0_r6, w ∈ lw_tbl := sub_r _ [262, 263, 264, 268, 177, 265, 266, 267, 269, 655, 656, 657, 658, 581, 659, 660, 661, 662, 663, 664, 270, 271, 272, 273] rfl

set_option maxRecDepth 20000 in
theorem lw_in_7 : ∀ w ∈ wsL_law0_r7, w ∈ lw_tbl := sub_r _ [69, 274, 275, 276, 277, 278, 279, 280, 665, 666, 667, 668, 585, 281, 282, 283, 284, 669, 670, 671, 672, 285, 286, 287] rfl

set_option maxRecDepth 20000 in
theorem lw_in_8 : ∀ w ∈ wsL_law0_r8, w ∈ lw_tbl := sub_r _ [288, 105, 289, 290, 291, 292, 293, 294, 295, 673, 674, 675, 676, 590, 296, 297, 298, 299, 300, 301, 302, 303, 305, 306] rfl

set_option maxRecDepth 20000 in
theorem lw_in_9 : ∀ w ∈ wsL_law0_r9, w ∈ lw_tbl := sub_r _ [307, 308, 677, 678, 679, 680, 681, 683, 6, 684, 309, 310, 311, 312, 179, 181, 183, 185, 189, 187, 313, 314, 315, 316] rfl

set_option maxRecDepth 20000 in
theorem lw_in_10 : ∀ w ∈ wsL_law0_r10, w ∈ lw_tbl := sub_r _ [104, 91, 96, 98, 317, 318, 319, 320, 321, 322, 37, 323, 324, 325, 326, 327, 330, 331, 332, 333, 334, 335, 137, 100] rfl

set_option maxRecDepth 20000 in
theorem lw_in_11 : ∀ w ∈ wsL_law0_r11, w ∈ lw_tbl := sub_r _ [336, 337, 338, 339, 94, 102, 340, 341, 342, 343, 136, 140, 143, 344, 345, 346, 347, 167, 348, 349, 350, 351, 352, 353] rfl

set_option maxRecDepth 20000 in
theorem lw_in_12 : ∀ w ∈ wsL_law0_r12, w ∈ lw_tbl := sub_r _ [354, 355, 138, 356, 357, 38, 358, 139, 359, 360, 361, 362, 363, 364, 365, 366, 367, 368, 369, 142, 135, 370, 371, 372] rfl

set_option maxRecDepth 20000 in
theorem lw_in_13 : ∀ w ∈ wsL_law0_r13, w ∈ lw_tbl := sub_r _ [373, 374, 375, 376, 377, 378, 379, 380, 381, 141, 382, 383, 384, 385, 386, 387, 388, 389, 390, 391, 392, 144, 393, 394] rfl

set_option maxRecDepth 20000 in
theorem lw_in_14 : ∀ w ∈ wsL_law0_r14, w ∈ lw_tbl := sub_r _ [395, 396, 397, 398, 399, 400, 401, 402, 403, 404, 405, 406, 407, 408, 409, 414, 419, 410, 411, 412, 413, 415, 416, 417] rfl

set_option maxRecDepth 20000 in
theorem lw_in_15 : ∀ w ∈ wsL_law0_r15, w ∈ lw_tbl := sub_r _ [418, 420, 421, 422, 423, 434, 424, 425, 426, 427, 428, 429, 430, 431, 432, 433, 685, 686, 687, 688, 689, 691, 7, 692] rfl

set_option maxRecDepth 20000 in
theorem lw_in_16 : ∀ w ∈ wsL_law0_r16, w ∈ lw_tbl := sub_r _ [693, 695, 8, 696, 697, 699, 9, 700, 701, 703, 10, 704, 705, 707, 11, 708, 709, 711, 12, 712, 713, 715, 13, 716] rfl

set_option maxRecDepth 20000 in
theorem lw_in_17 : ∀ w ∈ wsL_law0_r17, w ∈ lw_tbl := sub_r _ [717, 719, 14, 720, 721, 723, 15, 724, 725, 727, 16, 728, 729, 731, 17, 732, 733, 735, 18, 736, 737, 739, 19, 740] rfl

set_option maxRecDepth 20000 in
theorem lw_in_18 : ∀ w ∈ wsL_law0_r18, w ∈ lw_tbl := sub_r _ [741, 743, 20, 744, 745, 747, 21, 748, 749, 751, 22, 752, 435, 436, 437, 438, 439, 92, 440, 442, 0, 443, 444, 446] rfl

set_option maxRecDepth 20000 in
theorem lw_in_19 : ∀ w ∈ wsL_law0_r19, w ∈ lw_tbl := sub_r _ [1, 447, 448, 449, 450, 451, 452, 454, 2, 455, 456, 458, 3, 459, 193, 191, 461, 460, 803, 804, 805, 806, 797, 799] rfl

set_option maxRecDepth 20000 in
theorem lw_in_20 : ∀ w ∈ wsL_law0_r20, w ∈ lw_tbl := sub_r _ [801, 28, 802, 781, 783, 25, 784, 599, 785, 787, 26, 788, 789, 791, 27, 792, 757, 759, 23, 760, 761, 763, 24, 764] rfl

set_option maxRecDepth 20000 in
theorem lw_in_21 : ∀ w ∈ wsL_law0_r21, w ∈ lw_tbl := sub_r _ [462, 463, 464, 465, 195, 197, 199, 753, 754, 755, 756, 466, 467, 468, 469, 470, 471, 765, 766, 767, 768, 472, 473, 474] rfl

set_option maxRecDepth 20000 in
theorem lw_in_22 : ∀ w ∈ wsL_law0_r22, w ∈ lw_tbl := sub_r _ [475, 769, 770, 771, 772, 476, 477, 478, 479, 773, 774, 775, 776, 480, 481, 482, 483, 777, 778, 779, 780, 484, 485, 486] rfl

set_option maxRecDepth 20000 in
theorem lw_in_23 : ∀ w ∈ wsL_law0_r23, w ∈ lw_tbl := sub_r _ [487, 488, 793, 794, 795, 796, 798, 500, 501, 502, 503, 504, 505, 506, 507, 508, 42, 201, 807, 808, 809, 810, 651, 652] rfl

set_option maxRecDepth 20000 in
theorem lw_in_24 : ∀ w ∈ wsL_law0_r24, w ∈ lw_tbl := sub_r _ [653, 654, 489, 490, 491, 492, 493, 495, 4, 496, 811, 812, 813, 814] rfl

set_option maxRecDepth 20000 in
theorem inX0 : ∀ w ∈ wsX00, w ∈ lw_tbl := sub_r _ [145, 147, 149, 151, 153, 155, 157] rfl

set_option maxRecDepth 20000 in
theorem inX1 : ∀ w ∈ wsX10, w ∈ lw_tbl := sub_r _ [204, 206, 208, 210, 212, 214, 216, 218, 220, 222, 224, 226, 228, 230, 232] rfl

set_option maxRecDepth 20000 in
theorem inX2 : ∀ w ∈ wsX20, w ∈ lw_tbl := sub_r _ [106, 108, 110, 112, 114, 116, 118] rfl

set_option maxRecDepth 20000 in
theorem inX3 : ∀ w ∈ wsX30, w ∈ lw_tbl := sub_r _ [169, 171, 173] rfl

set_option maxRecDepth 20000 in
theorem inX4 : ∀ w ∈ wsX40, w ∈ lw_tbl := sub_r _ [70, 72, 74, 76, 78, 80] rfl

set_option maxRecDepth 20000 in
theorem inX5 : ∀ w ∈ wsX50, w ∈ lw_tbl := sub_r _ [246, 248, 250, 252, 254, 256, 258] rfl

set_option maxRecDepth 20000 in
theorem inX6 : ∀ w ∈ wsX60, w ∈ lw_tbl := sub_r _ [604, 606, 608, 610, 612, 614, 616, 618, 620, 622, 624, 626, 628, 630, 632, 634, 636, 638, 640, 642, 644, 646, 648] rfl

theorem wsL_law_in0 : ∀ w ∈ wsL_law0, w ∈ lw_tbl := app_r (app_r (app_r (app_r (app_r (app_r (app_r (app_r (app_r lw_in_1 (app_r lw_in_2 (app_r lw_in_3 (app_r lw_in_4 (app_r lw_in_5 (app_r lw_in_6 (app_r lw_in_7 (app_r lw_in_8 (app_r lw_in_9 (app_r lw_in_10 (app_r lw_in_11 (app_r lw_in_12 (app_r lw_in_13 (app_r lw_in_14 (app_r lw_in_15 (app_r lw_in_16 (app_r lw_in_17 (app_r lw_in_18 (app_r lw_in_19 (app_r lw_in_20 (app_r lw_in_21 (app_r lw_in_22 (app_r lw_in_23 (lw_in_24)))))))))))))))))))))))) inX5) inX6) inX4) inX2) inX1) inX0) inX3) (fun _ h => nomatch h)
