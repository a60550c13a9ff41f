/-! laid by law0.py: the words of the law, by their places in the table -/
theorem mem_pl {ws big : List Cond} (ps : List Nat) (h : ps.map (fun i => big[i]?) = ws.map some) : ∀ w ∈ ws, w ∈ big := by
  intro w hw
  have h1 : some w ∈ ws.map some := List.mem_map.mpr ⟨w, hw, rfl⟩
  rw [← h] at h1
  obtain ⟨i, -, hi⟩ := List.mem_map.mp h1
  exact List.mem_of_getElem? hi
set_option maxRecDepth 100000 in
theorem inr_1 : ∀ w ∈ wsL_law_r1, w ∈ lw_tbl := mem_pl [49, 50, 37, 573, 574, 45, 51, 52, 53, 54, 55, 56, 57, 58, 38, 222, 101, 102, 40, 223, 143, 144, 41, 224] (by decide +kernel)
set_option maxRecDepth 100000 in
theorem inr_2 : ∀ w ∈ wsL_law_r2, w ∈ lw_tbl := mem_pl [163, 164, 42, 225, 188, 189, 43, 226, 204, 205, 44, 227, 100, 228, 229, 230, 231, 59, 60, 61, 62, 89, 90, 92] (by decide +kernel)
set_option maxRecDepth 100000 in
theorem inr_3 : ∀ w ∈ wsL_law_r3, w ∈ lw_tbl := mem_pl [63, 65, 0, 66, 72, 73, 39, 74, 67, 68, 69, 75, 77, 1, 78, 81, 83, 2, 84, 86, 87, 88, 103, 104] (by decide +kernel)
set_option maxRecDepth 100000 in
theorem inr_4 : ∀ w ∈ wsL_law_r4, w ∈ lw_tbl := mem_pl [105, 106, 107, 110, 113, 116, 119, 122, 126, 145, 146, 147, 148, 149, 152, 153, 154, 151, 165, 166, 167, 168, 169, 170] (by decide +kernel)
set_option maxRecDepth 100000 in
theorem inr_5 : ∀ w ∈ wsL_law_r5, w ∈ lw_tbl := mem_pl [171, 172, 173, 174, 190, 191, 192, 193, 194, 195, 196, 206, 207, 208, 209, 210, 212, 213, 575, 576, 577, 578, 588, 589] (by decide +kernel)
set_option maxRecDepth 100000 in
theorem inr_6 : ∀ w ∈ wsL_law_r6, w ∈ lw_tbl := mem_pl [590, 591, 592, 593, 594, 595, 596, 597, 599, 600, 587, 579, 581, 23, 582, 583, 585, 24, 586, 253, 254, 255, 256, 257] (by decide +kernel)
set_option maxRecDepth 100000 in
theorem inr_7 : ∀ w ∈ wsL_law_r7, w ∈ lw_tbl := mem_pl [258, 259, 260, 261, 262, 263, 264, 265, 267, 3, 268, 269, 270, 271, 272, 273, 274, 46, 275, 276, 278, 4, 279, 281] (by decide +kernel)
set_option maxRecDepth 100000 in
theorem inr_8 : ∀ w ∈ wsL_law_r8, w ∈ lw_tbl := mem_pl [282, 283, 630, 631, 632, 633, 598, 634, 635, 636, 284, 285, 286, 287, 288, 290, 5, 291, 292, 293, 294, 295, 303, 304] (by decide +kernel)
set_option maxRecDepth 100000 in
theorem inr_9 : ∀ w ∈ wsL_law_r9, w ∈ lw_tbl := mem_pl [305, 296, 297, 298, 299, 300, 302, 301, 47, 306, 307, 308, 309, 310, 311, 48, 312, 313, 314, 315, 641, 642, 643, 644] (by decide +kernel)
set_option maxRecDepth 100000 in
theorem inr_10 : ∀ w ∈ wsL_law_r10, w ∈ lw_tbl := mem_pl [645, 647, 25, 648, 649, 651, 26, 652, 653, 654, 655, 316, 317, 318, 319, 323, 320, 321, 322, 324, 326, 6, 327, 328] (by decide +kernel)
set_option maxRecDepth 100000 in
theorem inr_11 : ∀ w ∈ wsL_law_r11, w ∈ lw_tbl := mem_pl [329, 330, 331, 332, 333, 334, 656, 657, 658, 659, 660, 661, 662, 335, 336, 337, 338, 339, 340, 341, 342, 343, 345, 7] (by decide +kernel)
set_option maxRecDepth 100000 in
theorem inr_12 : ∀ w ∈ wsL_law_r12, w ∈ lw_tbl := mem_pl [346, 663, 664, 665, 666, 347, 348, 349, 350, 351, 352, 353, 354, 355, 357, 8, 358, 360, 361, 362, 363, 364, 365, 366] (by decide +kernel)
set_option maxRecDepth 100000 in
theorem inr_13 : ∀ w ∈ wsL_law_r13, w ∈ lw_tbl := mem_pl [367, 667, 668, 669, 670, 671, 672, 673, 368, 369, 370, 371, 674, 675, 676, 677, 372, 373, 374, 375, 678, 679, 680, 681] (by decide +kernel)
set_option maxRecDepth 100000 in
theorem inr_14 : ∀ w ∈ wsL_law_r14, w ∈ lw_tbl := mem_pl [376, 377, 378, 379, 380, 381, 382, 682, 683, 684, 685, 686, 687, 688, 383, 384, 385, 386, 387, 388, 389, 390, 391, 392] (by decide +kernel)
set_option maxRecDepth 100000 in
theorem inr_15 : ∀ w ∈ wsL_law_r15, w ∈ lw_tbl := mem_pl [393, 394, 395, 396, 689, 690, 691, 692, 693, 694, 695, 397, 398, 399, 400, 401, 402, 403, 404, 696, 697, 698, 699, 405] (by decide +kernel)
set_option maxRecDepth 100000 in
theorem inr_16 : ∀ w ∈ wsL_law_r16, w ∈ lw_tbl := mem_pl [406, 407, 408, 409, 410, 411, 412, 413, 414, 415, 416, 417, 418, 419, 420, 421, 700, 701, 702, 703, 422, 423, 424, 425] (by decide +kernel)
set_option maxRecDepth 100000 in
theorem inr_17 : ∀ w ∈ wsL_law_r17, w ∈ lw_tbl := mem_pl [426, 704, 705, 706, 707, 427, 428, 429, 430, 708, 709, 710, 711, 431, 432, 433, 434, 435, 437, 9, 438, 439, 440, 441] (by decide +kernel)
set_option maxRecDepth 100000 in
theorem inr_18 : ∀ w ∈ wsL_law_r18, w ∈ lw_tbl := mem_pl [442, 712, 713, 714, 715, 716, 718, 27, 719, 720, 721, 722, 723, 725, 28, 726, 443, 444, 445, 446, 447, 449, 10, 450] (by decide +kernel)
set_option maxRecDepth 100000 in
theorem inr_19 : ∀ w ∈ wsL_law_r19, w ∈ lw_tbl := mem_pl [727, 728, 729, 730, 731, 733, 29, 734, 451, 452, 453, 454, 455, 456, 457, 458, 459, 461, 11, 462, 463, 464, 465, 466] (by decide +kernel)
set_option maxRecDepth 100000 in
theorem inr_20 : ∀ w ∈ wsL_law_r20, w ∈ lw_tbl := mem_pl [467, 469, 12, 470, 471, 472, 474, 13, 475, 735, 736, 737, 738, 477, 478, 479, 480, 739, 740, 741, 742, 481, 482, 483] (by decide +kernel)
set_option maxRecDepth 100000 in
theorem inr_21 : ∀ w ∈ wsL_law_r21, w ∈ lw_tbl := mem_pl [484, 743, 744, 745, 746, 485, 486, 487, 488, 489, 491, 14, 492, 493, 495, 15, 496, 497, 498, 499, 500, 502, 501, 503] (by decide +kernel)
set_option maxRecDepth 100000 in
theorem inr_22 : ∀ w ∈ wsL_law_r22, w ∈ lw_tbl := mem_pl [505, 16, 506, 507, 508, 510, 17, 511, 512, 513, 515, 18, 516, 517, 519, 19, 520, 521, 523, 20, 524, 525, 527, 21] (by decide +kernel)
set_option maxRecDepth 100000 in
theorem inr_23 : ∀ w ∈ wsL_law_r23, w ∈ lw_tbl := mem_pl [528, 747, 748, 749, 750, 751, 753, 30, 754, 755, 757, 31, 758, 759, 761, 32, 762, 763, 765, 33, 766, 767, 769, 34] (by decide +kernel)
set_option maxRecDepth 100000 in
theorem inr_24 : ∀ w ∈ wsL_law_r24, w ∈ lw_tbl := mem_pl [770, 529, 530, 531, 532, 533, 534, 535, 536, 771, 772, 773, 774, 537, 538, 539, 540, 541, 543, 22, 544, 775, 776, 777] (by decide +kernel)
set_option maxRecDepth 100000 in
theorem inr_25 : ∀ w ∈ wsL_law_r25, w ∈ lw_tbl := mem_pl [778, 779, 781, 35, 782, 545, 546, 547, 548, 783, 784, 785, 786, 549, 550, 551, 552, 787, 788, 789, 790, 553, 554, 555] (by decide +kernel)
set_option maxRecDepth 100000 in
theorem inr_26 : ∀ w ∈ wsL_law_r26, w ∈ lw_tbl := mem_pl [556, 791, 792, 793, 794, 557, 558, 559, 560, 795, 796, 797, 798, 561, 562, 563, 564, 799, 800, 801, 802, 565, 566, 567] (by decide +kernel)
set_option maxRecDepth 100000 in
theorem inr_27 : ∀ w ∈ wsL_law_r27, w ∈ lw_tbl := mem_pl [568, 569, 570, 571, 572, 637, 638, 639, 640] (by decide +kernel)
set_option maxRecDepth 100000 in
theorem inX0 : ∀ w ∈ wsX00, w ∈ lw_tbl := mem_pl [215, 217, 219] (by decide +kernel)
set_option maxRecDepth 100000 in
theorem inX1 : ∀ w ∈ wsX10, w ∈ lw_tbl := mem_pl [156, 158, 160] (by decide +kernel)
set_option maxRecDepth 100000 in
theorem inX2 : ∀ w ∈ wsX20, w ∈ lw_tbl := mem_pl [128, 130, 132, 134, 136, 138, 140] (by decide +kernel)
set_option maxRecDepth 100000 in
theorem inX3 : ∀ w ∈ wsX30, w ∈ lw_tbl := mem_pl [175, 177, 179, 181, 183, 185] (by decide +kernel)
set_option maxRecDepth 100000 in
theorem inX4 : ∀ w ∈ wsX40, w ∈ lw_tbl := mem_pl [197, 199, 201] (by decide +kernel)
set_option maxRecDepth 100000 in
theorem inX5 : ∀ w ∈ wsX50, w ∈ lw_tbl := mem_pl [93, 95, 97] (by decide +kernel)
set_option maxRecDepth 100000 in
theorem inX6 : ∀ w ∈ wsX60, w ∈ lw_tbl := mem_pl [232, 234, 236, 238, 240, 242, 244, 246, 248, 250] (by decide +kernel)
set_option maxRecDepth 100000 in
theorem inX7 : ∀ w ∈ wsX70, w ∈ lw_tbl := mem_pl [601, 603, 605, 607, 609, 611, 613, 615, 617, 619, 621, 623, 625, 627] (by decide +kernel)
theorem wsL_law_in : ∀ w ∈ wsL_law, w ∈ lw_tbl := by
  have a1 : ∀ {A B : List Cond}, (∀ w ∈ A, w ∈ lw_tbl) → (∀ w ∈ B, w ∈ lw_tbl) → ∀ w ∈ A ++ B, w ∈ lw_tbl := fun ha hb w h => (List.mem_append.mp h).elim (ha w) (hb w)
  unfold wsL_law
  refine a1 (a1 (a1 (a1 (a1 (a1 (a1 (a1 (a1 ?_ inX6) inX7) inX5) inX2) inX1) inX3) inX4) inX0) (fun _ h => absurd h List.not_mem_nil)
  exact a1 inr_1 (a1 inr_2 (a1 inr_3 (a1 inr_4 (a1 inr_5 (a1 inr_6 (a1 inr_7 (a1 inr_8 (a1 inr_9 (a1 inr_10 (a1 inr_11 (a1 inr_12 (a1 inr_13 (a1 inr_14 (a1 inr_15 (a1 inr_16 (a1 inr_17 (a1 inr_18 (a1 inr_19 (a1 inr_20 (a1 inr_21 (a1 inr_22 (a1 inr_23 (a1 inr_24 (a1 inr_25 (a1 inr_26 (inr_27))))))))))))))))))))))))))
