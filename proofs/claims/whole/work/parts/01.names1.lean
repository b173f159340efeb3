set_option maxRecDepth 20000 in
theorem wsL_gd_1 : GoodIn lw_tbl wsL_law_r1 := goodIn_r wsL_law_r1 [57, 58, 42, 669, 670, 51, 59, 60, 61, 62, 63, 64, 65, 66, 43, 286, 81, 82, 44, 287, 143, 144, 46, 288] (by decide +kernel) (by decide +kernel)
set_option maxRecDepth 20000 in
theorem wsL_gd_2 : GoodIn lw_tbl wsL_law_r2 := goodIn_r wsL_law_r2 [172, 173, 47, 289, 290, 237, 238, 48, 291, 292, 271, 293, 254, 255, 49, 294, 68, 69, 70, 80, 71, 72, 84, 85] (by decide +kernel) (by decide +kernel)
set_option maxRecDepth 20000 in
theorem wsL_gd_3 : GoodIn lw_tbl wsL_law_r3 := goodIn_r wsL_law_r3 [86, 112, 115, 118, 121, 124, 87, 89, 45, 127, 91, 92, 93, 94, 97, 100, 145, 146, 147, 148, 149, 152, 154, 155] (by decide +kernel) (by decide +kernel)
set_option maxRecDepth 20000 in
theorem wsL_gd_4 : GoodIn lw_tbl wsL_law_r4 := goodIn_r wsL_law_r4 [156, 157, 151, 175, 176, 177, 200, 202, 204, 180, 206, 239, 240, 241, 242, 243, 246, 247, 257, 258, 259, 260, 261, 262] (by decide +kernel) (by decide +kernel)
set_option maxRecDepth 20000 in
theorem wsL_gd_5 : GoodIn lw_tbl wsL_law_r5 := goodIn_r wsL_law_r5 [272, 273, 274, 275, 182, 184, 186, 188, 190, 192, 193, 194, 196, 198, 276, 277, 278, 279, 280, 281, 282, 283, 285, 284] (by decide +kernel) (by decide +kernel)
set_option maxRecDepth 20000 in
theorem wsL_gd_6 : GoodIn lw_tbl wsL_law_r6 := goodIn_r wsL_law_r6 [50, 671, 672, 673, 674, 683, 685, 686, 687, 688, 690, 691, 692, 698, 675, 677, 18, 678, 679, 681, 19, 682, 689, 693] (by decide +kernel) (by decide +kernel)
set_option maxRecDepth 20000 in
theorem wsL_gd_7 : GoodIn lw_tbl wsL_law_r7 := goodIn_r wsL_law_r7 [314, 315, 316, 317, 318, 319, 320, 321, 732, 733, 734, 735, 684, 736, 737, 738, 322, 323, 324, 325, 739, 740, 741, 742] (by decide +kernel) (by decide +kernel)
set_option maxRecDepth 20000 in
theorem wsL_gd_8 : GoodIn lw_tbl wsL_law_r8 := goodIn_r wsL_law_r8 [326, 327, 328, 329, 330, 331, 332, 333, 334, 335, 336, 337, 338, 339, 341, 0, 342, 343, 345, 1, 346, 351, 352, 52] (by decide +kernel) (by decide +kernel)
set_option maxRecDepth 20000 in
theorem wsL_gd_9 : GoodIn lw_tbl wsL_law_r9 := goodIn_r wsL_law_r9 [353, 347, 348, 349, 350, 355, 356, 357, 358, 359, 360, 361, 53, 362, 919, 363, 364, 365, 366, 367, 920, 369, 370, 371] (by decide +kernel) (by decide +kernel)
set_option maxRecDepth 20000 in
theorem wsL_gd_10 : GoodIn lw_tbl wsL_law_r10 := goodIn_r wsL_law_r10 [372, 373, 374, 375, 376, 377, 378, 54, 379, 380, 381, 382, 383, 385, 386, 55, 387, 388, 389, 56, 390, 391, 392, 393] (by decide +kernel) (by decide +kernel)
set_option maxRecDepth 20000 in
theorem wsL_gd_11 : GoodIn lw_tbl wsL_law_r11 := goodIn_r wsL_law_r11 [394, 395, 396, 397, 398, 399, 400, 401, 403, 405, 407, 409, 2, 410, 411, 413, 3, 414, 415, 416, 417, 418, 419, 420] (by decide +kernel) (by decide +kernel)
set_option maxRecDepth 20000 in
theorem wsL_gd_12 : GoodIn lw_tbl wsL_law_r12 := goodIn_r wsL_law_r12 [421, 422, 423, 425, 427, 4, 428, 430, 432, 5, 433, 435, 437, 6, 438, 439, 441, 7, 442, 448, 450, 8, 451, 452] (by decide +kernel) (by decide +kernel)
set_option maxRecDepth 20000 in
theorem wsL_gd_13 : GoodIn lw_tbl wsL_law_r13 := goodIn_r wsL_law_r13 [453, 454, 455, 456, 457, 458, 459, 460, 461, 463, 9, 464, 743, 744, 745, 746, 696, 747, 749, 20, 750, 694, 695, 751] (by decide +kernel) (by decide +kernel)
set_option maxRecDepth 20000 in
theorem wsL_gd_14 : GoodIn lw_tbl wsL_law_r14 := goodIn_r wsL_law_r14 [753, 21, 754, 697, 755, 757, 22, 758, 759, 760, 761, 762, 763, 764, 765, 767, 23, 768, 769, 771, 24, 772, 773, 775] (by decide +kernel) (by decide +kernel)
set_option maxRecDepth 20000 in
theorem wsL_gd_15 : GoodIn lw_tbl wsL_law_r15 := goodIn_r wsL_law_r15 [25, 776, 777, 779, 26, 780, 781, 783, 27, 784, 785, 787, 28, 788, 789, 791, 29, 792, 467, 468, 469, 470, 471, 793] (by decide +kernel) (by decide +kernel)
set_option maxRecDepth 20000 in
theorem wsL_gd_16 : GoodIn lw_tbl wsL_law_r16 := goodIn_r wsL_law_r16 [794, 795, 796, 472, 473, 474, 475, 476, 477, 478, 479, 797, 798, 799, 800, 801, 803, 30, 804, 480, 481, 482, 483, 484] (by decide +kernel) (by decide +kernel)
set_option maxRecDepth 20000 in
theorem wsL_gd_17 : GoodIn lw_tbl wsL_law_r17 := goodIn_r wsL_law_r17 [485, 486, 805, 806, 807, 808, 809, 811, 31, 812, 487, 488, 489, 490, 491, 492, 493, 494, 813, 814, 815, 816, 495, 496] (by decide +kernel) (by decide +kernel)
set_option maxRecDepth 20000 in
theorem wsL_gd_18 : GoodIn lw_tbl wsL_law_r18 := goodIn_r wsL_law_r18 [497, 498, 499, 504, 501, 502, 503, 817, 818, 819, 820, 506, 507, 508, 509, 510, 511, 512, 513, 514, 516, 10, 517, 518] (by decide +kernel) (by decide +kernel)
set_option maxRecDepth 20000 in
theorem wsL_gd_19 : GoodIn lw_tbl wsL_law_r19 := goodIn_r wsL_law_r19 [519, 520, 521, 522, 523, 524, 525, 526, 527, 528, 529, 530, 531, 532, 534, 11, 535, 536, 537, 538, 539, 540, 542, 12] (by decide +kernel) (by decide +kernel)
set_option maxRecDepth 20000 in
theorem wsL_gd_20 : GoodIn lw_tbl wsL_law_r20 := goodIn_r wsL_law_r20 [543, 544, 546, 13, 547, 550, 551, 552, 553, 554, 555, 556, 557, 558, 821, 822, 823, 824, 825, 827, 32, 828, 829, 831] (by decide +kernel) (by decide +kernel)
set_option maxRecDepth 20000 in
theorem wsL_gd_21 : GoodIn lw_tbl wsL_law_r21 := goodIn_r wsL_law_r21 [33, 832, 833, 835, 34, 836, 837, 839, 35, 840, 559, 560, 561, 562, 563, 564, 565, 566, 567, 841, 842, 843, 844, 845] (by decide +kernel) (by decide +kernel)
set_option maxRecDepth 20000 in
theorem wsL_gd_22 : GoodIn lw_tbl wsL_law_r22 := goodIn_r wsL_law_r22 [847, 36, 848, 568, 569, 570, 571, 572, 849, 850, 851, 852, 853, 855, 37, 856, 573, 574, 575, 576, 577, 578, 579, 580] (by decide +kernel) (by decide +kernel)
set_option maxRecDepth 20000 in
theorem wsL_gd_23 : GoodIn lw_tbl wsL_law_r23 := goodIn_r wsL_law_r23 [857, 858, 859, 860, 581, 582, 583, 584, 585, 861, 862, 863, 864, 586, 587, 588, 589, 865, 866, 867, 868, 590, 591, 592] (by decide +kernel) (by decide +kernel)
set_option maxRecDepth 20000 in
theorem wsL_gd_24 : GoodIn lw_tbl wsL_law_r24 := goodIn_r wsL_law_r24 [593, 869, 870, 871, 872, 873, 875, 38, 876, 877, 879, 39, 880, 594, 595, 596, 597, 598, 881, 882, 883, 884, 599, 600] (by decide +kernel) (by decide +kernel)
set_option maxRecDepth 20000 in
theorem wsL_gd_25 : GoodIn lw_tbl wsL_law_r25 := goodIn_r wsL_law_r25 [601, 602, 603, 605, 14, 606, 607, 608, 609, 885, 886, 887, 888, 610, 611, 612, 613, 614, 615, 616, 617, 889, 890, 891] (by decide +kernel) (by decide +kernel)
set_option maxRecDepth 20000 in
theorem wsL_gd_26 : GoodIn lw_tbl wsL_law_r26 := goodIn_r wsL_law_r26 [892, 618, 619, 620, 621, 893, 894, 895, 896, 622, 623, 624, 625, 626, 627, 628, 629, 630, 632, 15, 633, 634, 635, 636] (by decide +kernel) (by decide +kernel)
set_option maxRecDepth 20000 in
theorem wsL_gd_27 : GoodIn lw_tbl wsL_law_r27 := goodIn_r wsL_law_r27 [637, 638, 639, 641, 16, 642, 897, 898, 899, 900, 901, 903, 40, 904, 643, 644, 645, 646, 647, 649, 17, 650, 651, 652] (by decide +kernel) (by decide +kernel)
set_option maxRecDepth 20000 in
theorem wsL_gd_28 : GoodIn lw_tbl wsL_law_r28 := goodIn_r wsL_law_r28 [653, 654, 905, 906, 907, 908, 655, 656, 657, 658, 659, 660, 909, 910, 911, 912, 913, 914, 661, 662, 663, 664, 665, 666] (by decide +kernel) (by decide +kernel)
set_option maxRecDepth 20000 in
theorem wsL_gd_29 : GoodIn lw_tbl wsL_law_r29 := goodIn_r wsL_law_r29 [667, 668, 915, 916, 917, 918] (by decide +kernel) (by decide +kernel)
set_option maxRecDepth 20000 in
theorem wsL_gdF_7 : GoodIn lw_tbl wsX70 := goodIn_r wsX70 [295, 297, 299, 301, 303, 305, 307, 309, 311] (by decide +kernel) (by decide +kernel)
set_option maxRecDepth 20000 in
theorem wsL_gdF_8 : GoodIn lw_tbl wsX80 := goodIn_r wsX80 [699, 701, 703, 705, 707, 709, 711, 713, 715, 717, 719, 721, 723, 725, 727, 729] (by decide +kernel) (by decide +kernel)
set_option maxRecDepth 20000 in
theorem wsL_gdF_6 : GoodIn lw_tbl wsX60 := goodIn_r wsX60 [75, 77] (by decide +kernel) (by decide +kernel)
set_option maxRecDepth 20000 in
theorem wsL_gdF_3 : GoodIn lw_tbl wsX30 := goodIn_r wsX30 [130, 132, 134, 136, 138, 140] (by decide +kernel) (by decide +kernel)
set_option maxRecDepth 20000 in
theorem wsL_gdF_4 : GoodIn lw_tbl wsX40 := goodIn_r wsX40 [159, 161, 163, 165, 167, 169] (by decide +kernel) (by decide +kernel)
set_option maxRecDepth 20000 in
theorem wsL_gdF_0 : GoodIn lw_tbl wsX00 := goodIn_r wsX00 [208, 210, 212, 214, 216, 218, 220, 222, 224, 226, 228, 230, 232, 234] (by decide +kernel) (by decide +kernel)
set_option maxRecDepth 20000 in
theorem wsL_gdF_2 : GoodIn lw_tbl wsX20 := goodIn_r wsX20 [249, 251] (by decide +kernel) (by decide +kernel)
set_option maxRecDepth 20000 in
theorem wsL_gdF_5 : GoodIn lw_tbl wsX50 := goodIn_r wsX50 [264, 266, 268] (by decide +kernel) (by decide +kernel)
set_option maxRecDepth 20000 in
theorem wsL_gdF_1 : GoodIn lw_tbl wsX10 := goodIn_r wsX10 [105, 107, 109] (by decide +kernel) (by decide +kernel)
theorem wsL_law_gd : GoodIn lw_tbl wsL_law := goodIn_app (goodIn_app (goodIn_app (goodIn_app (goodIn_app (goodIn_app (goodIn_app (goodIn_app (goodIn_app (goodIn_app (goodIn_app wsL_gd_1 (goodIn_app wsL_gd_2 (goodIn_app wsL_gd_3 (goodIn_app wsL_gd_4 (goodIn_app wsL_gd_5 (goodIn_app wsL_gd_6 (goodIn_app wsL_gd_7 (goodIn_app wsL_gd_8 (goodIn_app wsL_gd_9 (goodIn_app wsL_gd_10 (goodIn_app wsL_gd_11 (goodIn_app wsL_gd_12 (goodIn_app wsL_gd_13 (goodIn_app wsL_gd_14 (goodIn_app wsL_gd_15 (goodIn_app wsL_gd_16 (goodIn_app wsL_gd_17 (goodIn_app wsL_gd_18 (goodIn_app wsL_gd_19 (goodIn_app wsL_gd_20 (goodIn_app wsL_gd_21 (goodIn_app wsL_gd_22 (goodIn_app wsL_gd_23 (goodIn_app wsL_gd_24 (goodIn_app wsL_gd_25 (goodIn_app wsL_gd_26 (goodIn_app wsL_gd_27 (goodIn_app wsL_gd_28 wsL_gd_29)))))))))))))))))))))))))))) wsL_gdF_7) wsL_gdF_8) wsL_gdF_6) wsL_gdF_3) wsL_gdF_4) wsL_gdF_0) wsL_gdF_2) wsL_gdF_5) wsL_gdF_1) (fun _ h => absurd h List.not_mem_nil)
theorem wsL_law_in : ∀ w ∈ wsL_law, w ∈ lw_tbl := fun w h => (wsL_law_gd w h).1
theorem wsL_self : GoodIn wsL_law wsL_law := fun w h => ⟨h, (wsL_law_gd w h).2⟩
theorem inlX0 : ∀ w ∈ wsX00, w ∈ wsL_law := fun _ h => List.mem_append_left _ (List.mem_append_left _ (List.mem_append_left _ (List.mem_append_left _ (List.mem_append_right _ h))))
theorem inX0 : ∀ w ∈ wsX00, w ∈ lw_tbl := fun w h => wsL_law_in w (inlX0 w h)
theorem inlX1 : ∀ w ∈ wsX10, w ∈ wsL_law := fun _ h => List.mem_append_left _ (List.mem_append_right _ h)
theorem inX1 : ∀ w ∈ wsX10, w ∈ lw_tbl := fun w h => wsL_law_in w (inlX1 w h)
theorem inlX2 : ∀ w ∈ wsX20, w ∈ wsL_law := fun _ h => List.mem_append_left _ (List.mem_append_left _ (List.mem_append_left _ (List.mem_append_right _ h)))
theorem inX2 : ∀ w ∈ wsX20, w ∈ lw_tbl := fun w h => wsL_law_in w (inlX2 w h)
theorem inlX3 : ∀ w ∈ wsX30, w ∈ wsL_law := fun _ h => List.mem_append_left _ (List.mem_append_left _ (List.mem_append_left _ (List.mem_append_left _ (List.mem_append_left _ (List.mem_append_left _ (List.mem_append_right _ h))))))
theorem inX3 : ∀ w ∈ wsX30, w ∈ lw_tbl := fun w h => wsL_law_in w (inlX3 w h)
theorem inlX4 : ∀ w ∈ wsX40, w ∈ wsL_law := fun _ h => List.mem_append_left _ (List.mem_append_left _ (List.mem_append_left _ (List.mem_append_left _ (List.mem_append_left _ (List.mem_append_right _ h)))))
theorem inX4 : ∀ w ∈ wsX40, w ∈ lw_tbl := fun w h => wsL_law_in w (inlX4 w h)
theorem inlX5 : ∀ w ∈ wsX50, w ∈ wsL_law := fun _ h => List.mem_append_left _ (List.mem_append_left _ (List.mem_append_right _ h))
theorem inX5 : ∀ w ∈ wsX50, w ∈ lw_tbl := fun w h => wsL_law_in w (inlX5 w h)
theorem inlX6 : ∀ w ∈ wsX60, w ∈ wsL_law := fun _ h => List.mem_append_left _ (List.mem_append_left _ (List.mem_append_left _ (List.mem_append_left _ (List.mem_append_left _ (List.mem_append_left _ (List.mem_append_left _ (List.mem_append_right _ h)))))))
theorem inX6 : ∀ w ∈ wsX60, w ∈ lw_tbl := fun w h => wsL_law_in w (inlX6 w h)
theorem inlX7 : ∀ w ∈ wsX70, w ∈ wsL_law := fun _ h => List.mem_append_left _ (List.mem_append_left _ (List.mem_append_left _ (List.mem_append_left _ (List.mem_append_left _ (List.mem_append_left _ (List.mem_append_left _ (List.mem_append_left _ (List.mem_append_left _ (List.mem_append_right _ h)))))))))
theorem inX7 : ∀ w ∈ wsX70, w ∈ lw_tbl := fun w h => wsL_law_in w (inlX7 w h)
theorem inlX8 : ∀ w ∈ wsX80, w ∈ wsL_law := fun _ h => List.mem_append_left _ (List.mem_append_left _ (List.mem_append_left _ (List.mem_append_left _ (List.mem_append_left _ (List.mem_append_left _ (List.mem_append_left _ (List.mem_append_left _ (List.mem_append_right _ h))))))))
theorem inX8 : ∀ w ∈ wsX80, w ∈ lw_tbl := fun w h => wsL_law_in w (inlX8 w h)
