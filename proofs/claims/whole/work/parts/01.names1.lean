set_option maxRecDepth 20000 in
theorem wsL_in_1 : ∀ w ∈ wsL_law_r1, w ∈ lw_tbl := fun w h => ((goodIn_r wsL_law_r1 [57, 58, 42, 669, 670, 51, 59, 60, 61, 62, 63, 64, 65, 66, 43, 286, 81, 82, 44, 287, 143, 144, 46, 288] (by decide +kernel) (by decide +kernel)) w h).1
set_option maxRecDepth 20000 in
theorem wsL_in_2 : ∀ w ∈ wsL_law_r2, w ∈ lw_tbl := fun w h => ((goodIn_r wsL_law_r2 [172, 173, 47, 289, 290, 237, 238, 48, 291, 292, 271, 293, 254, 255, 49, 294, 68, 69, 70, 80, 71, 72, 84, 85] (by decide +kernel) (by decide +kernel)) w h).1
set_option maxRecDepth 20000 in
theorem wsL_in_3 : ∀ w ∈ wsL_law_r3, w ∈ lw_tbl := fun w h => ((goodIn_r wsL_law_r3 [86, 112, 115, 118, 121, 124, 87, 89, 45, 127, 91, 92, 93, 94, 97, 100, 145, 146, 147, 148, 149, 152, 154, 155] (by decide +kernel) (by decide +kernel)) w h).1
set_option maxRecDepth 20000 in
theorem wsL_in_4 : ∀ w ∈ wsL_law_r4, w ∈ lw_tbl := fun w h => ((goodIn_r wsL_law_r4 [156, 157, 151, 175, 176, 177, 200, 202, 204, 180, 206, 239, 240, 241, 242, 243, 246, 247, 257, 258, 259, 260, 261, 262] (by decide +kernel) (by decide +kernel)) w h).1
set_option maxRecDepth 20000 in
theorem wsL_in_5 : ∀ w ∈ wsL_law_r5, w ∈ lw_tbl := fun w h => ((goodIn_r wsL_law_r5 [272, 273, 274, 275, 182, 184, 186, 188, 190, 192, 193, 194, 196, 198, 276, 277, 278, 279, 280, 281, 282, 283, 285, 284] (by decide +kernel) (by decide +kernel)) w h).1
set_option maxRecDepth 20000 in
theorem wsL_in_6 : ∀ w ∈ wsL_law_r6, w ∈ lw_tbl := fun w h => ((goodIn_r wsL_law_r6 [50, 671, 672, 673, 674, 683, 685, 686, 687, 688, 690, 691, 692, 698, 675, 677, 18, 678, 679, 681, 19, 682, 689, 693] (by decide +kernel) (by decide +kernel)) w h).1
set_option maxRecDepth 20000 in
theorem wsL_in_7 : ∀ w ∈ wsL_law_r7, w ∈ lw_tbl := fun w h => ((goodIn_r wsL_law_r7 [314, 315, 316, 317, 318, 319, 320, 321, 732, 733, 734, 735, 684, 736, 737, 738, 322, 323, 324, 325, 739, 740, 741, 742] (by decide +kernel) (by decide +kernel)) w h).1
set_option maxRecDepth 20000 in
theorem wsL_in_8 : ∀ w ∈ wsL_law_r8, w ∈ lw_tbl := fun w h => ((goodIn_r wsL_law_r8 [326, 327, 328, 329, 330, 331, 332, 333, 334, 335, 336, 337, 338, 339, 341, 0, 342, 343, 345, 1, 346, 351, 352, 52] (by decide +kernel) (by decide +kernel)) w h).1
set_option maxRecDepth 20000 in
theorem wsL_in_9 : ∀ w ∈ wsL_law_r9, w ∈ lw_tbl := fun w h => ((goodIn_r wsL_law_r9 [353, 347, 348, 349, 350, 355, 356, 357, 358, 359, 360, 361, 53, 362, 919, 363, 364, 365, 366, 367, 920, 369, 370, 371] (by decide +kernel) (by decide +kernel)) w h).1
set_option maxRecDepth 20000 in
theorem wsL_in_10 : ∀ w ∈ wsL_law_r10, w ∈ lw_tbl := fun w h => ((goodIn_r wsL_law_r10 [372, 373, 374, 375, 376, 377, 378, 54, 379, 380, 381, 382, 383, 385, 386, 55, 387, 388, 389, 56, 390, 391, 392, 393] (by decide +kernel) (by decide +kernel)) w h).1
set_option maxRecDepth 20000 in
theorem wsL_in_11 : ∀ w ∈ wsL_law_r11, w ∈ lw_tbl := fun w h => ((goodIn_r wsL_law_r11 [394, 395, 396, 397, 398, 399, 400, 401, 403, 405, 407, 409, 2, 410, 411, 413, 3, 414, 415, 416, 417, 418, 419, 420] (by decide +kernel) (by decide +kernel)) w h).1
set_option maxRecDepth 20000 in
theorem wsL_in_12 : ∀ w ∈ wsL_law_r12, w ∈ lw_tbl := fun w h => ((goodIn_r wsL_law_r12 [421, 422, 423, 425, 427, 4, 428, 430, 432, 5, 433, 435, 437, 6, 438, 439, 441, 7, 442, 448, 450, 8, 451, 452] (by decide +kernel) (by decide +kernel)) w h).1
set_option maxRecDepth 20000 in
theorem wsL_in_13 : ∀ w ∈ wsL_law_r13, w ∈ lw_tbl := fun w h => ((goodIn_r wsL_law_r13 [453, 454, 455, 456, 457, 458, 459, 460, 461, 463, 9, 464, 743, 744, 745, 746, 696, 747, 749, 20, 750, 694, 695, 751] (by decide +kernel) (by decide +kernel)) w h).1
set_option maxRecDepth 20000 in
theorem wsL_in_14 : ∀ w ∈ wsL_law_r14, w ∈ lw_tbl := fun w h => ((goodIn_r wsL_law_r14 [753, 21, 754, 697, 755, 757, 22, 758, 759, 760, 761, 762, 763, 764, 765, 767, 23, 768, 769, 771, 24, 772, 773, 775] (by decide +kernel) (by decide +kernel)) w h).1
set_option maxRecDepth 20000 in
theorem wsL_in_15 : ∀ w ∈ wsL_law_r15, w ∈ lw_tbl := fun w h => ((goodIn_r wsL_law_r15 [25, 776, 777, 779, 26, 780, 781, 783, 27, 784, 785, 787, 28, 788, 789, 791, 29, 792, 467, 468, 469, 470, 471, 793] (by decide +kernel) (by decide +kernel)) w h).1
set_option maxRecDepth 20000 in
theorem wsL_in_16 : ∀ w ∈ wsL_law_r16, w ∈ lw_tbl := fun w h => ((goodIn_r wsL_law_r16 [794, 795, 796, 472, 473, 474, 475, 476, 477, 478, 479, 797, 798, 799, 800, 801, 803, 30, 804, 480, 481, 482, 483, 484] (by decide +kernel) (by decide +kernel)) w h).1
set_option maxRecDepth 20000 in
theorem wsL_in_17 : ∀ w ∈ wsL_law_r17, w ∈ lw_tbl := fun w h => ((goodIn_r wsL_law_r17 [485, 486, 805, 806, 807, 808, 809, 811, 31, 812, 487, 488, 489, 490, 491, 492, 493, 494, 813, 814, 815, 816, 495, 496] (by decide +kernel) (by decide +kernel)) w h).1
set_option maxRecDepth 20000 in
theorem wsL_in_18 : ∀ w ∈ wsL_law_r18, w ∈ lw_tbl := fun w h => ((goodIn_r wsL_law_r18 [497, 498, 499, 504, 501, 502, 503, 817, 818, 819, 820, 506, 507, 508, 509, 510, 511, 512, 513, 514, 516, 10, 517, 518] (by decide +kernel) (by decide +kernel)) w h).1
set_option maxRecDepth 20000 in
theorem wsL_in_19 : ∀ w ∈ wsL_law_r19, w ∈ lw_tbl := fun w h => ((goodIn_r wsL_law_r19 [519, 520, 521, 522, 523, 524, 525, 526, 527, 528, 529, 530, 531, 532, 534, 11, 535, 536, 537, 538, 539, 540, 542, 12] (by decide +kernel) (by decide +kernel)) w h).1
set_option maxRecDepth 20000 in
theorem wsL_in_20 : ∀ w ∈ wsL_law_r20, w ∈ lw_tbl := fun w h => ((goodIn_r wsL_law_r20 [543, 544, 546, 13, 547, 550, 551, 552, 553, 554, 555, 556, 557, 558, 821, 822, 823, 824, 825, 827, 32, 828, 829, 831] (by decide +kernel) (by decide +kernel)) w h).1
set_option maxRecDepth 20000 in
theorem wsL_in_21 : ∀ w ∈ wsL_law_r21, w ∈ lw_tbl := fun w h => ((goodIn_r wsL_law_r21 [33, 832, 833, 835, 34, 836, 837, 839, 35, 840, 559, 560, 561, 562, 563, 564, 565, 566, 567, 841, 842, 843, 844, 845] (by decide +kernel) (by decide +kernel)) w h).1
set_option maxRecDepth 20000 in
theorem wsL_in_22 : ∀ w ∈ wsL_law_r22, w ∈ lw_tbl := fun w h => ((goodIn_r wsL_law_r22 [847, 36, 848, 568, 569, 570, 571, 572, 849, 850, 851, 852, 853, 855, 37, 856, 573, 574, 575, 576, 577, 578, 579, 580] (by decide +kernel) (by decide +kernel)) w h).1
set_option maxRecDepth 20000 in
theorem wsL_in_23 : ∀ w ∈ wsL_law_r23, w ∈ lw_tbl := fun w h => ((goodIn_r wsL_law_r23 [857, 858, 859, 860, 581, 582, 583, 584, 585, 861, 862, 863, 864, 586, 587, 588, 589, 865, 866, 867, 868, 590, 591, 592] (by decide +kernel) (by decide +kernel)) w h).1
set_option maxRecDepth 20000 in
theorem wsL_in_24 : ∀ w ∈ wsL_law_r24, w ∈ lw_tbl := fun w h => ((goodIn_r wsL_law_r24 [593, 869, 870, 871, 872, 873, 875, 38, 876, 877, 879, 39, 880, 594, 595, 596, 597, 598, 881, 882, 883, 884, 599, 600] (by decide +kernel) (by decide +kernel)) w h).1
set_option maxRecDepth 20000 in
theorem wsL_in_25 : ∀ w ∈ wsL_law_r25, w ∈ lw_tbl := fun w h => ((goodIn_r wsL_law_r25 [601, 602, 603, 605, 14, 606, 607, 608, 609, 885, 886, 887, 888, 610, 611, 612, 613, 614, 615, 616, 617, 889, 890, 891] (by decide +kernel) (by decide +kernel)) w h).1
set_option maxRecDepth 20000 in
theorem wsL_in_26 : ∀ w ∈ wsL_law_r26, w ∈ lw_tbl := fun w h => ((goodIn_r wsL_law_r26 [892, 618, 619, 620, 621, 893, 894, 895, 896, 622, 623, 624, 625, 626, 627, 628, 629, 630, 632, 15, 633, 634, 635, 636] (by decide +kernel) (by decide +kernel)) w h).1
set_option maxRecDepth 20000 in
theorem wsL_in_27 : ∀ w ∈ wsL_law_r27, w ∈ lw_tbl := fun w h => ((goodIn_r wsL_law_r27 [637, 638, 639, 641, 16, 642, 897, 898, 899, 900, 901, 903, 40, 904, 643, 644, 645, 646, 647, 649, 17, 650, 651, 652] (by decide +kernel) (by decide +kernel)) w h).1
set_option maxRecDepth 20000 in
theorem wsL_in_28 : ∀ w ∈ wsL_law_r28, w ∈ lw_tbl := fun w h => ((goodIn_r wsL_law_r28 [653, 654, 905, 906, 907, 908, 655, 656, 657, 658, 659, 660, 909, 910, 911, 912, 913, 914, 661, 662, 663, 664, 665, 666] (by decide +kernel) (by decide +kernel)) w h).1
set_option maxRecDepth 20000 in
theorem wsL_in_29 : ∀ w ∈ wsL_law_r29, w ∈ lw_tbl := fun w h => ((goodIn_r wsL_law_r29 [667, 668, 915, 916, 917, 918] (by decide +kernel) (by decide +kernel)) w h).1
set_option maxRecDepth 20000 in
theorem wsL_inF_7 : ∀ w ∈ wsX70, w ∈ lw_tbl := fun w h => ((goodIn_r wsX70 [295, 297, 299, 301, 303, 305, 307, 309, 311] (by decide +kernel) (by decide +kernel)) w h).1
set_option maxRecDepth 20000 in
theorem wsL_inF_8 : ∀ w ∈ wsX80, w ∈ lw_tbl := fun w h => ((goodIn_r wsX80 [699, 701, 703, 705, 707, 709, 711, 713, 715, 717, 719, 721, 723, 725, 727, 729] (by decide +kernel) (by decide +kernel)) w h).1
set_option maxRecDepth 20000 in
theorem wsL_inF_6 : ∀ w ∈ wsX60, w ∈ lw_tbl := fun w h => ((goodIn_r wsX60 [75, 77] (by decide +kernel) (by decide +kernel)) w h).1
set_option maxRecDepth 20000 in
theorem wsL_inF_3 : ∀ w ∈ wsX30, w ∈ lw_tbl := fun w h => ((goodIn_r wsX30 [130, 132, 134, 136, 138, 140] (by decide +kernel) (by decide +kernel)) w h).1
set_option maxRecDepth 20000 in
theorem wsL_inF_4 : ∀ w ∈ wsX40, w ∈ lw_tbl := fun w h => ((goodIn_r wsX40 [159, 161, 163, 165, 167, 169] (by decide +kernel) (by decide +kernel)) w h).1
set_option maxRecDepth 20000 in
theorem wsL_inF_0 : ∀ w ∈ wsX00, w ∈ lw_tbl := fun w h => ((goodIn_r wsX00 [208, 210, 212, 214, 216, 218, 220, 222, 224, 226, 228, 230, 232, 234] (by decide +kernel) (by decide +kernel)) w h).1
set_option maxRecDepth 20000 in
theorem wsL_inF_2 : ∀ w ∈ wsX20, w ∈ lw_tbl := fun w h => ((goodIn_r wsX20 [249, 251] (by decide +kernel) (by decide +kernel)) w h).1
set_option maxRecDepth 20000 in
theorem wsL_inF_5 : ∀ w ∈ wsX50, w ∈ lw_tbl := fun w h => ((goodIn_r wsX50 [264, 266, 268] (by decide +kernel) (by decide +kernel)) w h).1
set_option maxRecDepth 20000 in
theorem wsL_inF_1 : ∀ w ∈ wsX10, w ∈ lw_tbl := fun w h => ((goodIn_r wsX10 [105, 107, 109] (by decide +kernel) (by decide +kernel)) w h).1
theorem wsL_inR : ∀ w ∈ (wsL_law_r1 ++ (wsL_law_r2 ++ (wsL_law_r3 ++ (wsL_law_r4 ++ (wsL_law_r5 ++ (wsL_law_r6 ++ (wsL_law_r7 ++ (wsL_law_r8 ++ (wsL_law_r9 ++ (wsL_law_r10 ++ (wsL_law_r11 ++ (wsL_law_r12 ++ (wsL_law_r13 ++ (wsL_law_r14 ++ (wsL_law_r15 ++ (wsL_law_r16 ++ (wsL_law_r17 ++ (wsL_law_r18 ++ (wsL_law_r19 ++ (wsL_law_r20 ++ (wsL_law_r21 ++ (wsL_law_r22 ++ (wsL_law_r23 ++ (wsL_law_r24 ++ (wsL_law_r25 ++ (wsL_law_r26 ++ (wsL_law_r27 ++ (wsL_law_r28 ++ (wsL_law_r29))))))))))))))))))))))))))))), w ∈ lw_tbl := fun w h => (List.mem_append.mp h).elim (fun h => wsL_in_1 w h) (fun h => (List.mem_append.mp h).elim (fun h => wsL_in_2 w h) (fun h => (List.mem_append.mp h).elim (fun h => wsL_in_3 w h) (fun h => (List.mem_append.mp h).elim (fun h => wsL_in_4 w h) (fun h => (List.mem_append.mp h).elim (fun h => wsL_in_5 w h) (fun h => (List.mem_append.mp h).elim (fun h => wsL_in_6 w h) (fun h => (List.mem_append.mp h).elim (fun h => wsL_in_7 w h) (fun h => (List.mem_append.mp h).elim (fun h => wsL_in_8 w h) (fun h => (List.mem_append.mp h).elim (fun h => wsL_in_9 w h) (fun h => (List.mem_append.mp h).elim (fun h => wsL_in_10 w h) (fun h => (List.mem_append.mp h).elim (fun h => wsL_in_11 w h) (fun h => (List.mem_append.mp h).elim (fun h => wsL_in_12 w h) (fun h => (List.mem_append.mp h).elim (fun h => wsL_in_13 w h) (fun h => (List.mem_append.mp h).elim (fun h => wsL_in_14 w h) (fun h => (List.mem_append.mp h).elim (fun h => wsL_in_15 w h) (fun h => (List.mem_append.mp h).elim (fun h => wsL_in_16 w h) (fun h => (List.mem_append.mp h).elim (fun h => wsL_in_17 w h) (fun h => (List.mem_append.mp h).elim (fun h => wsL_in_18 w h) (fun h => (List.mem_append.mp h).elim (fun h => wsL_in_19 w h) (fun h => (List.mem_append.mp h).elim (fun h => wsL_in_20 w h) (fun h => (List.mem_append.mp h).elim (fun h => wsL_in_21 w h) (fun h => (List.mem_append.mp h).elim (fun h => wsL_in_22 w h) (fun h => (List.mem_append.mp h).elim (fun h => wsL_in_23 w h) (fun h => (List.mem_append.mp h).elim (fun h => wsL_in_24 w h) (fun h => (List.mem_append.mp h).elim (fun h => wsL_in_25 w h) (fun h => (List.mem_append.mp h).elim (fun h => wsL_in_26 w h) (fun h => (List.mem_append.mp h).elim (fun h => wsL_in_27 w h) (fun h => (List.mem_append.mp h).elim (fun h => wsL_in_28 w h) (fun h => wsL_in_29 w h))))))))))))))))))))))))))))
theorem wsL_law_in : ∀ w ∈ wsL_law, w ∈ lw_tbl := fun w h => (List.mem_append.mp h).elim (fun h => (List.mem_append.mp h).elim (fun h => (List.mem_append.mp h).elim (fun h => (List.mem_append.mp h).elim (fun h => (List.mem_append.mp h).elim (fun h => (List.mem_append.mp h).elim (fun h => (List.mem_append.mp h).elim (fun h => (List.mem_append.mp h).elim (fun h => (List.mem_append.mp h).elim (fun h => (List.mem_append.mp h).elim (fun h => wsL_inR w h) (fun h => wsL_inF_7 w h)) (fun h => wsL_inF_8 w h)) (fun h => wsL_inF_6 w h)) (fun h => wsL_inF_3 w h)) (fun h => wsL_inF_4 w h)) (fun h => wsL_inF_0 w h)) (fun h => wsL_inF_2 w h)) (fun h => wsL_inF_5 w h)) (fun h => wsL_inF_1 w h)) (fun h => absurd h List.not_mem_nil)
