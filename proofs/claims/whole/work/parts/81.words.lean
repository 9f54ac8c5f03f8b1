theorem mem_places {big : List Cond} (ws : List Cond) (ps : List Nat) (hp : ws = ps.filterMap (fun i => big[i]?)) : ∀ w ∈ ws, w ∈ big := by
  intro w hw
  rw [hp] at hw
  obtain ⟨i, -, hi⟩ := List.mem_filterMap.mp hw
  first | exact List.mem_of_getElem? hi | exact List.getElem?_mem hi
set_option maxRecDepth 20000 in
theorem wr_1 : ∀ w ∈ wsL_law_r1, w ∈ lw_tbl := mem_places _ [53, 54, 43, 709, 710, 50, 55, 56, 57, 58, 59, 60, 61, 62, 44, 236, 88, 89, 45, 237, 238, 170, 171, 46] (by decide +kernel)
set_option maxRecDepth 20000 in
theorem wr_2 : ∀ w ∈ wsL_law_r2, w ∈ lw_tbl := mem_places _ [239, 190, 191, 47, 240, 208, 209, 48, 241, 225, 226, 49, 242, 243, 169, 244, 64, 65, 66, 87, 67, 90, 91, 92] (by decide +kernel)
set_option maxRecDepth 20000 in
theorem wr_3 : ∀ w ∈ wsL_law_r3, w ∈ lw_tbl := mem_places _ [93, 168, 121, 124, 127, 129, 131, 133, 136, 94, 95, 96, 97, 98, 102, 105, 110, 113, 117, 119, 172, 173, 174, 175] (by decide +kernel)
set_option maxRecDepth 20000 in
theorem wr_4 : ∀ w ∈ wsL_law_r4, w ∈ lw_tbl := mem_places _ [176, 179, 178, 193, 194, 195, 196, 198, 199, 200, 197, 211, 212, 213, 214, 215, 228, 229, 230, 711, 712, 713, 714, 716] (by decide +kernel)
set_option maxRecDepth 20000 in
theorem wr_5 : ∀ w ∈ wsL_law_r5, w ∈ lw_tbl := mem_places _ [726, 727, 728, 729, 731, 732, 733, 734, 735, 736, 739, 741, 264, 265, 266, 267, 69, 268, 269, 270, 271, 272, 273, 274] (by decide +kernel)
set_option maxRecDepth 20000 in
theorem wr_6 : ∀ w ∈ wsL_law_r6, w ∈ lw_tbl := mem_places _ [68, 803, 804, 805, 806, 715, 807, 808, 809, 275, 276, 277, 278, 279, 280, 281, 282, 810, 811, 812, 813, 283, 284, 285] (by decide +kernel)
set_option maxRecDepth 20000 in
theorem wr_7 : ∀ w ∈ wsL_law_r7, w ∈ lw_tbl := mem_places _ [286, 287, 288, 289, 290, 70, 71, 72, 291, 292, 294, 0, 295, 296, 298, 1, 299, 107, 111, 300, 302, 2, 303, 304] (by decide +kernel)
set_option maxRecDepth 20000 in
theorem wr_8 : ∀ w ∈ wsL_law_r8, w ∈ lw_tbl := mem_places _ [306, 3, 307, 73, 99, 103, 308, 310, 4, 311, 313, 315, 5, 316, 317, 318, 319, 320, 321, 322, 323, 324, 325, 326] (by decide +kernel)
set_option maxRecDepth 20000 in
theorem wr_9 : ∀ w ∈ wsL_law_r9, w ∈ lw_tbl := mem_places _ [327, 328, 329, 331, 6, 332, 333, 334, 335, 336, 337, 339, 7, 340, 116, 341, 342, 343, 344, 345, 346, 347, 348, 181] (by decide +kernel)
set_option maxRecDepth 20000 in
theorem wr_10 : ∀ w ∈ wsL_law_r10, w ∈ lw_tbl := mem_places _ [349, 350, 351, 352, 216, 814, 815, 816, 817, 718, 723, 724, 725, 730, 737, 738, 721, 818, 820, 15, 821, 717, 722, 719] (by decide +kernel)
set_option maxRecDepth 20000 in
theorem wr_11 : ∀ w ∈ wsL_law_r11, w ∈ lw_tbl := mem_places _ [822, 824, 16, 825, 720, 826, 828, 17, 829, 830, 832, 18, 833, 834, 836, 19, 837, 838, 840, 20, 841, 842, 844, 21] (by decide +kernel)
set_option maxRecDepth 20000 in
theorem wr_12 : ∀ w ∈ wsL_law_r12, w ∈ lw_tbl := mem_places _ [845, 846, 848, 22, 849, 850, 851, 852, 353, 354, 355, 356, 123, 126, 130, 128, 132, 357, 358, 359, 360, 362, 363, 364] (by decide +kernel)
set_option maxRecDepth 20000 in
theorem wr_13 : ∀ w ∈ wsL_law_r13, w ∈ lw_tbl := mem_places _ [365, 366, 367, 368, 369, 370, 371, 372, 373, 853, 854, 855, 856, 857, 859, 23, 860, 861, 863, 24, 864, 865, 867, 25] (by decide +kernel)
set_option maxRecDepth 20000 in
theorem wr_14 : ∀ w ∈ wsL_law_r14, w ∈ lw_tbl := mem_places _ [868, 374, 375, 376, 377, 135, 138, 378, 379, 380, 381, 382, 383, 384, 385, 869, 870, 871, 872, 873, 875, 26, 876, 877] (by decide +kernel)
set_option maxRecDepth 20000 in
theorem wr_15 : ∀ w ∈ wsL_law_r15, w ∈ lw_tbl := mem_places _ [879, 27, 880, 742, 881, 882, 883, 386, 387, 388, 389, 390, 391, 392, 393, 394, 395, 396, 397, 398, 399, 400, 401, 402] (by decide +kernel)
set_option maxRecDepth 20000 in
theorem wr_16 : ∀ w ∈ wsL_law_r16, w ∈ lw_tbl := mem_places _ [404, 405, 406, 407, 408, 409, 410, 884, 885, 886, 887, 888, 890, 28, 891, 892, 894, 29, 895, 896, 898, 30, 899, 900] (by decide +kernel)
set_option maxRecDepth 20000 in
theorem wr_17 : ∀ w ∈ wsL_law_r17, w ∈ lw_tbl := mem_places _ [902, 31, 903, 743, 904, 906, 32, 907, 411, 412, 413, 414, 118, 115, 120, 108, 182, 908, 909, 910, 911, 415, 416, 417] (by decide +kernel)
set_option maxRecDepth 20000 in
theorem wr_18 : ∀ w ∈ wsL_law_r18, w ∈ lw_tbl := mem_places _ [418, 419, 420, 421, 422, 423, 424, 425, 426, 427, 428, 429, 430, 431, 432, 433, 434, 180, 436, 437, 51, 438, 435, 912] (by decide +kernel)
set_option maxRecDepth 20000 in
theorem wr_19 : ∀ w ∈ wsL_law_r19, w ∈ lw_tbl := mem_places _ [913, 914, 915, 916, 918, 33, 919, 439, 440, 441, 442, 443, 444, 445, 446, 447, 448, 449, 920, 921, 922, 923, 450, 451] (by decide +kernel)
set_option maxRecDepth 20000 in
theorem wr_20 : ∀ w ∈ wsL_law_r20, w ∈ lw_tbl := mem_places _ [452, 453, 454, 455, 456, 457, 458, 924, 925, 926, 927, 459, 460, 461, 462, 463, 464, 465, 466, 467, 468, 928, 929, 930] (by decide +kernel)
set_option maxRecDepth 20000 in
theorem wr_21 : ∀ w ∈ wsL_law_r21, w ∈ lw_tbl := mem_places _ [931, 932, 934, 34, 935, 936, 938, 35, 939, 469, 470, 471, 472, 940, 941, 942, 943, 473, 474, 475, 476, 944, 945, 946] (by decide +kernel)
set_option maxRecDepth 20000 in
theorem wr_22 : ∀ w ∈ wsL_law_r22, w ∈ lw_tbl := mem_places _ [947, 477, 478, 479, 480, 948, 949, 950, 951, 481, 482, 483, 484, 485, 486, 487, 488, 952, 953, 954, 955, 489, 490, 491] (by decide +kernel)
set_option maxRecDepth 20000 in
theorem wr_23 : ∀ w ∈ wsL_law_r23, w ∈ lw_tbl := mem_places _ [492, 493, 494, 495, 496, 109, 497, 498, 499, 500, 501, 502, 503, 134, 513, 137, 504, 505, 506, 507, 508, 509, 510, 511] (by decide +kernel)
set_option maxRecDepth 20000 in
theorem wr_24 : ∀ w ∈ wsL_law_r24, w ∈ lw_tbl := mem_places _ [512, 514, 515, 52, 516, 517, 518, 519, 520, 522, 8, 523, 956, 957, 958, 959, 960, 962, 36, 963, 964, 965, 966, 525] (by decide +kernel)
set_option maxRecDepth 20000 in
theorem wr_25 : ∀ w ∈ wsL_law_r25, w ∈ lw_tbl := mem_places _ [526, 527, 528, 529, 530, 531, 532, 106, 533, 534, 535, 967, 968, 969, 970, 536, 537, 538, 539, 540, 541, 542, 543, 544] (by decide +kernel)
set_option maxRecDepth 20000 in
theorem wr_26 : ∀ w ∈ wsL_law_r26, w ∈ lw_tbl := mem_places _ [545, 971, 972, 973, 974, 546, 547, 548, 549, 550, 551, 552, 553, 114, 975, 976, 977, 978, 555, 556, 557, 558, 559, 560] (by decide +kernel)
set_option maxRecDepth 20000 in
theorem wr_27 : ∀ w ∈ wsL_law_r27, w ∈ lw_tbl := mem_places _ [561, 562, 100, 563, 564, 565, 566, 567, 979, 980, 981, 982, 568, 569, 570, 571, 572, 573, 574, 575, 576, 577, 578, 579] (by decide +kernel)
set_option maxRecDepth 20000 in
theorem wr_28 : ∀ w ∈ wsL_law_r28, w ∈ lw_tbl := mem_places _ [580, 581, 582, 583, 983, 984, 985, 986, 987, 989, 37, 990, 584, 585, 586, 587, 217, 588, 589, 590, 591, 991, 992, 993] (by decide +kernel)
set_option maxRecDepth 20000 in
theorem wr_29 : ∀ w ∈ wsL_law_r29, w ∈ lw_tbl := mem_places _ [994, 592, 593, 594, 595, 995, 996, 997, 998, 596, 597, 598, 599, 600, 601, 602, 603, 604, 605, 606, 607, 608, 999, 1000] (by decide +kernel)
set_option maxRecDepth 20000 in
theorem wr_30 : ∀ w ∈ wsL_law_r30, w ∈ lw_tbl := mem_places _ [1001, 1002, 609, 610, 611, 612, 112, 613, 614, 615, 616, 617, 618, 619, 621, 622, 623, 1003, 1004, 1005, 1006, 624, 625, 626] (by decide +kernel)
set_option maxRecDepth 20000 in
theorem wr_31 : ∀ w ∈ wsL_law_r31, w ∈ lw_tbl := mem_places _ [627, 628, 629, 630, 631, 632, 1007, 1008, 1009, 1010, 633, 634, 635, 636, 637, 638, 639, 640, 641, 642, 643, 644, 1011, 1012] (by decide +kernel)
set_option maxRecDepth 20000 in
theorem wr_32 : ∀ w ∈ wsL_law_r32, w ∈ lw_tbl := mem_places _ [1013, 1014, 1015, 1017, 38, 1018, 646, 647, 648, 649, 650, 1019, 1020, 1021, 1022, 651, 652, 653, 654, 692, 655, 656, 657, 658] (by decide +kernel)
set_option maxRecDepth 20000 in
theorem wr_33 : ∀ w ∈ wsL_law_r33, w ∈ lw_tbl := mem_places _ [691, 659, 661, 9, 662, 231, 125, 663, 665, 10, 666, 667, 668, 669, 671, 11, 672, 673, 122, 674, 676, 12, 677, 678] (by decide +kernel)
set_option maxRecDepth 20000 in
theorem wr_34 : ∀ w ∈ wsL_law_r34, w ∈ lw_tbl := mem_places _ [679, 681, 13, 682, 683, 684, 686, 14, 687, 688, 689, 690, 1023, 1024, 1025, 1026, 1027, 740, 1042, 1043, 1044, 1028, 1030, 39] (by decide +kernel)
set_option maxRecDepth 20000 in
theorem wr_35 : ∀ w ∈ wsL_law_r35, w ∈ lw_tbl := mem_places _ [1031, 1032, 1034, 40, 1035, 1036, 1037, 1039, 41, 1040, 1041, 693, 694, 695, 696, 1045, 1046, 1047, 1048, 697, 698, 699, 700, 1049] (by decide +kernel)
set_option maxRecDepth 20000 in
theorem wr_36 : ∀ w ∈ wsL_law_r36, w ∈ lw_tbl := mem_places _ [1050, 1051, 1052, 701, 702, 703, 704, 101, 104, 1053, 1054, 1055, 1056, 705, 706, 707, 708, 232, 1057, 1058, 1059, 1060] (by decide +kernel)
set_option maxRecDepth 20000 in
theorem inX0 : ∀ w ∈ wsX00, w ∈ lw_tbl := by decide +kernel
set_option maxRecDepth 20000 in
theorem inX1 : ∀ w ∈ wsX10, w ∈ lw_tbl := by decide +kernel
set_option maxRecDepth 20000 in
theorem inX2 : ∀ w ∈ wsX20, w ∈ lw_tbl := by decide +kernel
set_option maxRecDepth 20000 in
theorem inX3 : ∀ w ∈ wsX30, w ∈ lw_tbl := by decide +kernel
set_option maxRecDepth 20000 in
theorem inX4 : ∀ w ∈ wsX40, w ∈ lw_tbl := by decide +kernel
set_option maxRecDepth 20000 in
theorem inX5 : ∀ w ∈ wsX50, w ∈ lw_tbl := by decide +kernel
set_option maxRecDepth 20000 in
theorem inX6 : ∀ w ∈ wsX60, w ∈ lw_tbl := by decide +kernel
set_option maxRecDepth 20000 in
theorem inX7 : ∀ w ∈ wsX70, w ∈ lw_tbl := by decide +kernel
theorem mem_app {big a b : List Cond} (ha : ∀ w ∈ a, w ∈ big) (hb : ∀ w ∈ b, w ∈ big) : ∀ w ∈ a ++ b, w ∈ big := fun w h => (List.mem_append.mp h).elim (ha w) (hb w)
theorem wsL_law_in : ∀ w ∈ wsL_law, w ∈ lw_tbl := mem_app (mem_app (mem_app (mem_app (mem_app (mem_app (mem_app (mem_app (mem_app (mem_app wr_1 (mem_app wr_2 (mem_app wr_3 (mem_app wr_4 (mem_app wr_5 (mem_app wr_6 (mem_app wr_7 (mem_app wr_8 (mem_app wr_9 (mem_app wr_10 (mem_app wr_11 (mem_app wr_12 (mem_app wr_13 (mem_app wr_14 (mem_app wr_15 (mem_app wr_16 (mem_app wr_17 (mem_app wr_18 (mem_app wr_19 (mem_app wr_20 (mem_app wr_21 (mem_app wr_22 (mem_app wr_23 (mem_app wr_24 (mem_app wr_25 (mem_app wr_26 (mem_app wr_27 (mem_app wr_28 (mem_app wr_29 (mem_app wr_30 (mem_app wr_31 (mem_app wr_32 (mem_app wr_33 (mem_app wr_34 (mem_app wr_35 (wr_36)))))))))))))))))))))))))))))))))))) inX6) inX7) inX5) inX0) inX2) inX3) inX4) inX1) (fun _ h => absurd h List.not_mem_nil)
theorem inlX0 : ∀ w ∈ wsX00, w ∈ wsL_law := fun _ h => List.mem_append_left _ (List.mem_append_left _ (List.mem_append_left _ (List.mem_append_left _ (List.mem_append_left _ (List.mem_append_right _ h)))))
theorem inlX1 : ∀ w ∈ wsX10, w ∈ wsL_law := fun _ h => List.mem_append_left _ (List.mem_append_right _ h)
theorem inlX2 : ∀ w ∈ wsX20, w ∈ wsL_law := fun _ h => List.mem_append_left _ (List.mem_append_left _ (List.mem_append_left _ (List.mem_append_left _ (List.mem_append_right _ h))))
theorem inlX3 : ∀ w ∈ wsX30, w ∈ wsL_law := fun _ h => List.mem_append_left _ (List.mem_append_left _ (List.mem_append_left _ (List.mem_append_right _ h)))
theorem inlX4 : ∀ w ∈ wsX40, w ∈ wsL_law := fun _ h => List.mem_append_left _ (List.mem_append_left _ (List.mem_append_right _ h))
theorem inlX5 : ∀ w ∈ wsX50, w ∈ wsL_law := fun _ h => List.mem_append_left _ (List.mem_append_left _ (List.mem_append_left _ (List.mem_append_left _ (List.mem_append_left _ (List.mem_append_left _ (List.mem_append_right _ h))))))
theorem inlX6 : ∀ w ∈ wsX60, w ∈ wsL_law := fun _ h => List.mem_append_left _ (List.mem_append_left _ (List.mem_append_left _ (List.mem_append_left _ (List.mem_append_left _ (List.mem_append_left _ (List.mem_append_left _ (List.mem_append_left _ (List.mem_append_right _ h))))))))
theorem inlX7 : ∀ w ∈ wsX70, w ∈ wsL_law := fun _ h => List.mem_append_left _ (List.mem_append_left _ (List.mem_append_left _ (List.mem_append_left _ (List.mem_append_left _ (List.mem_append_left _ (List.mem_append_left _ (List.mem_append_right _ h)))))))
theorem inJ6 : ∀ w ∈ wsJ60, w ∈ lw_tbl := by decide +kernel

theorem inJ9 : ∀ w ∈ wsJ90, w ∈ lw_tbl := by decide +kernel
