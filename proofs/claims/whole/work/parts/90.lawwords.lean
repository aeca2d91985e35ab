/-! the words of the law: list by list among the tables, by their places -/
theorem in_pl {big ws : List Cond} (ps : List Nat) (h : ws.map some = ps.map (fun i => big[i]?)) : ∀ w ∈ ws, w ∈ big := by
  intro w hw
  have h1 : some w ∈ ws.map some := List.mem_map.mpr ⟨w, hw, rfl⟩
  rw [h] at h1
  obtain ⟨i, -, hi⟩ := List.mem_map.mp h1
  exact List.mem_of_getElem? hi
set_option maxRecDepth 20000 in
theorem wl_r1 : ∀ w ∈ wsL_law_r1, w ∈ lw_tbl := in_pl [102, 103, 88, 742, 743, 99, 104, 105, 106, 107, 108, 109, 110, 111, 89, 410, 128, 129, 90, 411, 412, 179, 413, 414] (by decide +kernel)
set_option maxRecDepth 20000 in
theorem wl_r2 : ∀ w ∈ wsL_law_r2, w ∈ lw_tbl := in_pl [415, 181, 91, 416, 256, 417, 258, 93, 418, 113, 114, 115, 127, 116, 117, 118, 131, 132, 133, 134, 137, 140, 142, 145] (by decide +kernel)
set_option maxRecDepth 20000 in
theorem wl_r3 : ∀ w ∈ wsL_law_r3, w ∈ lw_tbl := in_pl [147, 149, 152, 154, 156, 183, 184, 185, 212, 215, 218, 221, 223, 225, 227, 229, 231, 186, 187, 92, 233, 189, 190, 191] (by decide +kernel)
set_option maxRecDepth 20000 in
theorem wl_r4 : ∀ w ∈ wsL_law_r4, w ∈ lw_tbl := in_pl [192, 194, 195, 197, 199, 260, 261, 262, 263, 265, 267, 269, 272, 273, 274, 277, 279, 300, 301, 302, 94, 303, 1069, 304] (by decide +kernel)
set_option maxRecDepth 20000 in
theorem wl_r5 : ∀ w ∈ wsL_law_r5, w ∈ lw_tbl := in_pl [305, 306, 307, 308, 1070, 310, 311, 312, 313, 314, 315, 316, 317, 318, 319, 95, 320, 321, 322, 323, 324, 326, 327, 96] (by decide +kernel)
set_option maxRecDepth 20000 in
theorem wl_r6 : ∀ w ∈ wsL_law_r6, w ∈ lw_tbl := in_pl [328, 329, 330, 97, 331, 332, 333, 334, 335, 336, 337, 338, 339, 340, 341, 342, 344, 346, 350, 0, 351, 354, 1, 355] (by decide +kernel)
set_option maxRecDepth 20000 in
theorem wl_r7 : ∀ w ∈ wsL_law_r7, w ∈ lw_tbl := in_pl [358, 2, 359, 362, 364, 363, 98, 365, 367, 3, 368, 369, 371, 4, 372, 375, 5, 376, 379, 6, 380, 383, 7, 384] (by decide +kernel)
set_option maxRecDepth 20000 in
theorem wl_r8 : ∀ w ∈ wsL_law_r8, w ∈ lw_tbl := in_pl [387, 8, 388, 393, 395, 9, 396, 399, 10, 400, 401, 404, 11, 405, 408, 12, 409, 744, 745, 746, 747, 765, 767, 768] (by decide +kernel)
set_option maxRecDepth 20000 in
theorem wl_r9 : ∀ w ∈ wsL_law_r9, w ∈ lw_tbl := in_pl [770, 772, 773, 774, 776, 778, 780, 782, 783, 779, 748, 750, 54, 751, 777, 781, 752, 754, 55, 755, 756, 758, 56, 759] (by decide +kernel)
set_option maxRecDepth 20000 in
theorem wl_r10 : ∀ w ∈ wsL_law_r10, w ∈ lw_tbl := in_pl [760, 762, 57, 763, 766, 769, 771, 775, 439, 440, 441, 442, 834, 835, 836, 837, 764, 443, 444, 445, 446, 838, 839, 840] (by decide +kernel)
set_option maxRecDepth 20000 in
theorem wl_r11 : ∀ w ∈ wsL_law_r11, w ∈ lw_tbl := in_pl [841, 447, 448, 449, 450, 842, 843, 844, 845, 846, 848, 58, 849, 785, 850, 852, 59, 853, 854, 856, 60, 857, 784, 858] (by decide +kernel)
set_option maxRecDepth 20000 in
theorem wl_r12 : ∀ w ∈ wsL_law_r12, w ∈ lw_tbl := in_pl [860, 61, 861, 862, 864, 62, 865, 866, 867, 868, 869, 871, 63, 872, 873, 875, 64, 876, 877, 879, 65, 880, 881, 883] (by decide +kernel)
set_option maxRecDepth 20000 in
theorem wl_r13 : ∀ w ∈ wsL_law_r13, w ∈ lw_tbl := in_pl [66, 884, 885, 886, 887, 888, 889, 890, 451, 452, 453, 454, 457, 13, 458, 459, 461, 14, 462, 891, 892, 893, 894, 895] (by decide +kernel)
set_option maxRecDepth 20000 in
theorem wl_r14 : ∀ w ∈ wsL_law_r14, w ∈ lw_tbl := in_pl [897, 67, 898, 463, 464, 465, 466, 467, 468, 469, 470, 472, 15, 473, 474, 476, 16, 477, 487, 488, 100, 489, 480, 17] (by decide +kernel)
set_option maxRecDepth 20000 in
theorem wl_r15 : ∀ w ∈ wsL_law_r15, w ∈ lw_tbl := in_pl [481, 484, 18, 485, 486, 490, 492, 19, 493, 903, 904, 905, 906, 907, 909, 68, 910, 494, 495, 496, 497, 498, 500, 20] (by decide +kernel)
set_option maxRecDepth 20000 in
theorem wl_r16 : ∀ w ∈ wsL_law_r16, w ∈ lw_tbl := in_pl [501, 502, 504, 21, 505, 508, 22, 509, 510, 512, 23, 513, 514, 516, 24, 517, 518, 519, 101, 520, 521, 522, 523, 923] (by decide +kernel)
set_option maxRecDepth 20000 in
theorem wl_r17 : ∀ w ∈ wsL_law_r17, w ∈ lw_tbl := in_pl [924, 925, 926, 915, 917, 69, 918, 919, 921, 70, 922, 927, 928, 929, 524, 525, 526, 527, 911, 912, 913, 914, 528, 529] (by decide +kernel)
set_option maxRecDepth 20000 in
theorem wl_r18 : ∀ w ∈ wsL_law_r18, w ∈ lw_tbl := in_pl [530, 531, 532, 534, 25, 535, 930, 931, 932, 933, 934, 936, 71, 937, 938, 940, 72, 941, 536, 537, 538, 539, 942, 943] (by decide +kernel)
set_option maxRecDepth 20000 in
theorem wl_r19 : ∀ w ∈ wsL_law_r19, w ∈ lw_tbl := in_pl [944, 945, 540, 541, 542, 543, 544, 545, 946, 947, 948, 949, 546, 547, 548, 549, 550, 552, 26, 553, 556, 27, 557, 558] (by decide +kernel)
set_option maxRecDepth 20000 in
theorem wl_r20 : ∀ w ∈ wsL_law_r20, w ∈ lw_tbl := in_pl [560, 28, 561, 562, 564, 29, 565, 570, 571, 572, 573, 566, 568, 30, 569, 574, 576, 31, 577, 578, 580, 32, 581, 582] (by decide +kernel)
set_option maxRecDepth 20000 in
theorem wl_r21 : ∀ w ∈ wsL_law_r21, w ∈ lw_tbl := in_pl [584, 33, 585, 586, 588, 34, 589, 590, 592, 35, 593, 594, 596, 36, 597, 600, 37, 601, 950, 951, 952, 953, 954, 956] (by decide +kernel)
set_option maxRecDepth 20000 in
theorem wl_r22 : ∀ w ∈ wsL_law_r22, w ∈ lw_tbl := in_pl [73, 957, 958, 960, 74, 961, 786, 962, 964, 75, 965, 966, 968, 76, 969, 970, 972, 77, 973, 974, 976, 78, 977, 978] (by decide +kernel)
set_option maxRecDepth 20000 in
theorem wl_r23 : ∀ w ∈ wsL_law_r23, w ∈ lw_tbl := in_pl [980, 79, 981, 982, 984, 80, 985, 602, 603, 604, 605, 606, 608, 38, 609, 610, 612, 39, 613, 614, 615, 100, 616, 986] (by decide +kernel)
set_option maxRecDepth 20000 in
theorem wl_r24 : ∀ w ∈ wsL_law_r24, w ∈ lw_tbl := in_pl [987, 988, 989, 617, 618, 619, 620, 899, 900, 901, 902, 621, 622, 623, 624, 625, 627, 40, 628, 631, 41, 632, 635, 42] (by decide +kernel)
set_option maxRecDepth 20000 in
theorem wl_r25 : ∀ w ∈ wsL_law_r25, w ∈ lw_tbl := in_pl [636, 637, 638, 990, 991, 992, 993, 994, 996, 81, 997, 998, 1000, 82, 1001, 1002, 1004, 83, 1005, 639, 640, 641, 642, 1006] (by decide +kernel)
set_option maxRecDepth 20000 in
theorem wl_r26 : ∀ w ∈ wsL_law_r26, w ∈ lw_tbl := in_pl [1007, 1008, 1009, 644, 645, 646, 647, 1010, 1011, 1012, 1013, 648, 649, 650, 651, 652, 653, 654, 1014, 1015, 1016, 1017, 655, 656] (by decide +kernel)
set_option maxRecDepth 20000 in
theorem wl_r27 : ∀ w ∈ wsL_law_r27, w ∈ lw_tbl := in_pl [657, 658, 661, 43, 662, 663, 665, 44, 666, 669, 45, 670, 671, 672, 673, 676, 46, 677, 678, 681, 47, 682, 683, 685] (by decide +kernel)
set_option maxRecDepth 20000 in
theorem wl_r28 : ∀ w ∈ wsL_law_r28, w ∈ lw_tbl := in_pl [48, 686, 687, 688, 690, 49, 691, 1018, 1019, 1020, 1021, 1022, 1023, 1024, 1025, 1027, 84, 1028, 1029, 1031, 85, 1032, 1033, 1035] (by decide +kernel)
set_option maxRecDepth 20000 in
theorem wl_r29 : ∀ w ∈ wsL_law_r29, w ∈ lw_tbl := in_pl [86, 1036, 692, 693, 694, 695, 1037, 1038, 1039, 1040, 696, 697, 698, 699, 1041, 1042, 1043, 1044, 700, 701, 702, 703, 704, 1045] (by decide +kernel)
set_option maxRecDepth 20000 in
theorem wl_r30 : ∀ w ∈ wsL_law_r30, w ∈ lw_tbl := in_pl [1046, 1047, 1048, 705, 706, 707, 708, 1049, 1050, 1051, 1052, 709, 710, 711, 712, 713, 715, 50, 716, 1053, 1054, 1055, 1056, 718] (by decide +kernel)
set_option maxRecDepth 20000 in
theorem wl_r31 : ∀ w ∈ wsL_law_r31, w ∈ lw_tbl := in_pl [719, 720, 721, 1057, 1058, 1059, 1060, 722, 723, 724, 725, 728, 51, 729, 730, 732, 52, 733, 1061, 1062, 1063, 1064, 734, 735] (by decide +kernel)
set_option maxRecDepth 20000 in
theorem wl_r32 : ∀ w ∈ wsL_law_r32, w ∈ lw_tbl := in_pl [736, 737, 738, 740, 53, 741, 1065, 1066, 1067, 1068] (by decide +kernel)
set_option maxRecDepth 20000 in
theorem wl_wsX00 : ∀ w ∈ wsX00, w ∈ lw_tbl := in_pl [201, 203, 205, 207, 209] (by decide +kernel)
set_option maxRecDepth 20000 in
theorem wl_wsX10 : ∀ w ∈ wsX10, w ∈ lw_tbl := in_pl [158, 160, 162, 164, 166, 168, 170, 172, 174, 176] (by decide +kernel)
set_option maxRecDepth 20000 in
theorem wl_wsX20 : ∀ w ∈ wsX20, w ∈ lw_tbl := in_pl [280, 282, 284, 286, 288, 290, 292, 294, 296] (by decide +kernel)
set_option maxRecDepth 20000 in
theorem wl_wsX30 : ∀ w ∈ wsX30, w ∈ lw_tbl := in_pl [235, 237, 239, 241, 243, 245, 247, 249, 251, 253] (by decide +kernel)
set_option maxRecDepth 20000 in
theorem wl_wsX40 : ∀ w ∈ wsX40, w ∈ lw_tbl := in_pl [120, 122, 124] (by decide +kernel)
set_option maxRecDepth 20000 in
theorem wl_wsX50 : ∀ w ∈ wsX50, w ∈ lw_tbl := in_pl [419, 421, 423, 425, 427, 429, 431, 433, 435] (by decide +kernel)
set_option maxRecDepth 20000 in
theorem wl_wsX60 : ∀ w ∈ wsX60, w ∈ lw_tbl := in_pl [787, 789, 791, 793, 795, 797, 799, 801, 803, 805, 807, 809, 811, 813, 815, 817, 819, 821, 823, 825, 827, 829, 831] (by decide +kernel)
theorem wsL_law_in : ∀ w ∈ wsL_law, w ∈ lw_tbl := (List.forall_mem_append.mpr ⟨(List.forall_mem_append.mpr ⟨(List.forall_mem_append.mpr ⟨(List.forall_mem_append.mpr ⟨(List.forall_mem_append.mpr ⟨(List.forall_mem_append.mpr ⟨(List.forall_mem_append.mpr ⟨(List.forall_mem_append.mpr ⟨(List.forall_mem_append.mpr ⟨wl_r1, List.forall_mem_append.mpr ⟨wl_r2, List.forall_mem_append.mpr ⟨wl_r3, List.forall_mem_append.mpr ⟨wl_r4, List.forall_mem_append.mpr ⟨wl_r5, List.forall_mem_append.mpr ⟨wl_r6, List.forall_mem_append.mpr ⟨wl_r7, List.forall_mem_append.mpr ⟨wl_r8, List.forall_mem_append.mpr ⟨wl_r9, List.forall_mem_append.mpr ⟨wl_r10, List.forall_mem_append.mpr ⟨wl_r11, List.forall_mem_append.mpr ⟨wl_r12, List.forall_mem_append.mpr ⟨wl_r13, List.forall_mem_append.mpr ⟨wl_r14, List.forall_mem_append.mpr ⟨wl_r15, List.forall_mem_append.mpr ⟨wl_r16, List.forall_mem_append.mpr ⟨wl_r17, List.forall_mem_append.mpr ⟨wl_r18, List.forall_mem_append.mpr ⟨wl_r19, List.forall_mem_append.mpr ⟨wl_r20, List.forall_mem_append.mpr ⟨wl_r21, List.forall_mem_append.mpr ⟨wl_r22, List.forall_mem_append.mpr ⟨wl_r23, List.forall_mem_append.mpr ⟨wl_r24, List.forall_mem_append.mpr ⟨wl_r25, List.forall_mem_append.mpr ⟨wl_r26, List.forall_mem_append.mpr ⟨wl_r27, List.forall_mem_append.mpr ⟨wl_r28, List.forall_mem_append.mpr ⟨wl_r29, List.forall_mem_append.mpr ⟨wl_r30, List.forall_mem_append.mpr ⟨wl_r31, wl_r32⟩⟩⟩⟩⟩⟩⟩⟩⟩⟩⟩⟩⟩⟩⟩⟩⟩⟩⟩⟩⟩⟩⟩⟩⟩⟩⟩⟩⟩⟩⟩), wl_wsX50⟩), wl_wsX60⟩), wl_wsX40⟩), wl_wsX10⟩), wl_wsX30⟩), wl_wsX20⟩), wl_wsX00⟩), fun _ h => absurd h List.not_mem_nil⟩)
