theorem app_in {a b T : List Cond} (h : ∀ w ∈ a, w ∈ T) (h2 : ∀ w ∈ b, w ∈ T) : ∀ w ∈ a ++ b, w ∈ T := List.forall_mem_append.mpr ⟨h, h2⟩
theorem pl_in {T : List Cond} (ws : List Cond) (ps : List Nat) (h : ws = ps.filterMap (fun i => T[i]?)) : ∀ w ∈ ws, w ∈ T := by
  intro w hw
  rw [h, List.mem_filterMap] at hw
  obtain ⟨i, -, hi⟩ := hw
  exact List.mem_of_getElem? hi
set_option maxRecDepth 100000 in
theorem in_wsL_law_r1 : ∀ w ∈ wsL_law_r1, w ∈ lw_tbl := pl_in _ [64, 65, 46, 738, 739, 54, 66, 67, 68, 69, 70, 71, 72, 73, 47, 74, 220, 90, 91, 48, 221, 112, 113, 49] rfl
set_option maxRecDepth 100000 in
theorem in_wsL_law_r2 : ∀ w ∈ wsL_law_r2, w ∈ lw_tbl := pl_in _ [222, 129, 130, 50, 223, 182, 183, 51, 224, 206, 207, 53, 225, 226, 75, 76, 77, 78, 79, 89, 80, 81, 92, 93] rfl
set_option maxRecDepth 100000 in
theorem in_wsL_law_r3 : ∀ w ∈ wsL_law_r3, w ∈ lw_tbl := pl_in _ [94, 95, 96, 97, 99, 102, 103, 98, 114, 115, 116, 117, 118, 120, 122, 119, 131, 132, 133, 134, 136, 184, 185, 186] rfl
set_option maxRecDepth 100000 in
theorem in_wsL_law_r4 : ∀ w ∈ wsL_law_r4, w ∈ lw_tbl := pl_in _ [187, 188, 201, 190, 191, 192, 52, 193, 1087, 194, 195, 196, 197, 198, 1088, 200, 208, 209, 210, 211, 212, 213, 215, 214] rfl
set_option maxRecDepth 100000 in
theorem in_wsL_law_r5 : ∀ w ∈ wsL_law_r5, w ∈ lw_tbl := pl_in _ [740, 741, 742, 743, 744, 746, 745, 748, 752, 864, 753, 754, 755, 756, 759, 760, 763, 780, 242, 243, 244, 245, 250, 246] rfl
set_option maxRecDepth 100000 in
theorem in_wsL_law_r6 : ∀ w ∈ wsL_law_r6, w ∈ lw_tbl := pl_in _ [247, 248, 249, 251, 252, 253, 254, 255, 256, 257, 258, 259, 261, 0, 262, 263, 264, 55, 265, 266, 267, 268, 269, 271] rfl
set_option maxRecDepth 100000 in
theorem in_wsL_law_r7 : ∀ w ∈ wsL_law_r7, w ∈ lw_tbl := pl_in _ [270, 56, 865, 866, 867, 868, 747, 869, 871, 17, 872, 272, 273, 274, 275, 276, 277, 278, 279, 873, 874, 875, 876, 280] rfl
set_option maxRecDepth 100000 in
theorem in_wsL_law_r8 : ∀ w ∈ wsL_law_r8, w ∈ lw_tbl := pl_in _ [281, 282, 283, 284, 285, 286, 287, 288, 289, 290, 291, 292, 293, 294, 295, 296, 297, 298, 299, 300, 301, 302, 303, 304] rfl
set_option maxRecDepth 100000 in
theorem in_wsL_law_r9 : ∀ w ∈ wsL_law_r9, w ∈ lw_tbl := pl_in _ [877, 878, 879, 880, 749, 750, 757, 758, 761, 762, 305, 306, 307, 308, 309, 310, 311, 312, 313, 314, 315, 316, 317, 319] rfl
set_option maxRecDepth 100000 in
theorem in_wsL_law_r10 : ∀ w ∈ wsL_law_r10, w ∈ lw_tbl := pl_in _ [1, 320, 322, 323, 324, 325, 326, 327, 328, 329, 330, 331, 332, 333, 334, 335, 336, 337, 57, 338, 339, 340, 341, 342] rfl
set_option maxRecDepth 100000 in
theorem in_wsL_law_r11 : ∀ w ∈ wsL_law_r11, w ∈ lw_tbl := pl_in _ [344, 345, 58, 346, 347, 348, 59, 349, 350, 351, 352, 353, 354, 355, 356, 357, 358, 359, 360, 362, 364, 366, 367, 368] rfl
set_option maxRecDepth 100000 in
theorem in_wsL_law_r12 : ∀ w ∈ wsL_law_r12, w ∈ lw_tbl := pl_in _ [369, 370, 372, 373, 374, 375, 376, 378, 2, 379, 380, 381, 383, 3, 384, 385, 386, 387, 388, 389, 390, 60, 391, 392] rfl
set_option maxRecDepth 100000 in
theorem in_wsL_law_r13 : ∀ w ∈ wsL_law_r13, w ∈ lw_tbl := pl_in _ [394, 4, 395, 396, 398, 5, 399, 881, 882, 883, 884, 751, 885, 887, 18, 888, 889, 891, 19, 892, 893, 894, 896, 20] rfl
set_option maxRecDepth 100000 in
theorem in_wsL_law_r14 : ∀ w ∈ wsL_law_r14, w ∈ lw_tbl := pl_in _ [897, 400, 401, 402, 403, 404, 898, 899, 900, 901, 405, 406, 407, 408, 561, 409, 410, 411, 412, 414, 413, 415, 416, 417] rfl
set_option maxRecDepth 100000 in
theorem in_wsL_law_r15 : ∀ w ∈ wsL_law_r15, w ∈ lw_tbl := pl_in _ [418, 419, 420, 421, 422, 423, 424, 425, 426, 427, 428, 429, 430, 431, 432, 433, 434, 435, 436, 438, 6, 439, 135, 138] rfl
set_option maxRecDepth 100000 in
theorem in_wsL_law_r16 : ∀ w ∈ wsL_law_r16, w ∈ lw_tbl := pl_in _ [139, 141, 143, 144, 145, 146, 148, 149, 150, 151, 152, 440, 441, 442, 444, 7, 445, 446, 448, 450, 451, 452, 453, 454] rfl
set_option maxRecDepth 100000 in
theorem in_wsL_law_r17 : ∀ w ∈ wsL_law_r17, w ∈ lw_tbl := pl_in _ [455, 456, 458, 8, 459, 460, 463, 465, 9, 466, 467, 468, 469, 470, 471, 472, 473, 474, 476, 477, 478, 479, 480, 481] rfl
set_option maxRecDepth 100000 in
theorem in_wsL_law_r18 : ∀ w ∈ wsL_law_r18, w ∈ lw_tbl := pl_in _ [482, 483, 484, 485, 486, 487, 491, 492, 488, 489, 490, 493, 494, 495, 496, 497, 498, 499, 500, 501, 502, 503, 504, 505] rfl
set_option maxRecDepth 100000 in
theorem in_wsL_law_r19 : ∀ w ∈ wsL_law_r19, w ∈ lw_tbl := pl_in _ [506, 507, 508, 509, 510, 511, 512, 513, 514, 515, 516, 517, 518, 519, 520, 521, 61, 522, 523, 524, 525, 526, 527, 528] rfl
set_option maxRecDepth 100000 in
theorem in_wsL_law_r20 : ∀ w ∈ wsL_law_r20, w ∈ lw_tbl := pl_in _ [529, 530, 531, 532, 533, 534, 535, 536, 537, 539, 10, 540, 542, 543, 544, 545, 546, 549, 550, 551, 552, 555, 557, 11] rfl
set_option maxRecDepth 100000 in
theorem in_wsL_law_r21 : ∀ w ∈ wsL_law_r21, w ∈ lw_tbl := pl_in _ [558, 563, 565, 12, 566, 582, 608, 617, 635, 648, 567, 568, 569, 570, 571, 573, 575, 576, 578, 580, 583, 584, 585, 586] rfl
set_option maxRecDepth 100000 in
theorem in_wsL_law_r22 : ∀ w ∈ wsL_law_r22, w ∈ lw_tbl := pl_in _ [587, 588, 589, 590, 591, 592, 593, 594, 595, 596, 597, 599, 600, 601, 602, 603, 604, 605, 606, 607, 609, 610, 611, 612] rfl
set_option maxRecDepth 100000 in
theorem in_wsL_law_r23 : ∀ w ∈ wsL_law_r23, w ∈ lw_tbl := pl_in _ [613, 615, 13, 616, 619, 620, 621, 622, 623, 624, 625, 626, 627, 628, 629, 630, 631, 632, 633, 634, 637, 638, 639, 640] rfl
set_option maxRecDepth 100000 in
theorem in_wsL_law_r24 : ∀ w ∈ wsL_law_r24, w ∈ lw_tbl := pl_in _ [641, 642, 643, 644, 646, 650, 651, 652, 653, 654, 655, 656, 657, 669, 670, 671, 672, 685, 693, 703, 674, 675, 677, 14] rfl
set_option maxRecDepth 100000 in
theorem in_wsL_law_r25 : ∀ w ∈ wsL_law_r25, w ∈ lw_tbl := pl_in _ [678, 679, 680, 681, 682, 683, 686, 687, 689, 15, 690, 694, 696, 697, 699, 16, 700, 702, 706, 707, 708, 709, 710, 711] rfl
set_option maxRecDepth 100000 in
theorem in_wsL_law_r26 : ∀ w ∈ wsL_law_r26, w ∈ lw_tbl := pl_in _ [712, 902, 903, 904, 905, 906, 766, 765, 907, 909, 21, 910, 911, 913, 22, 914, 915, 917, 23, 918, 919, 921, 24, 922] rfl
set_option maxRecDepth 100000 in
theorem in_wsL_law_r27 : ∀ w ∈ wsL_law_r27, w ∈ lw_tbl := pl_in _ [764, 767, 768, 769, 770, 771, 772, 773, 774, 775, 776, 777, 923, 925, 25, 926, 927, 929, 26, 930, 931, 933, 27, 934] rfl
set_option maxRecDepth 100000 in
theorem in_wsL_law_r28 : ∀ w ∈ wsL_law_r28, w ∈ lw_tbl := pl_in _ [782, 778, 779, 935, 937, 28, 938, 940, 942, 29, 943, 944, 945, 949, 951, 30, 952, 783, 784, 953, 954, 955, 956, 957] rfl
set_option maxRecDepth 100000 in
theorem in_wsL_law_r29 : ∀ w ∈ wsL_law_r29, w ∈ lw_tbl := pl_in _ [958, 959, 960, 961, 962, 963, 964, 966, 968, 31, 969, 972, 974, 32, 975, 976, 978, 980, 33, 981, 985, 987, 34, 988] rfl
set_option maxRecDepth 100000 in
theorem in_wsL_law_r30 : ∀ w ∈ wsL_law_r30, w ∈ lw_tbl := pl_in _ [989, 991, 35, 992, 781, 993, 994, 995, 997, 999, 36, 1000, 1001, 1003, 37, 1004, 1006, 1007, 1008, 1009, 1011, 38, 1012, 1014] rfl
set_option maxRecDepth 100000 in
theorem in_wsL_law_r31 : ∀ w ∈ wsL_law_r31, w ∈ lw_tbl := pl_in _ [1016, 39, 1017, 1018, 1020, 40, 1021, 1022, 1024, 41, 1025, 1026, 1027, 1028, 1038, 1040, 42, 1041, 1044, 1046, 43, 1047, 1049, 1051] rfl
set_option maxRecDepth 100000 in
theorem in_wsL_law_r32 : ∀ w ∈ wsL_law_r32, w ∈ lw_tbl := pl_in _ [44, 1052, 713, 714, 715, 716, 1066, 1067, 1068, 1069, 717, 718, 719, 720, 1070, 1071, 1072, 1073, 721, 722, 723, 724, 1074, 1075] rfl
set_option maxRecDepth 100000 in
theorem in_wsL_law_r33 : ∀ w ∈ wsL_law_r33, w ∈ lw_tbl := pl_in _ [1076, 1077, 725, 726, 727, 728, 729, 1078, 1079, 1080, 1081, 1082, 730, 731, 732, 733, 734, 735, 736, 737, 1083, 1084, 1085, 1086] rfl
set_option maxRecDepth 100000 in
theorem in_wsX80 : ∀ w ∈ wsX80, w ∈ lw_tbl := by decide +kernel
set_option maxRecDepth 100000 in
theorem in_wsX90 : ∀ w ∈ wsX90, w ∈ lw_tbl := by decide +kernel
set_option maxRecDepth 100000 in
theorem in_wsX40 : ∀ w ∈ wsX40, w ∈ lw_tbl := by decide +kernel
set_option maxRecDepth 100000 in
theorem in_wsX60 : ∀ w ∈ wsX60, w ∈ lw_tbl := by decide +kernel
set_option maxRecDepth 100000 in
theorem in_wsX70 : ∀ w ∈ wsX70, w ∈ lw_tbl := by decide +kernel
set_option maxRecDepth 100000 in
theorem in_wsX20 : ∀ w ∈ wsX20, w ∈ lw_tbl := by decide +kernel
set_option maxRecDepth 100000 in
theorem in_wsX30 : ∀ w ∈ wsX30, w ∈ lw_tbl := by decide +kernel
set_option maxRecDepth 100000 in
theorem in_wsX00 : ∀ w ∈ wsX00, w ∈ lw_tbl := by decide +kernel
theorem in_wsNIL : ∀ w ∈ ([] : List Cond), w ∈ lw_tbl := fun _ h => absurd h List.not_mem_nil
theorem wsL_law_in : ∀ w ∈ wsL_law, w ∈ lw_tbl := (app_in (app_in (app_in (app_in (app_in (app_in (app_in (app_in (app_in (app_in in_wsL_law_r1 (app_in in_wsL_law_r2 (app_in in_wsL_law_r3 (app_in in_wsL_law_r4 (app_in in_wsL_law_r5 (app_in in_wsL_law_r6 (app_in in_wsL_law_r7 (app_in in_wsL_law_r8 (app_in in_wsL_law_r9 (app_in in_wsL_law_r10 (app_in in_wsL_law_r11 (app_in in_wsL_law_r12 (app_in in_wsL_law_r13 (app_in in_wsL_law_r14 (app_in in_wsL_law_r15 (app_in in_wsL_law_r16 (app_in in_wsL_law_r17 (app_in in_wsL_law_r18 (app_in in_wsL_law_r19 (app_in in_wsL_law_r20 (app_in in_wsL_law_r21 (app_in in_wsL_law_r22 (app_in in_wsL_law_r23 (app_in in_wsL_law_r24 (app_in in_wsL_law_r25 (app_in in_wsL_law_r26 (app_in in_wsL_law_r27 (app_in in_wsL_law_r28 (app_in in_wsL_law_r29 (app_in in_wsL_law_r30 (app_in in_wsL_law_r31 (app_in in_wsL_law_r32 in_wsL_law_r33)))))))))))))))))))))))))))))))) in_wsX80) in_wsX90) in_wsX40) in_wsX60) in_wsX70) in_wsX20) in_wsX30) in_wsX00) in_wsNIL)
