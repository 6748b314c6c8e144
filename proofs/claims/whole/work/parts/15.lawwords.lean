theorem mem_r {big : List Cond} (ws : List Cond) (ps : List Nat) (hp : ws = ps.filterMap (fun i => big[i]?)) : ∀ w ∈ ws, w ∈ big := by
  intro w hw
  rw [hp] at hw
  obtain ⟨i, -, hi⟩ := List.mem_filterMap.mp hw
  exact List.mem_of_getElem? hi
set_option maxRecDepth 20000 in
theorem lwi_r1 : ∀ w ∈ wsL_law0_r1, w ∈ lw_tbl := mem_r _ [52, 53, 36, 741, 742, 44, 980, 54, 55, 56, 57, 58, 59, 60, 61, 37, 261, 90, 91, 39, 262, 146, 147, 40] (by decide +kernel)
set_option maxRecDepth 20000 in
theorem lwi_r2 : ∀ w ∈ wsL_law0_r2, w ∈ lw_tbl := mem_r _ [263, 164, 165, 41, 264, 185, 186, 42, 265, 200, 201, 43, 266, 224, 67, 38, 267, 268, 269, 270, 63, 64, 65, 66] (by decide +kernel)
set_option maxRecDepth 20000 in
theorem lwi_r3 : ∀ w ∈ wsL_law0_r3, w ∈ lw_tbl := mem_r _ [77, 78, 68, 69, 70, 71, 76, 72, 92, 93, 94, 95, 96, 99, 101, 103, 106, 108, 111, 114, 116, 98, 97, 149] (by decide +kernel)
set_option maxRecDepth 20000 in
theorem lwi_r4 : ∀ w ∈ wsL_law0_r4, w ∈ lw_tbl := mem_r _ [150, 151, 152, 154, 155, 153, 167, 168, 169, 170, 172, 173, 171, 188, 189, 190, 191, 193, 194, 192, 202, 203, 204, 205] (by decide +kernel)
set_option maxRecDepth 20000 in
theorem lwi_r5 : ∀ w ∈ wsL_law0_r5, w ∈ lw_tbl := mem_r _ [206, 211, 212, 208, 209, 210, 207, 225, 226, 228, 0, 229, 272, 230, 231, 232, 233, 79, 80, 234, 235, 236, 237, 238] (by decide +kernel)
set_option maxRecDepth 20000 in
theorem lwi_r6 : ∀ w ∈ wsL_law0_r6, w ∈ lw_tbl := mem_r _ [239, 240, 241, 118, 121, 242, 243, 244, 245, 156, 246, 247, 248, 249, 250, 251, 252, 253, 174, 175, 254, 255, 256, 257] (by decide +kernel)
set_option maxRecDepth 20000 in
theorem lwi_r7 : ∀ w ∈ wsL_law0_r7, w ∈ lw_tbl := mem_r _ [258, 259, 260, 743, 744, 745, 746, 751, 752, 753, 758, 759, 760, 761, 762, 763, 764, 830, 765, 766, 767, 768, 769, 770] (by decide +kernel)
set_option maxRecDepth 20000 in
theorem lwi_r8 : ∀ w ∈ wsL_law0_r8, w ∈ lw_tbl := mem_r _ [771, 772, 773, 774, 775, 747, 749, 18, 750, 754, 755, 756, 757, 408, 409, 35, 410, 411, 412, 413, 414, 415, 416, 48] (by decide +kernel)
set_option maxRecDepth 20000 in
theorem lwi_r9 : ∀ w ∈ wsL_law0_r9, w ∈ lw_tbl := mem_r _ [302, 303, 304, 305, 835, 836, 837, 838, 839, 840, 841, 842, 844, 19, 845, 776, 831, 832, 833, 834, 486, 487, 488, 489] (by decide +kernel)
set_option maxRecDepth 20000 in
theorem lwi_r10 : ∀ w ∈ wsL_law0_r10, w ∈ lw_tbl := mem_r _ [490, 491, 492, 493, 494, 528, 50, 495, 497, 8, 498, 504, 49, 499, 500, 501, 502, 503, 521, 522, 523, 526, 375, 376] (by decide +kernel)
set_option maxRecDepth 20000 in
theorem lwi_r11 : ∀ w ∈ wsL_law0_r11, w ∈ lw_tbl := mem_r _ [527, 378, 379, 380, 310, 311, 312, 313, 544, 545, 546, 547, 548, 551, 552, 553, 554, 555, 556, 557, 558, 559, 560, 561] (by decide +kernel)
set_option maxRecDepth 20000 in
theorem lwi_r12 : ∀ w ∈ wsL_law0_r12, w ∈ lw_tbl := mem_r _ [562, 563, 564, 565, 566, 567, 568, 569, 570, 571, 572, 846, 847, 848, 849, 850, 852, 20, 853, 854, 855, 856, 857, 859] (by decide +kernel)
set_option maxRecDepth 20000 in
theorem lwi_r13 : ∀ w ∈ wsL_law0_r13, w ∈ lw_tbl := mem_r _ [21, 860, 573, 574, 575, 576, 577, 578, 579, 581, 583, 9, 584, 271, 585, 586, 587, 588, 318, 319, 320, 321, 589, 322] (by decide +kernel)
set_option maxRecDepth 20000 in
theorem lwi_r14 : ∀ w ∈ wsL_law0_r14, w ∈ lw_tbl := mem_r _ [590, 592, 10, 593, 594, 349, 350, 351, 595, 354, 355, 356, 357, 358, 359, 360, 361, 362, 363, 364, 365, 596, 597, 599] (by decide +kernel)
set_option maxRecDepth 20000 in
theorem lwi_r15 : ∀ w ∈ wsL_law0_r15, w ∈ lw_tbl := mem_r _ [11, 600, 601, 371, 372, 373, 602, 603, 604, 605, 606, 607, 609, 12, 610, 611, 613, 13, 614, 615, 616, 617, 618, 619] (by decide +kernel)
set_option maxRecDepth 20000 in
theorem lwi_r16 : ∀ w ∈ wsL_law0_r16, w ∈ lw_tbl := mem_r _ [620, 621, 622, 623, 624, 625, 626, 627, 628, 629, 630, 631, 632, 51, 633, 634, 635, 636, 637, 638, 639, 640, 641, 642] (by decide +kernel)
set_option maxRecDepth 20000 in
theorem lwi_r17 : ∀ w ∈ wsL_law0_r17, w ∈ lw_tbl := mem_r _ [643, 644, 645, 646, 648, 14, 649, 650, 651, 652, 653, 861, 862, 863, 864, 865, 867, 22, 868, 869, 871, 23, 872, 873] (by decide +kernel)
set_option maxRecDepth 20000 in
theorem lwi_r18 : ∀ w ∈ wsL_law0_r18, w ∈ lw_tbl := mem_r _ [875, 24, 876, 877, 879, 25, 880, 881, 883, 26, 884, 885, 887, 27, 888, 889, 890, 891, 892, 894, 28, 895, 896, 898] (by decide +kernel)
set_option maxRecDepth 20000 in
theorem lwi_r19 : ∀ w ∈ wsL_law0_r19, w ∈ lw_tbl := mem_r _ [29, 899, 900, 902, 30, 903, 654, 655, 656, 657, 658, 659, 660, 904, 905, 906, 907, 661, 662, 663, 664, 665, 666, 667] (by decide +kernel)
set_option maxRecDepth 20000 in
theorem lwi_r20 : ∀ w ∈ wsL_law0_r20, w ∈ lw_tbl := mem_r _ [668, 670, 15, 671, 673, 675, 16, 676, 908, 909, 910, 911, 912, 914, 31, 915, 298, 299, 300, 301, 306, 307, 308, 309] (by decide +kernel)
set_option maxRecDepth 20000 in
theorem lwi_r21 : ∀ w ∈ wsL_law0_r21, w ∈ lw_tbl := mem_r _ [314, 315, 316, 317, 916, 917, 918, 919, 323, 324, 325, 326, 920, 921, 922, 923, 327, 328, 329, 330, 924, 925, 926, 927] (by decide +kernel)
set_option maxRecDepth 20000 in
theorem lwi_r22 : ∀ w ∈ wsL_law0_r22, w ∈ lw_tbl := mem_r _ [331, 332, 333, 334, 928, 929, 930, 931, 678, 679, 680, 681, 682, 683, 684, 932, 933, 934, 935, 685, 686, 687, 688, 689] (by decide +kernel)
set_option maxRecDepth 20000 in
theorem lwi_r23 : ∀ w ∈ wsL_law0_r23, w ∈ lw_tbl := mem_r _ [690, 691, 693, 694, 695, 696, 936, 937, 938, 939, 697, 698, 699, 700, 701, 702, 703, 704, 705, 706, 707, 940, 941, 942] (by decide +kernel)
set_option maxRecDepth 20000 in
theorem lwi_r24 : ∀ w ∈ wsL_law0_r24, w ∈ lw_tbl := mem_r _ [943, 708, 709, 710, 711, 712, 713, 714, 715, 717, 17, 718, 944, 945, 946, 947, 948, 950, 32, 951, 720, 721, 722, 723] (by decide +kernel)
set_option maxRecDepth 20000 in
theorem lwi_r25 : ∀ w ∈ wsL_law0_r25, w ∈ lw_tbl := mem_r _ [724, 725, 726, 952, 953, 954, 955, 727, 728, 729, 730, 731, 732, 733, 956, 957, 958, 959, 734, 735, 736, 737, 738, 739] (by decide +kernel)
set_option maxRecDepth 20000 in
theorem lwi_r26 : ∀ w ∈ wsL_law0_r26, w ∈ lw_tbl := mem_r _ [740, 960, 961, 962, 963, 335, 336, 337, 338, 339, 340, 341, 342, 343, 344, 346, 1, 347, 348, 352, 353, 366, 368, 2] (by decide +kernel)
set_option maxRecDepth 20000 in
theorem lwi_r27 : ∀ w ∈ wsL_law0_r27, w ∈ lw_tbl := mem_r _ [369, 370, 377, 381, 382, 384, 3, 385, 964, 965, 966, 967, 968, 970, 33, 971, 386, 387, 388, 389, 390, 391, 392, 393] (by decide +kernel)
set_option maxRecDepth 20000 in
theorem lwi_r28 : ∀ w ∈ wsL_law0_r28, w ∈ lw_tbl := mem_r _ [394, 395, 397, 4, 398, 399, 400, 402, 5, 403, 404, 406, 6, 407, 972, 973, 974, 975, 976, 978, 34, 979] (by decide +kernel)
set_option maxRecDepth 20000 in
theorem lwx_7 : ∀ w ∈ wsX70, w ∈ lw_tbl := mem_r _ [273, 275, 277, 279, 281, 283, 285, 287, 289, 291, 293, 295] (by decide +kernel)
set_option maxRecDepth 20000 in
theorem lwx_8 : ∀ w ∈ wsX80, w ∈ lw_tbl := mem_r _ [777, 779, 781, 783, 785, 787, 789, 791, 793, 795, 797, 799, 801, 803, 805, 807, 809, 811, 813, 815, 817, 819, 821, 823, 825, 827] (by decide +kernel)
set_option maxRecDepth 20000 in
theorem lwx_3 : ∀ w ∈ wsX30, w ∈ lw_tbl := mem_r _ [81, 83, 85, 87] (by decide +kernel)
set_option maxRecDepth 20000 in
theorem lwx_4 : ∀ w ∈ wsX40, w ∈ lw_tbl := mem_r _ [123, 125, 127, 129, 131, 133, 135, 137, 139, 141, 143] (by decide +kernel)
set_option maxRecDepth 20000 in
theorem lwx_0 : ∀ w ∈ wsX00, w ∈ lw_tbl := mem_r _ [157, 159, 161] (by decide +kernel)
set_option maxRecDepth 20000 in
theorem lwx_2 : ∀ w ∈ wsX20, w ∈ lw_tbl := mem_r _ [176, 178, 180, 182] (by decide +kernel)
set_option maxRecDepth 20000 in
theorem lwx_6 : ∀ w ∈ wsX60, w ∈ lw_tbl := mem_r _ [195, 197] (by decide +kernel)
set_option maxRecDepth 20000 in
theorem lwx_1 : ∀ w ∈ wsX10, w ∈ lw_tbl := mem_r _ [213, 215, 217, 219, 221] (by decide +kernel)
set_option maxRecDepth 20000 in
theorem lwx_5 : ∀ w ∈ wsX50, w ∈ lw_tbl := mem_r _ [73] (by decide +kernel)
theorem lwr_all : ∀ w ∈ (wsL_law0_r1 ++ (wsL_law0_r2 ++ (wsL_law0_r3 ++ (wsL_law0_r4 ++ (wsL_law0_r5 ++ (wsL_law0_r6 ++ (wsL_law0_r7 ++ (wsL_law0_r8 ++ (wsL_law0_r9 ++ (wsL_law0_r10 ++ (wsL_law0_r11 ++ (wsL_law0_r12 ++ (wsL_law0_r13 ++ (wsL_law0_r14 ++ (wsL_law0_r15 ++ (wsL_law0_r16 ++ (wsL_law0_r17 ++ (wsL_law0_r18 ++ (wsL_law0_r19 ++ (wsL_law0_r20 ++ (wsL_law0_r21 ++ (wsL_law0_r22 ++ (wsL_law0_r23 ++ (wsL_law0_r24 ++ (wsL_law0_r25 ++ (wsL_law0_r26 ++ (wsL_law0_r27 ++ wsL_law0_r28))))))))))))))))))))))))))), w ∈ lw_tbl := List.forall_mem_append.mpr ⟨lwi_r1, List.forall_mem_append.mpr ⟨lwi_r2, List.forall_mem_append.mpr ⟨lwi_r3, List.forall_mem_append.mpr ⟨lwi_r4, List.forall_mem_append.mpr ⟨lwi_r5, List.forall_mem_append.mpr ⟨lwi_r6, List.forall_mem_append.mpr ⟨lwi_r7, List.forall_mem_append.mpr ⟨lwi_r8, List.forall_mem_append.mpr ⟨lwi_r9, List.forall_mem_append.mpr ⟨lwi_r10, List.forall_mem_append.mpr ⟨lwi_r11, List.forall_mem_append.mpr ⟨lwi_r12, List.forall_mem_append.mpr ⟨lwi_r13, List.forall_mem_append.mpr ⟨lwi_r14, List.forall_mem_append.mpr ⟨lwi_r15, List.forall_mem_append.mpr ⟨lwi_r16, List.forall_mem_append.mpr ⟨lwi_r17, List.forall_mem_append.mpr ⟨lwi_r18, List.forall_mem_append.mpr ⟨lwi_r19, List.forall_mem_append.mpr ⟨lwi_r20, List.forall_mem_append.mpr ⟨lwi_r21, List.forall_mem_append.mpr ⟨lwi_r22, List.forall_mem_append.mpr ⟨lwi_r23, List.forall_mem_append.mpr ⟨lwi_r24, List.forall_mem_append.mpr ⟨lwi_r25, List.forall_mem_append.mpr ⟨lwi_r26, List.forall_mem_append.mpr ⟨lwi_r27, lwi_r28⟩⟩⟩⟩⟩⟩⟩⟩⟩⟩⟩⟩⟩⟩⟩⟩⟩⟩⟩⟩⟩⟩⟩⟩⟩⟩⟩
theorem wsL_law_in0 : ∀ w ∈ wsL_law0, w ∈ lw_tbl := List.forall_mem_append.mpr ⟨List.forall_mem_append.mpr ⟨List.forall_mem_append.mpr ⟨List.forall_mem_append.mpr ⟨List.forall_mem_append.mpr ⟨List.forall_mem_append.mpr ⟨List.forall_mem_append.mpr ⟨List.forall_mem_append.mpr ⟨List.forall_mem_append.mpr ⟨List.forall_mem_append.mpr ⟨lwr_all, lwx_7⟩, lwx_8⟩, lwx_3⟩, lwx_4⟩, lwx_0⟩, lwx_2⟩, lwx_6⟩, lwx_1⟩, lwx_5⟩, fun _ h => absurd h List.not_mem_nil⟩
theorem wsL_law_x0 : ∀ w ∈ (vx_atS RX7 81 "java/lang/IllegalArgumentException" ["java/lang/RuntimeException", "java/lang/Exception"]).filter goodWord, w ∈ lw_tbl := by decide +kernel
theorem wsL_law_x1 : ∀ w ∈ (vx_atS RX7 114 "java/lang/IllegalStateException" ["java/lang/RuntimeException", "java/lang/Exception"]).filter goodWord, w ∈ lw_tbl := by decide +kernel
theorem wsL_law_x2 : ∀ w ∈ (vx_atS RX7 213 "java/lang/IndexOutOfBoundsException" ["java/lang/RuntimeException", "java/lang/Exception"]).filter goodWord, w ∈ lw_tbl := by decide +kernel
theorem wsL_law_in : ∀ w ∈ wsL_law, w ∈ lw_tbl := fun w h => (List.mem_append.mp h).elim (fun h => (List.mem_append.mp h).elim (fun h => (List.mem_append.mp h).elim (fun h => wsL_law_in0 w h) (fun h => wsL_law_x0 w h)) (fun h => wsL_law_x1 w h)) (fun h => wsL_law_x2 w h)
