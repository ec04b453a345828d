theorem pl_in {big ws : List Cond} (ps : List Nat) (hp : ws = ps.filterMap (fun i => big[i]?)) : ∀ w ∈ ws, w ∈ big := by
  intro w hw
  rw [hp] at hw
  obtain ⟨i, -, hi⟩ := List.mem_filterMap.mp hw
  exact List.mem_of_getElem? hi
theorem in_app {a b c : List Cond} (h1 : ∀ w ∈ a, w ∈ c) (h2 : ∀ w ∈ b, w ∈ c) : ∀ w ∈ a ++ b, w ∈ c := fun w h => (List.mem_append.mp h).elim (h1 w) (h2 w)
set_option maxRecDepth 20000 in
theorem in_wsL_law0_r1 : ∀ w ∈ wsL_law0_r1, w ∈ lw_tbl := pl_in [42, 43, 30, 704, 705, 34, 979, 980, 44, 45, 46, 47, 48, 49, 50, 90, 52, 91, 54, 31, 92, 64, 32, 93] (by decide +kernel)
set_option maxRecDepth 20000 in
theorem in_wsL_law0_r2 : ∀ w ∈ wsL_law0_r2, w ∈ lw_tbl := pl_in [74, 75, 33, 94, 73, 95, 56, 57, 58, 63, 59, 66, 67, 68, 69, 77, 78, 79, 80, 81, 82, 706, 707, 708] (by decide +kernel)
set_option maxRecDepth 20000 in
theorem in_wsL_law0_r3 : ∀ w ∈ wsL_law0_r3, w ∈ lw_tbl := pl_in [709, 710, 715, 712, 716, 334, 335, 29, 336, 337, 338, 339, 340, 341, 342, 114, 116, 0, 117, 122, 38, 118, 120, 1] (by decide +kernel)
set_option maxRecDepth 20000 in
theorem in_wsL_law0_r4 : ∀ w ∈ wsL_law0_r4, w ∈ lw_tbl := pl_in [121, 343, 344, 345, 346, 39, 362, 363, 364, 366, 367, 368, 369, 370, 371, 372, 373, 374, 375, 376, 280, 40, 281, 202] (by decide +kernel)
set_option maxRecDepth 20000 in
theorem in_wsL_law0_r5 : ∀ w ∈ wsL_law0_r5, w ∈ lw_tbl := pl_in [203, 204, 205, 377, 378, 379, 380, 728, 729, 730, 731, 714, 732, 733, 734, 735, 736, 737, 738, 740, 19, 741, 742, 743] (by decide +kernel)
set_option maxRecDepth 20000 in
theorem in_wsL_law0_r6 : ∀ w ∈ wsL_law0_r6, w ∈ lw_tbl := pl_in [744, 745, 746, 747, 724, 725, 726, 727, 381, 382, 383, 384, 385, 386, 387, 309, 388, 389, 390, 391, 198, 199, 200, 201] (by decide +kernel)
set_option maxRecDepth 20000 in
theorem in_wsL_law0_r7 : ∀ w ∈ wsL_law0_r7, w ∈ lw_tbl := pl_in [748, 749, 750, 751, 752, 753, 754, 392, 393, 394, 395, 396, 397, 398, 399, 401, 15, 402, 403, 404, 405, 406, 407, 408] (by decide +kernel)
set_option maxRecDepth 20000 in
theorem in_wsL_law0_r8 : ∀ w ∈ wsL_law0_r8, w ∈ lw_tbl := pl_in [409, 410, 411, 412, 413, 414, 415, 416, 417, 418, 419, 420, 421, 422, 423, 425, 16, 426, 206, 207, 208, 209, 210, 211] (by decide +kernel)
set_option maxRecDepth 20000 in
theorem in_wsL_law0_r9 : ∀ w ∈ wsL_law0_r9, w ∈ lw_tbl := pl_in [213, 5, 214, 215, 217, 6, 218, 250, 251, 252, 253, 231, 232, 233, 234, 235, 236, 237, 238, 239, 240, 241, 242, 243] (by decide +kernel)
set_option maxRecDepth 20000 in
theorem in_wsL_law0_r10 : ∀ w ∈ wsL_law0_r10, w ∈ lw_tbl := pl_in [244, 245, 246, 248, 249, 427, 428, 429, 431, 17, 432, 219, 220, 221, 222, 755, 756, 757, 758, 759, 760, 761, 762, 763] (by decide +kernel)
set_option maxRecDepth 20000 in
theorem in_wsL_law0_r11 : ∀ w ∈ wsL_law0_r11, w ∈ lw_tbl := pl_in [764, 771, 765, 766, 767, 768, 769, 770, 772, 773, 774, 775, 776, 777, 433, 434, 435, 436, 437, 438, 439, 440, 441, 442] (by decide +kernel)
set_option maxRecDepth 20000 in
theorem in_wsL_law0_r12 : ∀ w ∈ wsL_law0_r12, w ∈ lw_tbl := pl_in [444, 445, 446, 447, 778, 779, 780, 781, 782, 783, 784, 448, 449, 450, 451, 452, 453, 454, 456, 457, 458, 459, 785, 786] (by decide +kernel)
set_option maxRecDepth 20000 in
theorem in_wsL_law0_r13 : ∀ w ∈ wsL_law0_r13, w ∈ lw_tbl := pl_in [787, 788, 460, 461, 462, 463, 464, 465, 466, 194, 196, 4, 197, 223, 224, 225, 226, 227, 228, 229, 230, 254, 789, 790] (by decide +kernel)
set_option maxRecDepth 20000 in
theorem in_wsL_law0_r14 : ∀ w ∈ wsL_law0_r14, w ∈ lw_tbl := pl_in [791, 792, 793, 795, 20, 796, 797, 798, 799, 800, 801, 802, 803, 804, 805, 806, 807, 808, 467, 468, 469, 470, 471, 472] (by decide +kernel)
set_option maxRecDepth 20000 in
theorem in_wsL_law0_r15 : ∀ w ∈ wsL_law0_r15, w ∈ lw_tbl := pl_in [473, 255, 809, 810, 811, 812, 813, 814, 815, 816, 817, 818, 475, 476, 477, 478, 479, 480, 481, 482, 483, 484, 819, 820] (by decide +kernel)
set_option maxRecDepth 20000 in
theorem in_wsL_law0_r16 : ∀ w ∈ wsL_law0_r16, w ∈ lw_tbl := pl_in [821, 822, 486, 487, 488, 489, 490, 491, 492, 823, 824, 825, 826, 493, 494, 495, 496, 497, 498, 499, 500, 501, 502, 503] (by decide +kernel)
set_option maxRecDepth 20000 in
theorem in_wsL_law0_r17 : ∀ w ∈ wsL_law0_r17, w ∈ lw_tbl := pl_in [504, 505, 506, 827, 828, 829, 830, 507, 508, 509, 510, 511, 512, 513, 256, 258, 7, 259, 296, 272, 273, 274, 515, 516] (by decide +kernel)
set_option maxRecDepth 20000 in
theorem in_wsL_law0_r18 : ∀ w ∈ wsL_law0_r18, w ∈ lw_tbl := pl_in [517, 518, 282, 283, 284, 279, 267, 268, 269, 270, 271, 831, 832, 833, 834, 835, 836, 837, 838, 839, 840, 841, 842, 843] (by decide +kernel)
set_option maxRecDepth 20000 in
theorem in_wsL_law0_r19 : ∀ w ∈ wsL_law0_r19, w ∈ lw_tbl := pl_in [844, 519, 520, 521, 522, 523, 524, 525, 845, 846, 847, 848, 527, 528, 529, 530, 531, 532, 533, 534, 535, 536, 537, 538] (by decide +kernel)
set_option maxRecDepth 20000 in
theorem in_wsL_law0_r20 : ∀ w ∈ wsL_law0_r20, w ∈ lw_tbl := pl_in [849, 850, 851, 852, 853, 854, 855, 539, 540, 541, 542, 543, 544, 545, 547, 549, 18, 550, 551, 552, 553, 554, 555, 556] (by decide +kernel)
set_option maxRecDepth 20000 in
theorem in_wsL_law0_r21 : ∀ w ∈ wsL_law0_r21, w ∈ lw_tbl := pl_in [557, 558, 559, 560, 561, 562, 563, 564, 565, 566, 567, 568, 569, 570, 571, 573, 574, 575, 576, 577, 578, 579, 580, 581] (by decide +kernel)
set_option maxRecDepth 20000 in
theorem in_wsL_law0_r22 : ∀ w ∈ wsL_law0_r22, w ∈ lw_tbl := pl_in [286, 287, 288, 582, 583, 584, 585, 586, 276, 277, 278, 856, 857, 858, 859, 860, 861, 862, 863, 864, 865, 866, 867, 868] (by decide +kernel)
set_option maxRecDepth 20000 in
theorem in_wsL_law0_r23 : ∀ w ∈ wsL_law0_r23, w ∈ lw_tbl := pl_in [587, 588, 589, 590, 591, 592, 593, 594, 595, 596, 301, 303, 9, 304, 305, 307, 10, 308, 869, 870, 871, 872, 873, 875] (by decide +kernel)
set_option maxRecDepth 20000 in
theorem in_wsL_law0_r24 : ∀ w ∈ wsL_law0_r24, w ∈ lw_tbl := pl_in [21, 876, 598, 599, 600, 601, 602, 603, 604, 877, 878, 879, 880, 605, 606, 607, 608, 609, 610, 611, 264, 265, 266, 275] (by decide +kernel)
set_option maxRecDepth 20000 in
theorem in_wsL_law0_r25 : ∀ w ∈ wsL_law0_r25, w ∈ lw_tbl := pl_in [285, 289, 290, 291, 292, 293, 294, 295, 881, 882, 883, 884, 885, 887, 22, 888, 889, 890, 891, 612, 613, 614, 615, 616] (by decide +kernel)
set_option maxRecDepth 20000 in
theorem in_wsL_law0_r26 : ∀ w ∈ wsL_law0_r26, w ∈ lw_tbl := pl_in [617, 618, 892, 893, 894, 895, 619, 620, 621, 622, 623, 624, 625, 626, 627, 628, 896, 897, 898, 899, 900, 902, 23, 903] (by decide +kernel)
set_option maxRecDepth 20000 in
theorem in_wsL_law0_r27 : ∀ w ∈ wsL_law0_r27, w ∈ lw_tbl := pl_in [629, 630, 631, 632, 633, 634, 635, 904, 905, 906, 907, 636, 637, 638, 639, 640, 641, 642, 297, 299, 8, 300, 908, 909] (by decide +kernel)
set_option maxRecDepth 20000 in
theorem in_wsL_law0_r28 : ∀ w ∈ wsL_law0_r28, w ∈ lw_tbl := pl_in [910, 911, 912, 914, 24, 915, 643, 644, 645, 646, 647, 648, 649, 322, 324, 13, 325, 326, 328, 14, 329, 330, 331, 332] (by decide +kernel)
set_option maxRecDepth 20000 in
theorem in_wsL_law0_r29 : ∀ w ∈ wsL_law0_r29, w ∈ lw_tbl := pl_in [333, 916, 917, 918, 919, 920, 922, 25, 923, 924, 926, 925, 41, 927, 928, 929, 650, 651, 652, 653, 654, 655, 656, 930] (by decide +kernel)
set_option maxRecDepth 20000 in
theorem in_wsL_law0_r30 : ∀ w ∈ wsL_law0_r30, w ∈ lw_tbl := pl_in [931, 932, 933, 658, 659, 660, 661, 662, 663, 664, 310, 312, 11, 313, 314, 316, 12, 317, 318, 319, 320, 321, 934, 935] (by decide +kernel)
set_option maxRecDepth 20000 in
theorem in_wsL_law0_r31 : ∀ w ∈ wsL_law0_r31, w ∈ lw_tbl := pl_in [936, 937, 938, 940, 26, 941, 942, 944, 27, 945, 665, 666, 667, 668, 669, 670, 671, 946, 947, 948, 949, 672, 673, 674] (by decide +kernel)
set_option maxRecDepth 20000 in
theorem in_wsL_law0_r32 : ∀ w ∈ wsL_law0_r32, w ∈ lw_tbl := pl_in [675, 676, 677, 678, 950, 951, 952, 953, 954, 955, 956, 679, 680, 681, 682, 683, 684, 685, 957, 958, 959, 960, 961, 963] (by decide +kernel)
set_option maxRecDepth 20000 in
theorem in_wsL_law0_r33 : ∀ w ∈ wsL_law0_r33, w ∈ lw_tbl := pl_in [28, 964, 686, 687, 688, 689, 690, 691, 692, 965, 966, 967, 968, 694, 695, 696, 697, 698, 699, 700, 701, 702, 703, 969] (by decide +kernel)
set_option maxRecDepth 20000 in
theorem in_wsL_law0_r34 : ∀ w ∈ wsL_law0_r34, w ∈ lw_tbl := pl_in [970, 971, 972, 109, 110, 111, 112, 113, 193, 189, 191, 3, 192, 261, 262, 263, 973, 974, 975, 976, 977, 978] (by decide +kernel)
theorem in_wsX30 : ∀ w ∈ wsX30, w ∈ lw_tbl := by decide +kernel
theorem in_wsX40 : ∀ w ∈ wsX40, w ∈ lw_tbl := by decide +kernel
theorem in_wsX00 : ∀ w ∈ wsX00, w ∈ lw_tbl := by decide +kernel
theorem in_wsX20 : ∀ w ∈ wsX20, w ∈ lw_tbl := by decide +kernel
theorem in_wsX10 : ∀ w ∈ wsX10, w ∈ lw_tbl := by decide +kernel
theorem wsL_law_in0 : ∀ w ∈ wsL_law0, w ∈ lw_tbl := in_app (in_app (in_app (in_app (in_app (in_app (in_app in_wsL_law0_r1 (in_app in_wsL_law0_r2 (in_app in_wsL_law0_r3 (in_app in_wsL_law0_r4 (in_app in_wsL_law0_r5 (in_app in_wsL_law0_r6 (in_app in_wsL_law0_r7 (in_app in_wsL_law0_r8 (in_app in_wsL_law0_r9 (in_app in_wsL_law0_r10 (in_app in_wsL_law0_r11 (in_app in_wsL_law0_r12 (in_app in_wsL_law0_r13 (in_app in_wsL_law0_r14 (in_app in_wsL_law0_r15 (in_app in_wsL_law0_r16 (in_app in_wsL_law0_r17 (in_app in_wsL_law0_r18 (in_app in_wsL_law0_r19 (in_app in_wsL_law0_r20 (in_app in_wsL_law0_r21 (in_app in_wsL_law0_r22 (in_app in_wsL_law0_r23 (in_app in_wsL_law0_r24 (in_app in_wsL_law0_r25 (in_app in_wsL_law0_r26 (in_app in_wsL_law0_r27 (in_app in_wsL_law0_r28 (in_app in_wsL_law0_r29 (in_app in_wsL_law0_r30 (in_app in_wsL_law0_r31 (in_app in_wsL_law0_r32 (in_app in_wsL_law0_r33 (in_wsL_law0_r34)))))))))))))))))))))))))))))))))) in_wsX30) in_wsX40) in_wsX00) in_wsX20) in_wsX10) (fun w h => absurd h List.not_mem_nil)
