/-! THE LAW'S WORDS LIE IN THE TABLES -/
theorem pl_in {big ws : List Cond} (ps : List Nat) (hp : ws = ps.filterMap (fun i => big[i]?)) : ∀ w ∈ ws, w ∈ big := by
  intro w hw
  rw [hp] at hw
  obtain ⟨i, -, hi⟩ := List.mem_filterMap.mp hw
  exact List.mem_of_getElem? hi
theorem in_app {a b c : List Cond} (h1 : ∀ w ∈ a, w ∈ c) (h2 : ∀ w ∈ b, w ∈ c) : ∀ w ∈ a ++ b, w ∈ c := fun w h => (List.mem_append.mp h).elim (h1 w) (h2 w)
set_option maxRecDepth 20000 in
theorem in_wsL_law0_r1 : ∀ w ∈ wsL_law0_r1, w ∈ lw_tbl := pl_in [512, 513, 21, 586, 753, 742, 26, 743, 514, 515, 516, 517, 72, 73, 518, 40, 22, 585, 589, 584, 546, 590, 587, 588] (by decide +kernel)
set_option maxRecDepth 20000 in
theorem in_wsL_law0_r2 : ∀ w ∈ wsL_law0_r2, w ∈ lw_tbl := pl_in [519, 520, 521, 522, 523, 562, 525, 563, 527, 23, 564, 537, 24, 565, 547, 191, 25, 566, 567, 529, 530, 531, 536, 532] (by decide +kernel)
set_option maxRecDepth 20000 in
theorem in_wsL_law0_r3 : ∀ w ∈ wsL_law0_r3, w ∈ lw_tbl := pl_in [539, 540, 541, 542, 549, 550, 551, 552, 553, 554, 614, 615, 616, 617, 618, 619, 620, 621, 622, 603, 604, 605, 607, 20] (by decide +kernel)
set_option maxRecDepth 20000 in
theorem in_wsL_law0_r4 : ∀ w ∈ wsL_law0_r4, w ∈ lw_tbl := pl_in [608, 609, 611, 612, 613, 623, 625, 19, 626, 627, 324, 325, 628, 225, 226, 629, 630, 631, 632, 633, 634, 635, 636, 637] (by decide +kernel)
set_option maxRecDepth 20000 in
theorem in_wsL_law0_r5 : ∀ w ∈ wsL_law0_r5, w ∈ lw_tbl := pl_in [638, 639, 641, 640, 27, 642, 643, 644, 645, 37, 39, 0, 41, 46, 31, 42, 44, 1, 45, 304, 305, 306, 118, 32] (by decide +kernel)
set_option maxRecDepth 20000 in
theorem in_wsL_law0_r6 : ∀ w ∈ wsL_law0_r6, w ∈ lw_tbl := pl_in [115, 116, 117, 312, 313, 314, 309, 310, 311, 220, 221, 222, 223, 224, 149, 135, 136, 137, 162, 142, 143, 144, 646, 647] (by decide +kernel)
set_option maxRecDepth 20000 in
theorem in_wsL_law0_r7 : ∀ w ∈ wsL_law0_r7, w ∈ lw_tbl := pl_in [648, 649, 650, 651, 652, 653, 296, 297, 298, 299, 301, 9, 302, 315, 316, 317, 318, 319, 320, 321, 322, 323, 326, 327] (by decide +kernel)
set_option maxRecDepth 20000 in
theorem in_wsL_law0_r8 : ∀ w ∈ wsL_law0_r8, w ∈ lw_tbl := pl_in [328, 329, 330, 331, 654, 655, 656, 657, 658, 659, 660, 661, 662, 663, 664, 665, 666, 667, 668, 669, 670, 671, 427, 428] (by decide +kernel)
set_option maxRecDepth 20000 in
theorem in_wsL_law0_r9 : ∀ w ∈ wsL_law0_r9, w ∈ lw_tbl := pl_in [429, 435, 437, 12, 438, 439, 441, 13, 442, 134, 672, 673, 674, 675, 676, 677, 678, 679, 680, 34, 35, 36, 138, 139] (by decide +kernel)
set_option maxRecDepth 20000 in
theorem in_wsL_law0_r10 : ∀ w ∈ wsL_law0_r10, w ∈ lw_tbl := pl_in [140, 141, 145, 146, 147, 148, 681, 682, 683, 684, 685, 686, 687, 688, 689, 690, 691, 692, 693, 694, 695, 696, 697, 151] (by decide +kernel)
set_option maxRecDepth 20000 in
theorem in_wsL_law0_r11 : ∀ w ∈ wsL_law0_r11, w ∈ lw_tbl := pl_in [152, 153, 154, 156, 3, 157, 158, 159, 160, 161, 163, 164, 165, 166, 167, 168, 169, 170, 171, 172, 173, 174, 175, 176] (by decide +kernel)
set_option maxRecDepth 20000 in
theorem in_wsL_law0_r12 : ∀ w ∈ wsL_law0_r12, w ∈ lw_tbl := pl_in [177, 178, 179, 181, 4, 182, 183, 184, 185, 186, 187, 188, 190, 5, 192, 193, 195, 6, 196, 197, 198, 199, 200, 201] (by decide +kernel)
set_option maxRecDepth 20000 in
theorem in_wsL_law0_r13 : ∀ w ∈ wsL_law0_r13, w ∈ lw_tbl := pl_in [202, 203, 204, 205, 206, 207, 208, 209, 210, 211, 212, 213, 214, 215, 216, 218, 219, 227, 228, 229, 231, 7, 232, 233] (by decide +kernel)
set_option maxRecDepth 20000 in
theorem in_wsL_law0_r14 : ∀ w ∈ wsL_law0_r14, w ∈ lw_tbl := pl_in [234, 235, 236, 698, 699, 700, 701, 702, 703, 704, 705, 238, 239, 240, 241, 242, 243, 245, 246, 247, 248, 706, 707, 708] (by decide +kernel)
set_option maxRecDepth 20000 in
theorem in_wsL_law0_r15 : ∀ w ∈ wsL_law0_r15, w ∈ lw_tbl := pl_in [709, 710, 711, 712, 713, 715, 716, 717, 718, 719, 720, 721, 722, 723, 724, 725, 726, 727, 728, 729, 730, 732, 733, 734] (by decide +kernel)
set_option maxRecDepth 20000 in
theorem in_wsL_law0_r16 : ∀ w ∈ wsL_law0_r16, w ∈ lw_tbl := pl_in [735, 736, 333, 334, 335, 336, 337, 338, 339, 340, 737, 738, 739, 740, 741, 744, 342, 343, 344, 346, 348, 10, 349, 350] (by decide +kernel)
set_option maxRecDepth 20000 in
theorem in_wsL_law0_r17 : ∀ w ∈ wsL_law0_r17, w ∈ lw_tbl := pl_in [351, 352, 353, 354, 355, 356, 357, 358, 359, 360, 361, 362, 363, 364, 365, 366, 367, 368, 369, 370, 372, 373, 374, 375] (by decide +kernel)
set_option maxRecDepth 20000 in
theorem in_wsL_law0_r18 : ∀ w ∈ wsL_law0_r18, w ∈ lw_tbl := pl_in [376, 377, 378, 379, 380, 381, 382, 383, 384, 385, 386, 387, 388, 389, 390, 391, 745, 746, 747, 748, 749, 750, 751, 752] (by decide +kernel)
set_option maxRecDepth 20000 in
theorem in_wsL_law0_r19 : ∀ w ∈ wsL_law0_r19, w ∈ lw_tbl := pl_in [499, 500, 501, 502, 503, 508, 504, 506, 18, 507, 253, 255, 8, 256, 257, 258, 259, 260, 261, 262, 263, 264, 265, 271] (by decide +kernel)
set_option maxRecDepth 20000 in
theorem in_wsL_law0_r20 : ∀ w ∈ wsL_law0_r20, w ∈ lw_tbl := pl_in [509, 510, 511, 396, 397, 398, 399, 400, 401, 402, 403, 404, 405, 406, 407, 431, 433, 11, 434, 463, 465, 16, 466, 467] (by decide +kernel)
set_option maxRecDepth 20000 in
theorem in_wsL_law0_r21 : ∀ w ∈ wsL_law0_r21, w ∈ lw_tbl := pl_in [469, 17, 470, 471, 472, 473, 474, 447, 449, 14, 450, 451, 453, 15, 454, 455, 456, 457, 458, 249, 250, 251, 252, 266] (by decide +kernel)
set_option maxRecDepth 20000 in
theorem in_wsL_law0_r22 : ∀ w ∈ wsL_law0_r22, w ∈ lw_tbl := pl_in [267, 268, 269, 272, 273, 274, 275, 276, 277, 278, 280, 281, 282, 283, 443, 444, 445, 446, 284, 285, 286, 287, 288, 289] (by decide +kernel)
set_option maxRecDepth 20000 in
theorem in_wsL_law0_r23 : ∀ w ∈ wsL_law0_r23, w ∈ lw_tbl := pl_in [290, 291, 292, 293, 294, 479, 480, 481, 482, 492, 493, 494, 495, 496, 497, 498, 459, 460, 461, 462, 475, 476, 477, 478] (by decide +kernel)
set_option maxRecDepth 20000 in
theorem in_wsL_law0_r24 : ∀ w ∈ wsL_law0_r24, w ∈ lw_tbl := pl_in [602, 483, 484, 485, 486, 423, 424, 425, 426, 392, 393, 394, 395, 412, 413, 414, 415, 416, 417, 418, 408, 409, 410, 411] (by decide +kernel)
set_option maxRecDepth 20000 in
theorem in_wsL_law0_r25 : ∀ w ∈ wsL_law0_r25, w ∈ lw_tbl := pl_in [419, 420, 421, 422, 487, 488, 489, 490, 33, 237, 332, 341, 295, 150] (by decide +kernel)
theorem in_wsX40 : ∀ w ∈ wsX40, w ∈ lw_tbl := by decide +kernel
theorem in_wsX30 : ∀ w ∈ wsX30, w ∈ lw_tbl := by decide +kernel
theorem in_wsX00 : ∀ w ∈ wsX00, w ∈ lw_tbl := by decide +kernel
theorem in_wsX20 : ∀ w ∈ wsX20, w ∈ lw_tbl := by decide +kernel
theorem in_wsX10 : ∀ w ∈ wsX10, w ∈ lw_tbl := by decide +kernel
theorem wsL_law_in0 : ∀ w ∈ wsL_law0, w ∈ lw_tbl := in_app (in_app (in_app (in_app (in_app (in_app (in_app in_wsL_law0_r1 (in_app in_wsL_law0_r2 (in_app in_wsL_law0_r3 (in_app in_wsL_law0_r4 (in_app in_wsL_law0_r5 (in_app in_wsL_law0_r6 (in_app in_wsL_law0_r7 (in_app in_wsL_law0_r8 (in_app in_wsL_law0_r9 (in_app in_wsL_law0_r10 (in_app in_wsL_law0_r11 (in_app in_wsL_law0_r12 (in_app in_wsL_law0_r13 (in_app in_wsL_law0_r14 (in_app in_wsL_law0_r15 (in_app in_wsL_law0_r16 (in_app in_wsL_law0_r17 (in_app in_wsL_law0_r18 (in_app in_wsL_law0_r19 (in_app in_wsL_law0_r20 (in_app in_wsL_law0_r21 (in_app in_wsL_law0_r22 (in_app in_wsL_law0_r23 (in_app in_wsL_law0_r24 (in_wsL_law0_r25))))))))))))))))))))))))) in_wsX40) in_wsX30) in_wsX00) in_wsX20) in_wsX10) (fun w h => absurd h List.not_mem_nil)
theorem wsL_law_x0 : ∀ w ∈ (vx_atS RX3 119 "java/lang/IndexOutOfBoundsException" ["java/lang/RuntimeException", "java/lang/Exception"]).filter goodWord, w ∈ lw_tbl := by decide +kernel
theorem wsL_law_x1 : ∀ w ∈ (vx_atS RX3 97 "java/lang/IllegalArgumentException" ["java/lang/RuntimeException", "java/lang/Exception"]).filter goodWord, w ∈ lw_tbl := by decide +kernel
theorem wsL_law_in : ∀ w ∈ wsL_law, w ∈ lw_tbl := fun w h => (List.mem_append.mp h).elim (fun h => (List.mem_append.mp h).elim (fun h => wsL_law_in0 w h) (fun h => wsL_law_x0 w h)) (fun h => wsL_law_x1 w h)
theorem inlX0 : ∀ w ∈ wsX00, w ∈ wsL_law := fun _ h => List.mem_append_left _ (List.mem_append_left _ (List.mem_append_left _ (List.mem_append_left _ (List.mem_append_left _ (List.mem_append_right _ h)))))
theorem inX0 : ∀ w ∈ wsX00, w ∈ lw_tbl := fun w h => wsL_law_in w (inlX0 w h)
theorem inlX1 : ∀ w ∈ wsX10, w ∈ wsL_law := fun _ h => List.mem_append_left _ (List.mem_append_left _ (List.mem_append_left _ (List.mem_append_right _ h)))
theorem inX1 : ∀ w ∈ wsX10, w ∈ lw_tbl := fun w h => wsL_law_in w (inlX1 w h)
theorem inlX2 : ∀ w ∈ wsX20, w ∈ wsL_law := fun _ h => List.mem_append_left _ (List.mem_append_left _ (List.mem_append_left _ (List.mem_append_left _ (List.mem_append_right _ h))))
theorem inX2 : ∀ w ∈ wsX20, w ∈ lw_tbl := fun w h => wsL_law_in w (inlX2 w h)
theorem inlX3 : ∀ w ∈ wsX30, w ∈ wsL_law := fun _ h => List.mem_append_left _ (List.mem_append_left _ (List.mem_append_left _ (List.mem_append_left _ (List.mem_append_left _ (List.mem_append_left _ (List.mem_append_right _ h))))))
theorem inX3 : ∀ w ∈ wsX30, w ∈ lw_tbl := fun w h => wsL_law_in w (inlX3 w h)
theorem inlX4 : ∀ w ∈ wsX40, w ∈ wsL_law := fun _ h => List.mem_append_left _ (List.mem_append_left _ (List.mem_append_left _ (List.mem_append_left _ (List.mem_append_left _ (List.mem_append_left _ (List.mem_append_left _ (List.mem_append_right _ h)))))))
theorem inX4 : ∀ w ∈ wsX40, w ∈ lw_tbl := fun w h => wsL_law_in w (inlX4 w h)
theorem inX5 : ∀ w ∈ wsX50, w ∈ lw_tbl := by decide +kernel
theorem inJ9 : ∀ w ∈ wsJ90, w ∈ lw_tbl := by decide +kernel
theorem inJ0 : ∀ w ∈ wsJ00, w ∈ lw_tbl := by decide +kernel
theorem inJ10 : ∀ w ∈ wsJ100, w ∈ lw_tbl := by decide +kernel
