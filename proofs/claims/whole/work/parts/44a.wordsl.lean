theorem mem_places {big : List Cond} (ws : List Cond) (ps : List Nat) (hp : ws = ps.filterMap (fun i => big[i]?)) : ∀ w ∈ ws, w ∈ big := by
  intro w hw
  rw [hp] at hw
  obtain ⟨i, -, hi⟩ := List.mem_filterMap.mp hw
  exact List.mem_of_getElem? hi
theorem wsLr1 : ∀ w ∈ wsL_law0_r1, w ∈ lw_tbl := mem_places _ [35, 36, 21, 563, 564, 28, 761, 216, 217, 20, 218, 37, 38, 39, 40, 41, 42, 43, 44, 22, 45, 46, 23, 47] (by decide +kernel)
theorem wsLr2 : ∀ w ∈ wsL_law0_r2, w ∈ lw_tbl := mem_places _ [48, 49, 50, 148, 81, 82, 24, 149, 94, 95, 25, 150, 113, 114, 26, 151, 126, 127, 27, 152, 153, 51, 52, 53] (by decide +kernel)
theorem wsLr3 : ∀ w ∈ wsL_law0_r3, w ∈ lw_tbl := mem_places _ [54, 55, 80, 56, 57, 58, 59, 60, 61, 62, 83, 84, 85, 86, 87, 88, 96, 97, 98, 99, 100, 101, 102, 103] (by decide +kernel)
theorem wsLr4 : ∀ w ∈ wsL_law0_r4, w ∈ lw_tbl := mem_places _ [115, 116, 117, 118, 119, 120, 128, 129, 130, 131, 132, 133, 134, 135, 136, 565, 566, 567, 568, 571, 572, 573, 575, 576] (by decide +kernel)
theorem wsLr5 : ∀ w ∈ wsL_law0_r5, w ∈ lw_tbl := mem_places _ [577, 578, 651, 580, 581, 583, 584, 585, 587, 588, 589, 590, 593, 594, 595, 570, 219, 220, 221, 222, 223, 224, 225, 226] (by decide +kernel)
theorem wsLr6 : ∀ w ∈ wsL_law0_r6, w ∈ lw_tbl := mem_places _ [238, 32, 227, 229, 2, 230, 231, 232, 233, 234, 235, 236, 237, 306, 307, 308, 309, 310, 311, 312, 313, 314, 316, 4] (by decide +kernel)
theorem wsLr7 : ∀ w ∈ wsL_law0_r7, w ∈ lw_tbl := mem_places _ [317, 323, 318, 320, 5, 321, 322, 324, 326, 6, 327, 656, 657, 658, 659, 569, 660, 662, 12, 663, 664, 665, 666, 652] (by decide +kernel)
theorem wsLr8 : ∀ w ∈ wsL_law0_r8, w ∈ lw_tbl := mem_places _ [653, 654, 655, 328, 329, 330, 331, 332, 333, 334, 335, 336, 337, 338, 339, 340, 341, 342, 343, 344, 667, 668, 669, 670] (by decide +kernel)
theorem wsLr9 : ∀ w ∈ wsL_law0_r9, w ∈ lw_tbl := mem_places _ [671, 672, 345, 346, 347, 348, 349, 350, 351, 352, 372, 33, 353, 354, 355, 356, 357, 358, 359, 360, 362, 7, 363, 364] (by decide +kernel)
theorem wsLr10 : ∀ w ∈ wsL_law0_r10, w ∈ lw_tbl := mem_places _ [366, 8, 367, 368, 369, 370, 371, 388, 389, 390, 391, 393, 215, 214, 34, 392, 394, 395, 396, 397, 673, 674, 675, 676] (by decide +kernel)
theorem wsLr11 : ∀ w ∈ wsL_law0_r11, w ∈ lw_tbl := mem_places _ [574, 677, 679, 13, 680, 398, 399, 400, 401, 402, 403, 404, 681, 682, 683, 684, 405, 406, 407, 408, 409, 410, 411, 412] (by decide +kernel)
theorem wsLr12 : ∀ w ∈ wsL_law0_r12, w ∈ lw_tbl := mem_places _ [413, 414, 415, 416, 417, 418, 419, 420, 422, 9, 423, 424, 425, 426, 427, 428, 429, 430, 431, 432, 433, 435, 10, 436] (by decide +kernel)
theorem wsLr13 : ∀ w ∈ wsL_law0_r13, w ∈ lw_tbl := mem_places _ [437, 438, 439, 440, 441, 442, 443, 444, 445, 446, 447, 448, 449, 450, 451, 452, 453, 454, 455, 456, 457, 458, 460, 11] (by decide +kernel)
theorem wsLr14 : ∀ w ∈ wsL_law0_r14, w ∈ lw_tbl := mem_places _ [461, 462, 187, 188, 189, 190, 191, 192, 193, 194, 195, 196, 463, 464, 465, 466, 467, 468, 469, 470, 471, 472, 473, 474] (by decide +kernel)
theorem wsLr15 : ∀ w ∈ wsL_law0_r15, w ∈ lw_tbl := mem_places _ [475, 697, 698, 699, 700, 579, 586, 582, 701, 686, 687, 688, 689, 691, 14, 692, 702, 704, 15, 705, 706, 708, 16, 709] (by decide +kernel)
theorem wsLr16 : ∀ w ∈ wsL_law0_r16, w ∈ lw_tbl := mem_places _ [710, 712, 17, 713, 714, 715, 717, 18, 718, 719, 721, 19, 722, 723, 724, 725, 726, 727, 728, 167, 168, 169, 170, 171] (by decide +kernel)
theorem wsLr17 : ∀ w ∈ wsL_law0_r17, w ∈ lw_tbl := mem_places _ [172, 173, 174, 685, 476, 477, 478, 479, 480, 481, 482, 483, 484, 485, 486, 693, 694, 695, 696, 487, 488, 489, 490, 491] (by decide +kernel)
theorem wsLr18 : ∀ w ∈ wsL_law0_r18, w ∈ lw_tbl := mem_places _ [492, 493, 729, 730, 731, 732, 175, 176, 177, 178, 179, 180, 181, 182, 183, 184, 185, 733, 734, 735, 736, 494, 495, 496] (by decide +kernel)
theorem wsLr19 : ∀ w ∈ wsL_law0_r19, w ∈ lw_tbl := mem_places _ [497, 498, 499, 500, 501, 502, 503, 504, 505, 506, 507, 508, 737, 738, 739, 740, 509, 510, 511, 512, 513, 514, 515, 516] (by decide +kernel)
theorem wsLr20 : ∀ w ∈ wsL_law0_r20, w ∈ lw_tbl := mem_places _ [517, 518, 519, 741, 742, 743, 744, 520, 521, 522, 523, 524, 525, 526, 527, 528, 529, 530, 745, 746, 747, 748, 531, 532] (by decide +kernel)
theorem wsLr21 : ∀ w ∈ wsL_law0_r21, w ∈ lw_tbl := mem_places _ [533, 534, 535, 536, 537, 538, 539, 540, 541, 543, 544, 545, 546, 547, 749, 750, 751, 752, 592, 591, 197, 198, 199, 200] (by decide +kernel)
theorem wsLr22 : ∀ w ∈ wsL_law0_r22, w ∈ lw_tbl := mem_places _ [201, 202, 203, 204, 205, 207, 0, 208, 209, 211, 1, 212, 213, 753, 754, 755, 756, 548, 549, 550, 551, 552, 553, 554] (by decide +kernel)
theorem wsLr23 : ∀ w ∈ wsL_law0_r23, w ∈ lw_tbl := mem_places _ [555, 556, 557, 558, 559, 560, 561, 562, 757, 758, 759, 760] (by decide +kernel)
theorem wsLtX5 : ∀ w ∈ wsX50, w ∈ lw_tbl := by decide +kernel
theorem wsLtX6 : ∀ w ∈ wsX60, w ∈ lw_tbl := by decide +kernel
theorem wsLtX4 : ∀ w ∈ wsX40, w ∈ lw_tbl := by decide +kernel
theorem wsLtX2 : ∀ w ∈ wsX20, w ∈ lw_tbl := by decide +kernel
theorem wsLtX1 : ∀ w ∈ wsX10, w ∈ lw_tbl := by decide +kernel
theorem wsLtX0 : ∀ w ∈ wsX00, w ∈ lw_tbl := by decide +kernel
theorem wsLtX3 : ∀ w ∈ wsX30, w ∈ lw_tbl := by decide +kernel
theorem wsL_law_in0 : ∀ w ∈ wsL_law0, w ∈ lw_tbl := List.forall_mem_append.mpr ⟨List.forall_mem_append.mpr ⟨List.forall_mem_append.mpr ⟨List.forall_mem_append.mpr ⟨List.forall_mem_append.mpr ⟨List.forall_mem_append.mpr ⟨List.forall_mem_append.mpr ⟨List.forall_mem_append.mpr ⟨List.forall_mem_append.mpr ⟨wsLr1, List.forall_mem_append.mpr ⟨wsLr2, List.forall_mem_append.mpr ⟨wsLr3, List.forall_mem_append.mpr ⟨wsLr4, List.forall_mem_append.mpr ⟨wsLr5, List.forall_mem_append.mpr ⟨wsLr6, List.forall_mem_append.mpr ⟨wsLr7, List.forall_mem_append.mpr ⟨wsLr8, List.forall_mem_append.mpr ⟨wsLr9, List.forall_mem_append.mpr ⟨wsLr10, List.forall_mem_append.mpr ⟨wsLr11, List.forall_mem_append.mpr ⟨wsLr12, List.forall_mem_append.mpr ⟨wsLr13, List.forall_mem_append.mpr ⟨wsLr14, List.forall_mem_append.mpr ⟨wsLr15, List.forall_mem_append.mpr ⟨wsLr16, List.forall_mem_append.mpr ⟨wsLr17, List.forall_mem_append.mpr ⟨wsLr18, List.forall_mem_append.mpr ⟨wsLr19, List.forall_mem_append.mpr ⟨wsLr20, List.forall_mem_append.mpr ⟨wsLr21, List.forall_mem_append.mpr ⟨wsLr22, wsLr23⟩⟩⟩⟩⟩⟩⟩⟩⟩⟩⟩⟩⟩⟩⟩⟩⟩⟩⟩⟩⟩⟩, wsLtX5⟩, wsLtX6⟩, wsLtX4⟩, wsLtX2⟩, wsLtX1⟩, wsLtX0⟩, wsLtX3⟩, fun _ h => absurd h List.not_mem_nil⟩
theorem wsL_law_x0 : ∀ w ∈ (vx_atS RX5 70 "java/lang/IllegalArgumentException" ["java/lang/RuntimeException", "java/lang/Exception"]).filter goodWord, w ∈ lw_tbl := by decide +kernel
theorem wsL_law_x1 : ∀ w ∈ (vx_atS RX5 101 "java/lang/IllegalStateException" ["java/lang/RuntimeException", "java/lang/Exception"]).filter goodWord, w ∈ lw_tbl := by decide +kernel
theorem wsL_law_in : ∀ w ∈ wsL_law, w ∈ lw_tbl := fun w h => (List.mem_append.mp h).elim (fun h => (List.mem_append.mp h).elim (fun h => wsL_law_in0 w h) (fun h => wsL_law_x0 w h)) (fun h => wsL_law_x1 w h)
theorem inlX0 : ∀ w ∈ wsX00, w ∈ wsL_law := fun _ h => List.mem_append_left _ (List.mem_append_left _ (List.mem_append_left _ (List.mem_append_left _ (List.mem_append_right _ h))))
theorem inX0 : ∀ w ∈ wsX00, w ∈ lw_tbl := fun w h => wsL_law_in w (inlX0 w h)
theorem inlX1 : ∀ w ∈ wsX10, w ∈ wsL_law := fun _ h => List.mem_append_left _ (List.mem_append_left _ (List.mem_append_left _ (List.mem_append_left _ (List.mem_append_left _ (List.mem_append_right _ h)))))
theorem inX1 : ∀ w ∈ wsX10, w ∈ lw_tbl := fun w h => wsL_law_in w (inlX1 w h)
theorem inlX2 : ∀ w ∈ wsX20, w ∈ wsL_law := fun _ h => List.mem_append_left _ (List.mem_append_left _ (List.mem_append_left _ (List.mem_append_left _ (List.mem_append_left _ (List.mem_append_left _ (List.mem_append_right _ h))))))
theorem inX2 : ∀ w ∈ wsX20, w ∈ lw_tbl := fun w h => wsL_law_in w (inlX2 w h)
theorem inlX3 : ∀ w ∈ wsX30, w ∈ wsL_law := fun _ h => List.mem_append_left _ (List.mem_append_left _ (List.mem_append_left _ (List.mem_append_right _ h)))
theorem inX3 : ∀ w ∈ wsX30, w ∈ lw_tbl := fun w h => wsL_law_in w (inlX3 w h)
theorem inlX4 : ∀ w ∈ wsX40, w ∈ wsL_law := fun _ h => List.mem_append_left _ (List.mem_append_left _ (List.mem_append_left _ (List.mem_append_left _ (List.mem_append_left _ (List.mem_append_left _ (List.mem_append_left _ (List.mem_append_right _ h)))))))
theorem inX4 : ∀ w ∈ wsX40, w ∈ lw_tbl := fun w h => wsL_law_in w (inlX4 w h)
theorem inlX5 : ∀ w ∈ wsX50, w ∈ wsL_law := fun _ h => List.mem_append_left _ (List.mem_append_left _ (List.mem_append_left _ (List.mem_append_left _ (List.mem_append_left _ (List.mem_append_left _ (List.mem_append_left _ (List.mem_append_left _ (List.mem_append_left _ (List.mem_append_right _ h)))))))))
theorem inX5 : ∀ w ∈ wsX50, w ∈ lw_tbl := fun w h => wsL_law_in w (inlX5 w h)
theorem inlX6 : ∀ w ∈ wsX60, w ∈ wsL_law := fun _ h => List.mem_append_left _ (List.mem_append_left _ (List.mem_append_left _ (List.mem_append_left _ (List.mem_append_left _ (List.mem_append_left _ (List.mem_append_left _ (List.mem_append_left _ (List.mem_append_right _ h))))))))
theorem inX6 : ∀ w ∈ wsX60, w ∈ lw_tbl := fun w h => wsL_law_in w (inlX6 w h)
theorem inJ9 : ∀ w ∈ wsJ90, w ∈ lw_tbl := by decide +kernel
theorem inJ0 : ∀ w ∈ wsJ00, w ∈ lw_tbl := by decide +kernel
theorem inJ10 : ∀ w ∈ wsJ100, w ∈ lw_tbl := by decide +kernel

