theorem mem_places {big : List Cond} (ws : List Cond) (ps : List Nat) (hp : ws = ps.filterMap (fun i => big[i]?)) : ∀ w ∈ ws, w ∈ big := by
  intro w hw
  rw [hp] at hw
  obtain ⟨i, -, hi⟩ := List.mem_filterMap.mp hw
  exact List.mem_of_getElem? hi
theorem wsLr1 : ∀ w ∈ wsL_law0_r1, w ∈ lw_tbl := mem_places _ [36, 37, 22, 549, 550, 29, 747, 211, 212, 21, 213, 38, 39, 40, 41, 42, 43, 44, 45, 23, 46, 47, 24, 48] (by decide +kernel)
theorem wsLr2 : ∀ w ∈ wsL_law0_r2, w ∈ lw_tbl := mem_places _ [49, 50, 51, 143, 79, 80, 25, 144, 92, 93, 26, 145, 108, 109, 27, 146, 121, 122, 28, 147, 148, 52, 53, 54] (by decide +kernel)
theorem wsLr3 : ∀ w ∈ wsL_law0_r3, w ∈ lw_tbl := mem_places _ [55, 56, 78, 57, 58, 59, 60, 61, 62, 81, 82, 83, 84, 85, 86, 94, 95, 96, 97, 98, 99, 100, 110, 111] (by decide +kernel)
theorem wsLr4 : ∀ w ∈ wsL_law0_r4, w ∈ lw_tbl := mem_places _ [112, 113, 114, 115, 123, 124, 125, 126, 127, 128, 129, 130, 131, 551, 552, 553, 554, 557, 558, 559, 561, 562, 563, 564] (by decide +kernel)
theorem wsLr5 : ∀ w ∈ wsL_law0_r5, w ∈ lw_tbl := mem_places _ [637, 566, 567, 569, 570, 571, 573, 574, 575, 576, 579, 580, 581, 556, 214, 215, 216, 217, 218, 219, 220, 221, 233, 33] (by decide +kernel)
theorem wsLr6 : ∀ w ∈ wsL_law0_r6, w ∈ lw_tbl := mem_places _ [222, 224, 2, 225, 226, 227, 228, 229, 230, 231, 232, 301, 302, 303, 304, 305, 306, 307, 308, 309, 311, 4, 312, 318] (by decide +kernel)
theorem wsLr7 : ∀ w ∈ wsL_law0_r7, w ∈ lw_tbl := mem_places _ [313, 315, 5, 316, 317, 642, 643, 644, 645, 555, 646, 648, 13, 649, 650, 651, 652, 638, 639, 640, 641, 319, 320, 321] (by decide +kernel)
theorem wsLr8 : ∀ w ∈ wsL_law0_r8, w ∈ lw_tbl := mem_places _ [322, 323, 324, 325, 326, 327, 328, 329, 330, 331, 332, 333, 334, 335, 653, 654, 655, 656, 657, 658, 336, 337, 338, 339] (by decide +kernel)
theorem wsLr9 : ∀ w ∈ wsL_law0_r9, w ∈ lw_tbl := mem_places _ [340, 341, 342, 343, 363, 34, 344, 345, 346, 347, 348, 349, 350, 351, 353, 6, 354, 355, 357, 7, 358, 359, 360, 361] (by decide +kernel)
theorem wsLr10 : ∀ w ∈ wsL_law0_r10, w ∈ lw_tbl := mem_places _ [362, 379, 380, 381, 382, 384, 210, 209, 35, 383, 385, 386, 387, 388, 659, 660, 661, 662, 560, 663, 665, 14, 666, 389] (by decide +kernel)
theorem wsLr11 : ∀ w ∈ wsL_law0_r11, w ∈ lw_tbl := mem_places _ [390, 391, 392, 393, 394, 395, 667, 668, 669, 670, 396, 397, 398, 399, 400, 401, 402, 403, 404, 405, 406, 407, 408, 409] (by decide +kernel)
theorem wsLr12 : ∀ w ∈ wsL_law0_r12, w ∈ lw_tbl := mem_places _ [410, 411, 413, 8, 414, 415, 416, 417, 418, 419, 166, 167, 168, 169, 420, 422, 9, 423, 424, 425, 426, 427, 428, 430] (by decide +kernel)
theorem wsLr13 : ∀ w ∈ wsL_law0_r13, w ∈ lw_tbl := mem_places _ [10, 431, 432, 433, 434, 435, 436, 437, 438, 439, 440, 441, 442, 443, 444, 445, 447, 11, 448, 449, 182, 183, 184, 185] (by decide +kernel)
theorem wsLr14 : ∀ w ∈ wsL_law0_r14, w ∈ lw_tbl := mem_places _ [186, 187, 188, 189, 190, 191, 450, 451, 452, 453, 454, 455, 456, 457, 458, 459, 460, 461, 683, 684, 685, 686, 565, 572] (by decide +kernel)
theorem wsLr15 : ∀ w ∈ wsL_law0_r15, w ∈ lw_tbl := mem_places _ [568, 687, 672, 673, 674, 675, 677, 15, 678, 688, 690, 16, 691, 692, 694, 17, 695, 696, 698, 18, 699, 700, 701, 703] (by decide +kernel)
theorem wsLr16 : ∀ w ∈ wsL_law0_r16, w ∈ lw_tbl := mem_places _ [19, 704, 705, 707, 20, 708, 709, 710, 711, 712, 713, 714, 162, 163, 164, 165, 671, 462, 463, 464, 465, 466, 467, 468] (by decide +kernel)
theorem wsLr17 : ∀ w ∈ wsL_law0_r17, w ∈ lw_tbl := mem_places _ [679, 680, 681, 682, 469, 470, 471, 472, 473, 474, 475, 715, 716, 717, 718, 170, 171, 172, 173, 174, 175, 176, 177, 178] (by decide +kernel)
theorem wsLr18 : ∀ w ∈ wsL_law0_r18, w ∈ lw_tbl := mem_places _ [179, 180, 719, 720, 721, 722, 476, 477, 478, 479, 480, 481, 482, 483, 484, 485, 486, 487, 488, 489, 490, 723, 724, 725] (by decide +kernel)
theorem wsLr19 : ∀ w ∈ wsL_law0_r19, w ∈ lw_tbl := mem_places _ [726, 491, 492, 493, 494, 495, 496, 497, 498, 499, 500, 501, 727, 728, 729, 730, 502, 503, 504, 505, 506, 507, 508, 509] (by decide +kernel)
theorem wsLr20 : ∀ w ∈ wsL_law0_r20, w ∈ lw_tbl := mem_places _ [510, 511, 512, 513, 515, 12, 516, 731, 732, 733, 734, 517, 518, 519, 520, 521, 522, 523, 524, 525, 526, 527, 529, 530] (by decide +kernel)
theorem wsLr21 : ∀ w ∈ wsL_law0_r21, w ∈ lw_tbl := mem_places _ [531, 532, 533, 735, 736, 737, 738, 578, 577, 192, 193, 194, 195, 196, 197, 198, 199, 200, 202, 0, 203, 204, 206, 1] (by decide +kernel)
theorem wsLr22 : ∀ w ∈ wsL_law0_r22, w ∈ lw_tbl := mem_places _ [207, 208, 739, 740, 741, 742, 534, 535, 536, 537, 538, 539, 540, 541, 542, 543, 544, 545, 546, 547, 548, 743, 744, 745] (by decide +kernel)
theorem wsLr23 : ∀ w ∈ wsL_law0_r23, w ∈ lw_tbl := mem_places _ [746] (by decide +kernel)
theorem wsLtX5 : ∀ w ∈ wsX50, w ∈ lw_tbl := by decide +kernel
theorem wsLtX6 : ∀ w ∈ wsX60, w ∈ lw_tbl := by decide +kernel
theorem wsLtX4 : ∀ w ∈ wsX40, w ∈ lw_tbl := by decide +kernel
theorem wsLtX2 : ∀ w ∈ wsX20, w ∈ lw_tbl := by decide +kernel
theorem wsLtX1 : ∀ w ∈ wsX10, w ∈ lw_tbl := by decide +kernel
theorem wsLtX0 : ∀ w ∈ wsX00, w ∈ lw_tbl := by decide +kernel
theorem wsLtX3 : ∀ w ∈ wsX30, w ∈ lw_tbl := by decide +kernel
theorem wsL_law_in0 : ∀ w ∈ wsL_law0, w ∈ lw_tbl := List.forall_mem_append.mpr ⟨List.forall_mem_append.mpr ⟨List.forall_mem_append.mpr ⟨List.forall_mem_append.mpr ⟨List.forall_mem_append.mpr ⟨List.forall_mem_append.mpr ⟨List.forall_mem_append.mpr ⟨List.forall_mem_append.mpr ⟨List.forall_mem_append.mpr ⟨wsLr1, List.forall_mem_append.mpr ⟨wsLr2, List.forall_mem_append.mpr ⟨wsLr3, List.forall_mem_append.mpr ⟨wsLr4, List.forall_mem_append.mpr ⟨wsLr5, List.forall_mem_append.mpr ⟨wsLr6, List.forall_mem_append.mpr ⟨wsLr7, List.forall_mem_append.mpr ⟨wsLr8, List.forall_mem_append.mpr ⟨wsLr9, List.forall_mem_append.mpr ⟨wsLr10, List.forall_mem_append.mpr ⟨wsLr11, List.forall_mem_append.mpr ⟨wsLr12, List.forall_mem_append.mpr ⟨wsLr13, List.forall_mem_append.mpr ⟨wsLr14, List.forall_mem_append.mpr ⟨wsLr15, List.forall_mem_append.mpr ⟨wsLr16, List.forall_mem_append.mpr ⟨wsLr17, List.forall_mem_append.mpr ⟨wsLr18, List.forall_mem_append.mpr ⟨wsLr19, List.forall_mem_append.mpr ⟨wsLr20, List.forall_mem_append.mpr ⟨wsLr21, List.forall_mem_append.mpr ⟨wsLr22, wsLr23⟩⟩⟩⟩⟩⟩⟩⟩⟩⟩⟩⟩⟩⟩⟩⟩⟩⟩⟩⟩⟩⟩, wsLtX5⟩, wsLtX6⟩, wsLtX4⟩, wsLtX2⟩, wsLtX1⟩, wsLtX0⟩, wsLtX3⟩, fun _ h => absurd h List.not_mem_nil⟩
theorem wsL_law_x0 : ∀ w ∈ (vx_atS RX5 70 "java/lang/IllegalArgumentException" ["java/lang/RuntimeException", "java/lang/Exception"]).filter goodWord, w ∈ lw_tbl := by decide +kernel
theorem wsL_law_x1 : ∀ w ∈ (vx_atS RX5 101 "java/lang/IllegalStateException" ["java/lang/RuntimeException", "java/lang/Exception"]).filter goodWord, w ∈ lw_tbl := by decide +kernel
theorem wsL_law_in : ∀ w ∈ wsL_law, w ∈ lw_tbl := fun w h => (List.mem_append.mp h).elim (fun h => (List.mem_append.mp h).elim (fun h => wsL_law_in0 w h) (fun h => wsL_law_x0 w h)) (fun h => wsL_law_x1 w h)
theorem inlX0 : ∀ w ∈ wsX00, w ∈ wsL_law := fun _ h => List.mem_append_left _ (List.mem_append_left _ (List.mem_append_left _ (List.mem_append_left _ (List.mem_append_right _ h))))
theorem inX0 : ∀ w ∈ wsX00, w ∈ lw_tbl := fun w h => wsL_law_in w (inlX0 w h)
theorem inlX1 : ∀ w ∈ wsX10, w ∈ wsL_law := fun _ h => List.mem_append_left _ (List.mem_append_left _ (List.mem_append_left _ (List.mem_append_left _ (List.mem_append_left _ (List.mem_append_right _ h)))))
theorem inX1 : ∀ w ∈ wsX10, w ∈ lw_tbl := fun w h => wsL_law_in w (inlX1 w h)
theorem inlX2 : ∀ w ∈ wsX20, w ∈ wsL_law := fun _ h => List.mem_append_left _ (List.mem_append_left _ (List.mem_append_left _ (List.mem_append_left _ (List.mem_append_left _ (List.mem_append_left _ (List.mem_append_right _ h))))))
theorem inX2 : ∀ w ∈ wsX20, w ∈ lw_tbl := fun w h => wsL_law_in w (inlX2 w h)
theorem inlX3 : ∀ w ∈ wsX30, w ∈ wsL_law := fun _ h => List.mem_append_left _ (List.mem_append_left _ (List.mem_append_left _ (List.mem_append_right _ h)))
theorem inX3 : ∀ w ∈ wsX30, w ∈ lw_tbl := fun w h => wsL_law_in w (inlX3 w h)
theorem inlX4 : ∀ w ∈ wsX40, w ∈ wsL_law := fun _ h => List.mem_append_left _ (List.mem_append_left _ (List.mem_append_left _ (List.mem_append_left _ (List.mem_append_left _ (List.mem_append_left _ (List.mem_append_left _ (List.mem_append_right _ h)))))))
theorem inX4 : ∀ w ∈ wsX40, w ∈ lw_tbl := fun w h => wsL_law_in w (inlX4 w h)
theorem inlX5 : ∀ w ∈ wsX50, w ∈ wsL_law := fun _ h => List.mem_append_left _ (List.mem_append_left _ (List.mem_append_left _ (List.mem_append_left _ (List.mem_append_left _ (List.mem_append_left _ (List.mem_append_left _ (List.mem_append_left _ (List.mem_append_left _ (List.mem_append_right _ h)))))))))
theorem inX5 : ∀ w ∈ wsX50, w ∈ lw_tbl := fun w h => wsL_law_in w (inlX5 w h)
theorem inlX6 : ∀ w ∈ wsX60, w ∈ wsL_law := fun _ h => List.mem_append_left _ (List.mem_append_left _ (List.mem_append_left _ (List.mem_append_left _ (List.mem_append_left _ (List.mem_append_left _ (List.mem_append_left _ (List.mem_append_left _ (List.mem_append_right _ h))))))))
theorem inX6 : ∀ w ∈ wsX60, w ∈ lw_tbl := fun w h => wsL_law_in w (inlX6 w h)
theorem inJ9 : ∀ w ∈ wsJ90, w ∈ lw_tbl := by decide +kernel
theorem inJ0 : ∀ w ∈ wsJ00, w ∈ lw_tbl := by decide +kernel
theorem inJ10 : ∀ w ∈ wsJ100, w ∈ lw_tbl := by decide +kernel

