theorem z_places {big ws : List Cond} (ps : List Nat) (hp : ws = ps.filterMap (fun i => big[i]?)) : ∀ w ∈ ws, w ∈ big := by
  intro w hw
  rw [hp] at hw
  obtain ⟨i, -, hi⟩ := List.mem_filterMap.mp hw
  exact List.mem_of_getElem? hi
theorem z_inapp {big a b : List Cond} (ha : ∀ w ∈ a, w ∈ big) (hb : ∀ w ∈ b, w ∈ big) : ∀ w ∈ a ++ b, w ∈ big := fun w h => (List.mem_append.mp h).elim (ha w) (hb w)
theorem zc_wsL_law0_r1 : ∀ w ∈ wsL_law0_r1, w ∈ lw_tbl := z_places [58, 59, 37, 641, 642, 42, 873, 60, 61, 62, 63, 64, 65, 66, 67, 38, 107, 81, 82, 41, 108, 109, 110, 111] (by decide +kernel)
theorem zc_wsL_law0_r2 : ∀ w ∈ wsL_law0_r2, w ∈ lw_tbl := z_places [69, 70, 71, 72, 74, 83, 84, 85, 93, 95, 86, 87, 40, 88, 97, 89, 90, 39, 91, 92, 643, 644, 645, 646] (by decide +kernel)
theorem zc_wsL_law0_r3 : ∀ w ∈ wsL_law0_r3, w ∈ lw_tbl := z_places [649, 650, 651, 714, 653, 654, 655, 656, 657, 659, 660, 662, 663, 664, 665, 666, 667, 133, 134, 36, 135, 136, 137, 138] (by decide +kernel)
theorem zc_wsL_law0_r4 : ∀ w ∈ wsL_law0_r4, w ∈ lw_tbl := z_places [139, 140, 73, 75, 141, 142, 143, 144, 46, 719, 720, 721, 722, 647, 723, 724, 725, 715, 716, 717, 718, 212, 213, 214] (by decide +kernel)
theorem zc_wsL_law0_r5 : ∀ w ∈ wsL_law0_r5, w ∈ lw_tbl := z_places [215, 216, 217, 218, 726, 727, 728, 729, 219, 220, 221, 222, 223, 224, 225, 226, 250, 251, 48, 227, 228, 229, 230, 96] (by decide +kernel)
theorem zc_wsL_law0_r6 : ∀ w ∈ wsL_law0_r6, w ∈ lw_tbl := z_places [231, 232, 233, 234, 47, 252, 253, 254, 255, 256, 258, 260, 262, 265, 281, 282, 283, 284, 98, 99, 285, 287, 1, 288] (by decide +kernel)
theorem zc_wsL_law0_r7 : ∀ w ∈ wsL_law0_r7, w ∈ lw_tbl := z_places [289, 291, 2, 292, 293, 295, 3, 296, 336, 301, 50, 302, 337, 297, 298, 49, 299, 300, 303, 304, 305, 306, 307, 308] (by decide +kernel)
theorem zc_wsL_law0_r8 : ∀ w ∈ wsL_law0_r8, w ∈ lw_tbl := z_places [51, 309, 310, 888, 311, 323, 324, 325, 326, 327, 329, 330, 331, 332, 333, 335, 334, 52, 730, 731, 732, 733, 652, 338] (by decide +kernel)
theorem zc_wsL_law0_r9 : ∀ w ∈ wsL_law0_r9, w ∈ lw_tbl := z_places [339, 340, 341, 342, 343, 344, 345, 346, 53, 347, 348, 349, 350, 351, 353, 355, 734, 735, 736, 737, 658, 370, 371, 372] (by decide +kernel)
theorem zc_wsL_law0_r10 : ∀ w ∈ wsL_law0_r10, w ∈ lw_tbl := z_places [373, 374, 375, 376, 377, 112, 412, 413, 57, 378, 380, 4, 381, 382, 54, 250, 398, 399, 400, 401, 402, 403, 55, 404] (by decide +kernel)
theorem zc_wsL_law0_r11 : ∀ w ∈ wsL_law0_r11, w ∈ lw_tbl := z_places [405, 406, 56, 407, 408, 409, 410, 411, 414, 415, 416, 417, 426, 428, 418, 420, 738, 739, 740, 741, 648, 661, 742, 744] (by decide +kernel)
theorem zc_wsL_law0_r12 : ∀ w ∈ wsL_law0_r12, w ∈ lw_tbl := z_places [19, 745, 445, 446, 447, 448, 449, 450, 451, 354, 419, 261, 429, 452, 454, 5, 455, 412, 457, 458, 459, 461, 463, 6] (by decide +kernel)
theorem zc_wsL_law0_r13 : ∀ w ∈ wsL_law0_r13, w ∈ lw_tbl := z_places [464, 345, 466, 467, 468, 469, 422, 423, 424, 472, 473, 474, 475, 476, 477, 478, 479, 480, 482, 7, 483, 427, 484, 486] (by decide +kernel)
theorem zc_wsL_law0_r14 : ∀ w ∈ wsL_law0_r14, w ∈ lw_tbl := z_places [8, 487, 421, 488, 489, 490, 491, 492, 259, 263, 493, 494, 495, 496, 497, 498, 500, 9, 501, 425, 502, 503, 504, 505] (by decide +kernel)
theorem zc_wsL_law0_r15 : ∀ w ∈ wsL_law0_r15, w ∈ lw_tbl := z_places [506, 507, 509, 10, 510, 511, 512, 513, 514, 516, 11, 517, 264, 266, 518, 520, 12, 521, 746, 747, 748, 749, 750, 752] (by decide +kernel)
theorem zc_wsL_law0_r16 : ∀ w ∈ wsL_law0_r16, w ∈ lw_tbl := z_places [20, 753, 754, 756, 21, 757, 758, 760, 22, 761, 762, 764, 23, 765, 766, 768, 24, 769, 770, 772, 25, 773, 774, 776] (by decide +kernel)
theorem zc_wsL_law0_r17 : ∀ w ∈ wsL_law0_r17, w ∈ lw_tbl := z_places [26, 777, 778, 780, 27, 781, 782, 784, 28, 785, 786, 788, 29, 789, 790, 791, 792, 793, 795, 30, 796, 797, 799, 31] (by decide +kernel)
theorem zc_wsL_law0_r18 : ∀ w ∈ wsL_law0_r18, w ∈ lw_tbl := z_places [800, 522, 523, 524, 525, 526, 527, 528, 801, 802, 803, 804, 530, 531, 532, 533, 534, 535, 536, 113, 539, 540, 541, 542] (by decide +kernel)
theorem zc_wsL_law0_r19 : ∀ w ∈ wsL_law0_r19, w ∈ lw_tbl := z_places [543, 545, 13, 546, 805, 806, 807, 808, 668, 809, 811, 32, 812, 547, 548, 549, 550, 551, 552, 553, 555, 557, 14, 558] (by decide +kernel)
theorem zc_wsL_law0_r20 : ∀ w ∈ wsL_law0_r20, w ∈ lw_tbl := z_places [267, 356, 357, 358, 813, 814, 815, 816, 817, 819, 33, 820, 821, 823, 34, 824, 129, 130, 131, 132, 825, 826, 827, 828] (by decide +kernel)
theorem zc_wsL_law0_r21 : ∀ w ∈ wsL_law0_r21, w ∈ lw_tbl := z_places [559, 560, 561, 562, 563, 564, 565, 566, 829, 830, 831, 832, 567, 568, 569, 570, 571, 572, 573, 833, 834, 835, 836, 574] (by decide +kernel)
theorem zc_wsL_law0_r22 : ∀ w ∈ wsL_law0_r22, w ∈ lw_tbl := z_places [575, 576, 577, 578, 579, 580, 352, 257, 837, 838, 839, 840, 841, 842, 843, 582, 583, 584, 585, 586, 587, 588, 844, 845] (by decide +kernel)
theorem zc_wsL_law0_r23 : ∀ w ∈ wsL_law0_r23, w ∈ lw_tbl := z_places [846, 847, 590, 591, 592, 593, 594, 595, 596, 597, 599, 15, 600, 848, 849, 850, 851, 601, 602, 603, 604, 605, 606, 607] (by decide +kernel)
theorem zc_wsL_law0_r24 : ∀ w ∈ wsL_law0_r24, w ∈ lw_tbl := z_places [852, 853, 854, 855, 856, 608, 609, 610, 611, 612, 613, 614, 857, 858, 859, 860, 615, 616, 617, 618, 619, 620, 621, 622] (by decide +kernel)
theorem zc_wsL_law0_r25 : ∀ w ∈ wsL_law0_r25, w ∈ lw_tbl := z_places [624, 16, 625, 861, 862, 863, 864, 626, 627, 628, 629, 630, 631, 632, 633, 635, 17, 636, 637, 639, 18, 640, 865, 866] (by decide +kernel)
theorem zc_wsL_law0_r26 : ∀ w ∈ wsL_law0_r26, w ∈ lw_tbl := z_places [867, 868, 869, 871, 35, 872] (by decide +kernel)
theorem zc_wsX40 : ∀ w ∈ wsX40, w ∈ lw_tbl := z_places [114, 116, 118, 120, 122, 124, 126] (by decide +kernel)
theorem zc_wsX50 : ∀ w ∈ wsX50, w ∈ lw_tbl := z_places [669, 671, 673, 675, 677, 679, 681, 683, 685, 687, 689, 691, 693, 695, 697, 699, 701, 703, 705, 707, 709, 711] (by decide +kernel)
theorem zc_wsX30 : ∀ w ∈ wsX30, w ∈ lw_tbl := z_places [76, 78] (by decide +kernel)
theorem zc_wsJx4a65c0 : ∀ w ∈ wsJx4a65c0, w ∈ lw_tbl := z_places [104, 100, 102] (by decide +kernel)
theorem zc_wsX20 : ∀ w ∈ wsX20, w ∈ lw_tbl := z_places [268, 270, 272, 274, 276, 278] (by decide +kernel)
theorem zc_wsX10 : ∀ w ∈ wsX10, w ∈ lw_tbl := z_places [359, 361, 363, 365, 367] (by decide +kernel)
theorem zc_wsX00 : ∀ w ∈ wsX00, w ∈ lw_tbl := z_places [430, 432, 434, 436, 438, 440, 442] (by decide +kernel)
theorem wsL_law_in0 : ∀ w ∈ wsL_law0, w ∈ lw_tbl := z_inapp (z_inapp (z_inapp (z_inapp (z_inapp (z_inapp (z_inapp (z_inapp (z_inapp zc_wsL_law0_r1 (z_inapp zc_wsL_law0_r2 (z_inapp zc_wsL_law0_r3 (z_inapp zc_wsL_law0_r4 (z_inapp zc_wsL_law0_r5 (z_inapp zc_wsL_law0_r6 (z_inapp zc_wsL_law0_r7 (z_inapp zc_wsL_law0_r8 (z_inapp zc_wsL_law0_r9 (z_inapp zc_wsL_law0_r10 (z_inapp zc_wsL_law0_r11 (z_inapp zc_wsL_law0_r12 (z_inapp zc_wsL_law0_r13 (z_inapp zc_wsL_law0_r14 (z_inapp zc_wsL_law0_r15 (z_inapp zc_wsL_law0_r16 (z_inapp zc_wsL_law0_r17 (z_inapp zc_wsL_law0_r18 (z_inapp zc_wsL_law0_r19 (z_inapp zc_wsL_law0_r20 (z_inapp zc_wsL_law0_r21 (z_inapp zc_wsL_law0_r22 (z_inapp zc_wsL_law0_r23 (z_inapp zc_wsL_law0_r24 (z_inapp zc_wsL_law0_r25 (zc_wsL_law0_r26)))))))))))))))))))))))))) zc_wsX40) zc_wsX50) zc_wsX30) zc_wsJx4a65c0) zc_wsX20) zc_wsX10) zc_wsX00) (fun _ h => absurd h List.not_mem_nil)
theorem wsL_law_x0 : ∀ w ∈ (vx_atS RX4 226 "java/lang/IllegalArgumentException" ["java/lang/RuntimeException", "java/lang/Exception"]).filter goodWord, w ∈ lw_tbl := by decide +kernel
theorem wsL_law_x1 : ∀ w ∈ (vx_atS RX4 96 "java/lang/IllegalStateException" ["java/lang/RuntimeException", "java/lang/Exception"]).filter goodWord, w ∈ lw_tbl := by decide +kernel
theorem wsL_law_x2 : ∀ w ∈ (vx_atS RX4 179 "java/lang/IndexOutOfBoundsException" ["java/lang/RuntimeException", "java/lang/Exception"]).filter goodWord, w ∈ lw_tbl := by decide +kernel
theorem wsL_law_in : ∀ w ∈ wsL_law, w ∈ lw_tbl := fun w h => (List.mem_append.mp h).elim (fun h => (List.mem_append.mp h).elim (fun h => (List.mem_append.mp h).elim (fun h => wsL_law_in0 w h) (fun h => wsL_law_x0 w h)) (fun h => wsL_law_x1 w h)) (fun h => wsL_law_x2 w h)
theorem inlX0 : ∀ w ∈ wsX00, w ∈ wsL_law := fun _ h => List.mem_append_left _ (List.mem_append_left _ (List.mem_append_left _ (List.mem_append_left _ (List.mem_append_right _ h))))
theorem inX0 : ∀ w ∈ wsX00, w ∈ lw_tbl := fun w h => wsL_law_in w (inlX0 w h)
theorem inlX1 : ∀ w ∈ wsX10, w ∈ wsL_law := fun _ h => List.mem_append_left _ (List.mem_append_left _ (List.mem_append_left _ (List.mem_append_left _ (List.mem_append_left _ (List.mem_append_right _ h)))))
theorem inX1 : ∀ w ∈ wsX10, w ∈ lw_tbl := fun w h => wsL_law_in w (inlX1 w h)
theorem inlX2 : ∀ w ∈ wsX20, w ∈ wsL_law := fun _ h => List.mem_append_left _ (List.mem_append_left _ (List.mem_append_left _ (List.mem_append_left _ (List.mem_append_left _ (List.mem_append_left _ (List.mem_append_right _ h))))))
theorem inX2 : ∀ w ∈ wsX20, w ∈ lw_tbl := fun w h => wsL_law_in w (inlX2 w h)
theorem inlX3 : ∀ w ∈ wsX30, w ∈ wsL_law := fun _ h => List.mem_append_left _ (List.mem_append_left _ (List.mem_append_left _ (List.mem_append_left _ (List.mem_append_left _ (List.mem_append_left _ (List.mem_append_left _ (List.mem_append_left _ (List.mem_append_right _ h))))))))
theorem inX3 : ∀ w ∈ wsX30, w ∈ lw_tbl := fun w h => wsL_law_in w (inlX3 w h)
theorem inlX4 : ∀ w ∈ wsX40, w ∈ wsL_law := fun _ h => List.mem_append_left _ (List.mem_append_left _ (List.mem_append_left _ (List.mem_append_left _ (List.mem_append_left _ (List.mem_append_left _ (List.mem_append_left _ (List.mem_append_left _ (List.mem_append_left _ (List.mem_append_left _ (List.mem_append_right _ h))))))))))
theorem inX4 : ∀ w ∈ wsX40, w ∈ lw_tbl := fun w h => wsL_law_in w (inlX4 w h)
theorem inlX5 : ∀ w ∈ wsX50, w ∈ wsL_law := fun _ h => List.mem_append_left _ (List.mem_append_left _ (List.mem_append_left _ (List.mem_append_left _ (List.mem_append_left _ (List.mem_append_left _ (List.mem_append_left _ (List.mem_append_left _ (List.mem_append_left _ (List.mem_append_right _ h)))))))))
theorem inX5 : ∀ w ∈ wsX50, w ∈ lw_tbl := fun w h => wsL_law_in w (inlX5 w h)
theorem inJx145de : ∀ w ∈ wsJx145de0, w ∈ lw_tbl := by decide +kernel
theorem inJx8e188 : ∀ w ∈ wsJx8e1880, w ∈ lw_tbl := by decide +kernel
theorem inJxab1ab : ∀ w ∈ wsJxab1ab0, w ∈ lw_tbl := by decide +kernel
theorem inJ9 : ∀ w ∈ wsJ90, w ∈ lw_tbl := by decide +kernel
theorem inJ0 : ∀ w ∈ wsJ00, w ∈ lw_tbl := by decide +kernel
theorem inJ10 : ∀ w ∈ wsJ100, w ∈ lw_tbl := by decide +kernel
theorem inJxa1e45 : ∀ w ∈ wsJxa1e450, w ∈ lw_tbl := by decide +kernel
theorem inJxc12de : ∀ w ∈ wsJxc12de0, w ∈ lw_tbl := by decide +kernel
theorem inlJx4a65c : ∀ w ∈ wsJx4a65c0, w ∈ wsL_law := fun _ h => List.mem_append_left _ (List.mem_append_left _ (List.mem_append_left _ (List.mem_append_left _ (List.mem_append_left _ (List.mem_append_left _ (List.mem_append_left _ (List.mem_append_right _ h)))))))
theorem inJx4a65c : ∀ w ∈ wsJx4a65c0, w ∈ lw_tbl := fun w h => wsL_law_in w (inlJx4a65c w h)
theorem inJ7 : ∀ w ∈ wsJ70, w ∈ lw_tbl := by decide +kernel
theorem inJx5ef63 : ∀ w ∈ wsJx5ef630, w ∈ lw_tbl := by decide +kernel
theorem inJxbd725 : ∀ w ∈ wsJxbd7250, w ∈ lw_tbl := by decide +kernel
theorem inJ15 : ∀ w ∈ wsJ150, w ∈ lw_tbl := by decide +kernel
theorem inJxf0a74 : ∀ w ∈ wsJxf0a740, w ∈ lw_tbl := by decide +kernel
theorem inJxa66e6 : ∀ w ∈ wsJxa66e60, w ∈ lw_tbl := by decide +kernel
theorem inJ8 : ∀ w ∈ wsJ80, w ∈ lw_tbl := by decide +kernel
theorem inJ3 : ∀ w ∈ wsJ30, w ∈ lw_tbl := by decide +kernel
