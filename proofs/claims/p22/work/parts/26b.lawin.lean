theorem z_places {big ws : List Cond} (ps : List Nat) (hp : ws = ps.filterMap (fun i => big[i]?)) : ∀ w ∈ ws, w ∈ big := by
  intro w hw
  rw [hp] at hw
  obtain ⟨i, -, hi⟩ := List.mem_filterMap.mp hw
  exact List.mem_of_getElem? hi
theorem z_inapp {big a b : List Cond} (ha : ∀ w ∈ a, w ∈ big) (hb : ∀ w ∈ b, w ∈ big) : ∀ w ∈ a ++ b, w ∈ big := fun w h => (List.mem_append.mp h).elim (ha w) (hb w)
theorem zc_wsL_law0_r1 : ∀ w ∈ wsL_law0_r1, w ∈ lw_tbl := z_places [40, 41, 20, 659, 42, 43, 44, 45, 46, 47, 48, 49, 21, 89, 63, 64, 24, 90, 91, 92, 93, 51, 52, 53] (by decide +kernel)
theorem zc_wsL_law0_r2 : ∀ w ∈ wsL_law0_r2, w ∈ lw_tbl := z_places [54, 56, 65, 66, 67, 75, 77, 68, 69, 23, 70, 79, 71, 72, 22, 73, 74, 111, 112, 19, 113, 114, 115, 116] (by decide +kernel)
theorem zc_wsL_law0_r3 : ∀ w ∈ wsL_law0_r3, w ∈ lw_tbl := z_places [117, 556, 557, 558, 559, 560, 561, 562, 563, 564, 204, 205, 206, 121, 207, 208, 209, 210, 211, 235, 236, 30, 126, 127] (by decide +kernel)
theorem zc_wsL_law0_r4 : ∀ w ∈ wsL_law0_r4, w ∈ lw_tbl := z_places [128, 129, 28, 212, 213, 214, 215, 78, 216, 217, 218, 219, 29, 237, 238, 239, 240, 241, 243, 245, 247, 250, 266, 267] (by decide +kernel)
theorem zc_wsL_law0_r5 : ∀ w ∈ wsL_law0_r5, w ∈ lw_tbl := z_places [268, 269, 80, 81, 270, 272, 1, 273, 274, 276, 2, 277, 278, 280, 3, 281, 320, 286, 32, 287, 321, 282, 283, 31] (by decide +kernel)
theorem zc_wsL_law0_r6 : ∀ w ∈ wsL_law0_r6, w ∈ lw_tbl := z_places [284, 285, 288, 289, 290, 291, 292, 293, 33, 294, 295, 673, 296, 307, 308, 309, 310, 311, 313, 314, 315, 316, 317, 319] (by decide +kernel)
theorem zc_wsL_law0_r7 : ∀ w ∈ wsL_law0_r7, w ∈ lw_tbl := z_places [318, 34, 322, 323, 324, 325, 326, 327, 328, 329, 330, 35, 331, 332, 333, 334, 335, 337, 339, 354, 355, 356, 357, 358] (by decide +kernel)
theorem zc_wsL_law0_r8 : ∀ w ∈ wsL_law0_r8, w ∈ lw_tbl := z_places [359, 360, 361, 94, 396, 397, 39, 362, 364, 4, 365, 366, 36, 235, 382, 383, 384, 385, 386, 387, 37, 388, 389, 390] (by decide +kernel)
theorem zc_wsL_law0_r9 : ∀ w ∈ wsL_law0_r9, w ∈ lw_tbl := z_places [38, 391, 392, 393, 394, 395, 398, 399, 400, 401, 410, 412, 402, 404, 550, 551, 552, 565, 566, 567, 568, 569, 570, 571] (by decide +kernel)
theorem zc_wsL_law0_r10 : ∀ w ∈ wsL_law0_r10, w ∈ lw_tbl := z_places [572, 573, 553, 554, 555, 574, 575, 576, 429, 430, 431, 432, 433, 434, 435, 338, 403, 246, 413, 436, 438, 5, 439, 396] (by decide +kernel)
theorem zc_wsL_law0_r11 : ∀ w ∈ wsL_law0_r11, w ∈ lw_tbl := z_places [441, 442, 443, 445, 447, 6, 448, 329, 450, 451, 452, 453, 406, 407, 408, 456, 457, 458, 459, 460, 461, 462, 463, 464] (by decide +kernel)
theorem zc_wsL_law0_r12 : ∀ w ∈ wsL_law0_r12, w ∈ lw_tbl := z_places [466, 7, 467, 411, 468, 470, 8, 471, 405, 472, 473, 474, 475, 476, 244, 248, 477, 478, 479, 480, 481, 482, 484, 9] (by decide +kernel)
theorem zc_wsL_law0_r13 : ∀ w ∈ wsL_law0_r13, w ∈ lw_tbl := z_places [485, 409, 486, 487, 488, 489, 490, 491, 493, 10, 494, 495, 496, 497, 498, 500, 11, 501, 249, 251, 502, 504, 12, 505] (by decide +kernel)
theorem zc_wsL_law0_r14 : ∀ w ∈ wsL_law0_r14, w ∈ lw_tbl := z_places [506, 507, 508, 509, 510, 511, 512, 514, 515, 516, 517, 518, 519, 520, 95, 523, 524, 525, 526, 527, 529, 13, 530, 118] (by decide +kernel)
theorem zc_wsL_law0_r15 : ∀ w ∈ wsL_law0_r15, w ∈ lw_tbl := z_places [119, 120, 122, 123, 124, 125, 55, 57, 197, 198, 199, 200, 201, 202, 203, 531, 532, 533, 534, 535, 536, 537, 539, 541] (by decide +kernel)
theorem zc_wsL_law0_r16 : ∀ w ∈ wsL_law0_r16, w ∈ lw_tbl := z_places [14, 542, 252, 340, 341, 342, 577, 578, 579, 580, 581, 582, 583, 584, 585, 586, 336, 242, 588, 589, 590, 591, 592, 593] (by decide +kernel)
theorem zc_wsL_law0_r17 : ∀ w ∈ wsL_law0_r17, w ∈ lw_tbl := z_places [594, 595, 597, 15, 598, 599, 601, 16, 602, 603, 604, 605, 606, 607, 608, 609, 610, 612, 17, 613, 614, 615, 616, 617] (by decide +kernel)
theorem zc_wsL_law0_r18 : ∀ w ∈ wsL_law0_r18, w ∈ lw_tbl := z_places [618, 619, 620, 621, 622, 623, 624, 625, 626, 627, 628, 630, 18, 631, 632, 633, 634, 635, 636, 637, 638, 639, 640, 641] (by decide +kernel)
theorem zc_wsL_law0_r19 : ∀ w ∈ wsL_law0_r19, w ∈ lw_tbl := z_places [642, 643, 644, 645, 647, 648, 649, 650, 651, 652, 653, 654, 655, 656, 657, 658, 543, 544, 545, 546, 547, 548, 549] (by decide +kernel)
theorem zc_wsX40 : ∀ w ∈ wsX40, w ∈ lw_tbl := z_places [96, 98, 100, 102, 104, 106, 108] (by decide +kernel)
theorem zc_wsX30 : ∀ w ∈ wsX30, w ∈ lw_tbl := z_places [58, 60] (by decide +kernel)
theorem zc_wsJx4a65c0 : ∀ w ∈ wsJx4a65c0, w ∈ lw_tbl := z_places [86, 82, 84] (by decide +kernel)
theorem zc_wsX20 : ∀ w ∈ wsX20, w ∈ lw_tbl := z_places [253, 255, 257, 259, 261, 263] (by decide +kernel)
theorem zc_wsX10 : ∀ w ∈ wsX10, w ∈ lw_tbl := z_places [343, 345, 347, 349, 351] (by decide +kernel)
theorem zc_wsX00 : ∀ w ∈ wsX00, w ∈ lw_tbl := z_places [414, 416, 418, 420, 422, 424, 426] (by decide +kernel)
theorem wsL_law_in0 : ∀ w ∈ wsL_law0, w ∈ lw_tbl := z_inapp (z_inapp (z_inapp (z_inapp (z_inapp (z_inapp (z_inapp (z_inapp zc_wsL_law0_r1 (z_inapp zc_wsL_law0_r2 (z_inapp zc_wsL_law0_r3 (z_inapp zc_wsL_law0_r4 (z_inapp zc_wsL_law0_r5 (z_inapp zc_wsL_law0_r6 (z_inapp zc_wsL_law0_r7 (z_inapp zc_wsL_law0_r8 (z_inapp zc_wsL_law0_r9 (z_inapp zc_wsL_law0_r10 (z_inapp zc_wsL_law0_r11 (z_inapp zc_wsL_law0_r12 (z_inapp zc_wsL_law0_r13 (z_inapp zc_wsL_law0_r14 (z_inapp zc_wsL_law0_r15 (z_inapp zc_wsL_law0_r16 (z_inapp zc_wsL_law0_r17 (z_inapp zc_wsL_law0_r18 (zc_wsL_law0_r19))))))))))))))))))) zc_wsX40) zc_wsX30) zc_wsJx4a65c0) zc_wsX20) zc_wsX10) zc_wsX00) (fun _ h => absurd h List.not_mem_nil)
theorem wsL_law_x0 : ∀ w ∈ (vx_atS RX4 226 "java/lang/IllegalArgumentException" ["java/lang/RuntimeException", "java/lang/Exception"]).filter goodWord, w ∈ lw_tbl := by decide +kernel
theorem wsL_law_x1 : ∀ w ∈ (vx_atS RX4 96 "java/lang/IllegalStateException" ["java/lang/RuntimeException", "java/lang/Exception"]).filter goodWord, w ∈ lw_tbl := by decide +kernel
theorem wsL_law_x2 : ∀ w ∈ (vx_atS RX4 179 "java/lang/IndexOutOfBoundsException" ["java/lang/RuntimeException", "java/lang/Exception"]).filter goodWord, w ∈ lw_tbl := by decide +kernel
theorem wsL_law_in : ∀ w ∈ wsL_law, w ∈ lw_tbl := fun w h => (List.mem_append.mp h).elim (fun h => (List.mem_append.mp h).elim (fun h => (List.mem_append.mp h).elim (fun h => wsL_law_in0 w h) (fun h => wsL_law_x0 w h)) (fun h => wsL_law_x1 w h)) (fun h => wsL_law_x2 w h)
theorem inlX0 : ∀ w ∈ wsX00, w ∈ wsL_law := fun _ h => List.mem_append_left _ (List.mem_append_left _ (List.mem_append_left _ (List.mem_append_left _ (List.mem_append_right _ h))))
theorem inX0 : ∀ w ∈ wsX00, w ∈ lw_tbl := fun w h => wsL_law_in w (inlX0 w h)
theorem inlX1 : ∀ w ∈ wsX10, w ∈ wsL_law := fun _ h => List.mem_append_left _ (List.mem_append_left _ (List.mem_append_left _ (List.mem_append_left _ (List.mem_append_left _ (List.mem_append_right _ h)))))
theorem inX1 : ∀ w ∈ wsX10, w ∈ lw_tbl := fun w h => wsL_law_in w (inlX1 w h)
theorem inlX2 : ∀ w ∈ wsX20, w ∈ wsL_law := fun _ h => List.mem_append_left _ (List.mem_append_left _ (List.mem_append_left _ (List.mem_append_left _ (List.mem_append_left _ (List.mem_append_left _ (List.mem_append_right _ h))))))
theorem inX2 : ∀ w ∈ wsX20, w ∈ lw_tbl := fun w h => wsL_law_in w (inlX2 w h)
theorem inlX3 : ∀ w ∈ wsX30, w ∈ wsL_law := fun _ h => List.mem_append_left _ (List.mem_append_left _ (List.mem_append_left _ (List.mem_append_left _ (List.mem_append_left _ (List.mem_append_left _ (List.mem_append_left _ (List.mem_append_left _ (List.mem_append_right _ h))))))))
theorem inX3 : ∀ w ∈ wsX30, w ∈ lw_tbl := fun w h => wsL_law_in w (inlX3 w h)
theorem inlX4 : ∀ w ∈ wsX40, w ∈ wsL_law := fun _ h => List.mem_append_left _ (List.mem_append_left _ (List.mem_append_left _ (List.mem_append_left _ (List.mem_append_left _ (List.mem_append_left _ (List.mem_append_left _ (List.mem_append_left _ (List.mem_append_left _ (List.mem_append_right _ h)))))))))
theorem inX4 : ∀ w ∈ wsX40, w ∈ lw_tbl := fun w h => wsL_law_in w (inlX4 w h)
theorem inX5 : ∀ w ∈ wsX50, w ∈ lw_tbl := by decide +kernel
theorem inJx145de : ∀ w ∈ wsJx145de0, w ∈ lw_tbl := by decide +kernel
theorem inJx8e188 : ∀ w ∈ wsJx8e1880, w ∈ lw_tbl := by decide +kernel
theorem inJxab1ab : ∀ w ∈ wsJxab1ab0, w ∈ lw_tbl := by decide +kernel
theorem inJ9 : ∀ w ∈ wsJ90, w ∈ lw_tbl := by decide +kernel
theorem inJ0 : ∀ w ∈ wsJ00, w ∈ lw_tbl := by decide +kernel
theorem inJ10 : ∀ w ∈ wsJ100, w ∈ lw_tbl := by decide +kernel
theorem inJxa1e45 : ∀ w ∈ wsJxa1e450, w ∈ lw_tbl := by decide +kernel
theorem inJxc12de : ∀ w ∈ wsJxc12de0, w ∈ lw_tbl := by decide +kernel
theorem inlJx4a65c : ∀ w ∈ wsJx4a65c0, w ∈ wsL_law := fun _ h => List.mem_append_left _ (List.mem_append_left _ (List.mem_append_left _ (List.mem_append_left _ (List.mem_append_left _ (List.mem_append_left _ (List.mem_append_left _ (List.mem_append_right _ h)))))))
theorem inJx4a65c : ∀ w ∈ wsJx4a65c0, w ∈ lw_tbl := fun w h => wsL_law_in w (inlJx4a65c w h)
theorem inJ7 : ∀ w ∈ wsJ70, w ∈ lw_tbl := by decide +kernel
theorem inJx5ef63 : ∀ w ∈ wsJx5ef630, w ∈ lw_tbl := by decide +kernel
theorem inJxbd725 : ∀ w ∈ wsJxbd7250, w ∈ lw_tbl := by decide +kernel
theorem inJ15 : ∀ w ∈ wsJ150, w ∈ lw_tbl := by decide +kernel
theorem inJxf0a74 : ∀ w ∈ wsJxf0a740, w ∈ lw_tbl := by decide +kernel
theorem inJxa66e6 : ∀ w ∈ wsJxa66e60, w ∈ lw_tbl := by decide +kernel
theorem inJ8 : ∀ w ∈ wsJ80, w ∈ lw_tbl := by decide +kernel
theorem inJ3 : ∀ w ∈ wsJ30, w ∈ lw_tbl := by decide +kernel
