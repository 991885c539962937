theorem z_places {big ws : List Cond} (ps : List Nat) (hp : ws = ps.filterMap (fun i => big[i]?)) : ∀ w ∈ ws, w ∈ big := by
  intro w hw
  rw [hp] at hw
  obtain ⟨i, -, hi⟩ := List.mem_filterMap.mp hw
  exact List.mem_of_getElem? hi
theorem z_inapp {big a b : List Cond} (ha : ∀ w ∈ a, w ∈ big) (hb : ∀ w ∈ b, w ∈ big) : ∀ w ∈ a ++ b, w ∈ big := fun w h => (List.mem_append.mp h).elim (ha w) (hb w)
theorem zc_wsL_law0_r1 : ∀ w ∈ wsL_law0_r1, w ∈ lw_tbl := z_places [40, 41, 20, 659, 42, 43, 44, 45, 46, 47, 48, 49, 21, 89, 63, 64, 24, 90, 91, 92, 93, 51, 52, 53] (by decide +kernel)
theorem zc_wsL_law0_r2 : ∀ w ∈ wsL_law0_r2, w ∈ lw_tbl := z_places [54, 56, 65, 66, 67, 75, 77, 68, 69, 23, 70, 79, 71, 72, 22, 73, 74, 111, 112, 19, 113, 114, 115, 116] (by decide +kernel)
theorem zc_wsL_law0_r3 : ∀ w ∈ wsL_law0_r3, w ∈ lw_tbl := z_places [117, 556, 557, 558, 559, 560, 561, 562, 563, 564, 204, 205, 206, 121, 207, 208, 209, 210, 211, 235, 236, 30, 126, 127] (by decide +kernel)
theorem zc_wsL_law0_r4 : ∀ w ∈ wsL_law0_r4, w ∈ lw_tbl := z_places [128, 129, 28, 212, 213, 214, 215, 78, 216, 217, 218, 219, 29, 237, 238, 239, 240, 241, 243, 245, 247, 250, 266, 267] (by decide +kernel)
theorem zc_wsL_law0_r5 : ∀ w ∈ wsL_law0_r5, w ∈ lw_tbl := z_places [268, 269, 80, 81, 270, 272, 1, 273, 274, 276, 2, 277, 278, 280, 3, 281, 320, 286, 32, 287, 321, 282, 283, 31] (by decide +kernel)
theorem zc_wsL_law0_r6 : ∀ w ∈ wsL_law0_r6, w ∈ lw_tbl := z_places [284, 285, 288, 289, 290, 291, 292, 293, 33, 294, 295, 673, 296, 307, 308, 309, 310, 311, 313, 314, 315, 316, 317, 319] (by decide +kernel)
theorem zc_wsL_law0_r7 : ∀ w ∈ wsL_law0_r7, w ∈ lw_tbl := z_places [318, 34, 322, 323, 324, 325, 326, 327, 328, 329, 330, 35, 331, 332, 333, 334, 335, 337, 339, 354, 355, 356, 357, 358] (by decide +kernel)
theorem zc_wsL_law0_r8 : ∀ w ∈ wsL_law0_r8, w ∈ lw_tbl := z_places [359, 360, 361, 94, 396, 397, 39, 362, 364, 4, 365, 366, 36, 235, 382, 383, 384, 385, 386, 387, 37, 388, 389, 390] (by decide +kernel)
theorem zc_wsL_law0_r9 : ∀ w ∈ wsL_law0_r9, w ∈ lw_tbl := z_places [38, 391, 392, 393, 394, 395, 398, 399, 400, 401, 410, 412, 402, 404, 550, 551, 552, 565, 566, 567, 568, 569, 570, 571] (by decide +kernel)
theorem zc_wsL_law0_r10 : ∀ w ∈ wsL_law0_r10, w ∈ lw_tbl := z_places [572, 573, 553, 554, 555, 574, 575, 576, 429, 430, 431, 432, 433, 434, 435, 338, 403, 246, 413, 436, 438, 5, 439, 396] (by decide +kernel)
theorem zc_wsL_law0_r11 : ∀ w ∈ wsL_law0_r11, w ∈ lw_tbl := z_places [441, 442, 443, 445, 447, 6, 448, 329, 450, 451, 452, 453, 406, 407, 408, 456, 457, 458, 459, 460, 461, 462, 463, 464] (by decide +kernel)
theorem zc_wsL_law0_r12 : ∀ w ∈ wsL_law0_r12, w ∈ lw_tbl := z_places [466, 7, 467, 411, 468, 470, 8, 471, 405, 472, 473, 474, 475, 476, 244, 248, 477, 478, 479, 480, 481, 482, 484, 9] (by decide +kernel)
theorem zc_wsL_law0_r13 : ∀ w ∈ wsL_law0_r13, w ∈ lw_tbl := z_places [485, 409, 486, 487, 488, 489, 490, 491, 493, 10, 494, 495, 496, 497, 498, 500, 11, 501, 249, 251, 502, 504, 12, 505] (by decide +kernel)
