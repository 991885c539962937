theorem zc_wsL_law0_r14 : ∀ w ∈ wsL_law0_r14, w ∈ lw_tbl := z_places [506, 507, 508, 509, 510, 511, 512, 514, 515, 516, 517, 518, 519, 520, 95, 523, 524, 525, 526, 527, 529, 13, 530, 118] (by decide +kernel)
theorem zc_wsL_law0_r15 : ∀ w ∈ wsL_law0_r15, w ∈ lw_tbl := z_places [119, 120, 122, 123, 124, 125, 55, 57, 197, 198, 199, 200, 201, 202, 203, 531, 532, 533, 534, 535, 536, 537, 539, 541] (by decide +kernel)
theorem zc_told : Cond.code yL_isTold cL_isTold 19 (some .boolean) ∈ lw_tbl := List.mem_append_right _ (List.mem_append_right _ (List.mem_append_right _ (List.mem_of_getElem? (i := 80) rfl)))
theorem zc_wsL_law0_r16 : ∀ w ∈ wsL_law0_r16, w ∈ lw_tbl := by
  have e : wsL_law0_r16 = [Cond.selects RX4 yX4_becomesDone yX4_becomesDone, Cond.code yX4_becomesDone cX4_becomesDone 3 (some .boolean), Cond.fieldLink RX4 196 "HarbourPilotline$Ship" "owes" "I", Cond.fieldLink RX4 209 "HarbourPilotline$Pilot" "rate" "I", Cond.fieldLink RX4 199 "HarbourPilotline$Pilot" "movesDone" "I", Cond.fieldLink RX4 202 "HarbourPilotline$Pilot" "minutesDone" "I", Cond.methodLink RL 157 yL_isTold, Cond.static yL_isTold] ++ (Cond.code yL_isTold cL_isTold 19 (some .boolean) :: [Cond.methodLink RL 103 yL_ofConference, Cond.static yL_ofConference, Cond.codeWith yL_ofConference cL_ofConference 5 (some .int) [(0, 7, 10, 33)], Cond.methodLink RL 54 yX4_ofConference, Cond.instanceMethod yX4_ofConference, Cond.selects RX4 yX4_ofConference yX4_ofConference, Cond.code yX4_ofConference cX4_ofConference 4 (some .int), Cond.fieldLink RX4 171 "HarbourPilotline$Pilot" "number" "I", Cond.fieldLink RX4 174 "HarbourPilotline$Ship" "number" "I", Cond.methodLink RL 106 yL_count, Cond.static yL_count, Cond.codeWith yL_count cL_count 4 (some .int) [(0, 6, 9, 14)], Cond.methodLink RL 72 yX4_count, Cond.instanceMethod yX4_count, Cond.selects RX4 yX4_count yX4_count]) := rfl
  rw [e]
  exact z_inapp (z_places [14, 542, 252, 340, 341, 342, 577, 578] (by decide +kernel)) (List.forall_mem_cons.mpr ⟨zc_told, z_places [580, 581, 582, 583, 584, 585, 586, 336, 242, 588, 589, 590, 591, 592, 593] (by decide +kernel)⟩)
theorem zc_wsL_law0_r17 : ∀ w ∈ wsL_law0_r17, w ∈ lw_tbl := z_places [594, 595, 597, 15, 598, 599, 601, 16, 602, 603, 604, 605, 606, 607, 608, 609, 610, 612, 17, 613, 614, 615, 616, 617] (by decide +kernel)
theorem zc_wsL_law0_r18 : ∀ w ∈ wsL_law0_r18, w ∈ lw_tbl := z_places [618, 619, 620, 621, 622, 623, 624, 625, 626, 627, 628, 630, 18, 631, 632, 633, 634, 635, 636, 637, 638, 639, 640, 641] (by decide +kernel)
theorem zc_wsL_law0_r19 : ∀ w ∈ wsL_law0_r19, w ∈ lw_tbl := z_places [642, 643, 644, 645, 647, 648, 649, 650, 651, 652, 653, 654, 655, 656, 657, 658, 543, 544, 545, 546, 547, 548, 549] (by decide +kernel)
theorem zc_wsX40 : ∀ w ∈ wsX40, w ∈ lw_tbl := z_places [96, 98, 100, 102, 104, 106, 108] (by decide +kernel)
theorem zc_wsX30 : ∀ w ∈ wsX30, w ∈ lw_tbl := z_places [58, 60] (by decide +kernel)
theorem zc_wsJx4a65c0 : ∀ w ∈ wsJx4a65c0, w ∈ lw_tbl := z_places [86, 82, 84] (by decide +kernel)
theorem zc_wsX20 : ∀ w ∈ wsX20, w ∈ lw_tbl := z_places [253, 255, 257, 259, 261, 263] (by decide +kernel)
theorem zc_wsX10 : ∀ w ∈ wsX10, w ∈ lw_tbl := z_places [343, 345, 347, 349, 351] (by decide +kernel)
theorem zc_wsX00 : ∀ w ∈ wsX00, w ∈ lw_tbl := z_places [414, 416, 418, 420, 422, 424, 426] (by decide +kernel)
theorem wsL_law_in0 : ∀ w ∈ wsL_law0, w ∈ lw_tbl := z_inapp (z_inapp (z_inapp (z_inapp (z_inapp (z_inapp (z_inapp (z_inapp zc_wsL_law0_r1 (z_inapp zc_wsL_law0_r2 (z_inapp zc_wsL_law0_r3 (z_inapp zc_wsL_law0_r4 (z_inapp zc_wsL_law0_r5 (z_inapp zc_wsL_law0_r6 (z_inapp zc_wsL_law0_r7 (z_inapp zc_wsL_law0_r8 (z_inapp zc_wsL_law0_r9 (z_inapp zc_wsL_law0_r10 (z_inapp zc_wsL_law0_r11 (z_inapp zc_wsL_law0_r12 (z_inapp zc_wsL_law0_r13 (z_inapp zc_wsL_law0_r14 (z_inapp zc_wsL_law0_r15 (z_inapp zc_wsL_law0_r16 (z_inapp zc_wsL_law0_r17 (z_inapp zc_wsL_law0_r18 (zc_wsL_law0_r19))))))))))))))))))) zc_wsX40) zc_wsX30) zc_wsJx4a65c0) zc_wsX20) zc_wsX10) zc_wsX00) (fun _ h => absurd h List.not_mem_nil)
theorem wsL_law_x0 : ∀ w ∈ (vx_atS RX4 226 "java/lang/IllegalArgumentException" ["java/lang/RuntimeException", "java/lang/Exception"]).filter goodWord, w ∈ lw_tbl := by decide +kernel
theorem wsL_law_x1 : ∀ w ∈ (vx_atS RX4 96 "java/lang/IllegalStateException" ["java/lang/RuntimeException", "java/lang/Exception"]).filter goodWord, w ∈ lw_tbl := by decide +kernel
theorem wsL_law_x2 : ∀ w ∈ (vx_atS RX4 179 "java/lang/IndexOutOfBoundsException" ["java/lang/RuntimeException", "java/lang/Exception"]).filter goodWord, w ∈ lw_tbl := by decide +kernel
theorem wsL_law_in : ∀ w ∈ wsL_law, w ∈ lw_tbl := fun w h => (List.mem_append.mp h).elim (fun h => (List.mem_append.mp h).elim (fun h => (List.mem_append.mp h).elim (fun h => wsL_law_in0 w h) (fun h => wsL_law_x0 w h)) (fun h => wsL_law_x1 w h)) (fun h => wsL_law_x2 w h)
theorem inlX0 : ∀ w ∈ wsX00, w ∈ wsL_law := fun _ h => List.mem_append_left _ (List.mem_append_left _ (List.mem_append_left _ (List.mem_append_left _ (List.mem_append_right _ h))))
theorem inX0 : ∀ w ∈ wsX00, w ∈ lw_tbl := fun w h => wsL_law_in w (inlX0 w h)
theorem inlX1 : ∀ w ∈ wsX10, w ∈ wsL_law := fun _ h => List.mem_append_left _ (List.mem_append_left _ (List.mem_append_left _ (List.mem_append_left _ (List.mem_append_left _ (List.mem_append_right _ h)))))
theorem inX1 : ∀ w ∈ wsX10, w ∈ lw_tbl := fun w h => wsL_law_in w (inlX1 w h)
theorem inlX2 : ∀ w ∈ wsX20, w ∈ wsL_law := fun _ h => List.mem_append_left _ (List.mem_append_left _ (List.mem_append_left _ (List.mem_append_left _ (List.mem_append_left _ (List.mem_append_left _ (List.mem_append_right _ h))))))
theorem inX2 : ∀ w ∈ wsX20, w ∈ lw_tbl := fun w h => wsL_law_in w (inlX2 w h)
theorem inlX3 : ∀ w ∈ wsX30, w ∈ wsL_law := fun _ h => List.mem_append_left _ (List.mem_append_left _ (List.mem_append_left _ (List.mem_append_left _ (List.mem_append_left _ (List.mem_append_left _ (List.mem_append_left _ (List.mem_append_left _ (List.mem_append_right _ h))))))))
theorem inX3 : ∀ w ∈ wsX30, w ∈ lw_tbl := fun w h => wsL_law_in w (inlX3 w h)
theorem inlX4 : ∀ w ∈ wsX40, w ∈ wsL_law := fun _ h => List.mem_append_left _ (List.mem_append_left _ (List.mem_append_left _ (List.mem_append_left _ (List.mem_append_left _ (List.mem_append_left _ (List.mem_append_left _ (List.mem_append_left _ (List.mem_append_left _ (List.mem_append_right _ h)))))))))
theorem inX4 : ∀ w ∈ wsX40, w ∈ lw_tbl := fun w h => wsL_law_in w (inlX4 w h)
theorem inX5 : ∀ w ∈ wsX50, w ∈ lw_tbl := by decide +kernel
theorem inJx145de : ∀ w ∈ wsJx145de0, w ∈ lw_tbl := by decide +kernel
theorem inJx8e188 : ∀ w ∈ wsJx8e1880, w ∈ lw_tbl := by decide +kernel
theorem inJxab1ab : ∀ w ∈ wsJxab1ab0, w ∈ lw_tbl := by decide +kernel
theorem inJ9 : ∀ w ∈ wsJ90, w ∈ lw_tbl := by decide +kernel
theorem inJ0 : ∀ w ∈ wsJ00, w ∈ lw_tbl := by decide +kernel
theorem inJ10 : ∀ w ∈ wsJ100, w ∈ lw_tbl := by decide +kernel
theorem inJxa1e45 : ∀ w ∈ wsJxa1e450, w ∈ lw_tbl := by decide +kernel
theorem inJxc12de : ∀ w ∈ wsJxc12de0, w ∈ lw_tbl := by decide +kernel
theorem inlJx4a65c : ∀ w ∈ wsJx4a65c0, w ∈ wsL_law := fun _ h => List.mem_append_left _ (List.mem_append_left _ (List.mem_append_left _ (List.mem_append_left _ (List.mem_append_left _ (List.mem_append_left _ (List.mem_append_left _ (List.mem_append_right _ h)))))))
theorem inJx4a65c : ∀ w ∈ wsJx4a65c0, w ∈ lw_tbl := fun w h => wsL_law_in w (inlJx4a65c w h)
theorem inJ7 : ∀ w ∈ wsJ70, w ∈ lw_tbl := by decide +kernel
theorem inJx5ef63 : ∀ w ∈ wsJx5ef630, w ∈ lw_tbl := by decide +kernel
theorem inJxbd725 : ∀ w ∈ wsJxbd7250, w ∈ lw_tbl := by decide +kernel
theorem inJ15 : ∀ w ∈ wsJ150, w ∈ lw_tbl := by decide +kernel
theorem inJxf0a74 : ∀ w ∈ wsJxf0a740, w ∈ lw_tbl := by decide +kernel
theorem inJxa66e6 : ∀ w ∈ wsJxa66e60, w ∈ lw_tbl := by decide +kernel
theorem inJ8 : ∀ w ∈ wsJ80, w ∈ lw_tbl := by decide +kernel
theorem inJ3 : ∀ w ∈ wsJ30, w ∈ lw_tbl := by decide +kernel

