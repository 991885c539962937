set_option maxRecDepth 20000 in
theorem ggL_reason_L_shipOf : GoodIn wsL_reason wsL_shipOf := goodIn_r _ [4] (by decide +kernel) (by decide +kernel)
set_option maxRecDepth 20000 in
theorem gL_reason_L_shipOf : GoodIn wsL_reason (va_wsS RL 75 yL_shipOf wsL_shipOf) := goodIn_app (goodIn_of _ (by decide +kernel)) ggL_reason_L_shipOf
set_option maxRecDepth 20000 in
theorem ggL_reason_L_takes : GoodIn wsL_reason wsL_takes := goodIn_r _ [7] (by decide +kernel) (by decide +kernel)
set_option maxRecDepth 20000 in
theorem gL_reason_L_takes : GoodIn wsL_reason (va_wsS RL 80 yL_takes wsL_takes) := goodIn_app (goodIn_of _ (by decide +kernel)) ggL_reason_L_takes
set_option maxRecDepth 20000 in
theorem ggL_reason_L_tideAt : GoodIn wsL_reason wsL_tideAt := goodIn_r _ [10] (by decide +kernel) (by decide +kernel)
set_option maxRecDepth 20000 in
theorem gL_reason_L_tideAt : GoodIn wsL_reason (va_wsS RL 83 yL_tideAt wsL_tideAt) := goodIn_app (goodIn_of _ (by decide +kernel)) ggL_reason_L_tideAt
set_option maxRecDepth 20000 in
theorem ggL_reason_L_draught : GoodIn wsL_reason wsL_draught := goodIn_r _ [13] (by decide +kernel) (by decide +kernel)
set_option maxRecDepth 20000 in
theorem gL_reason_L_draught : GoodIn wsL_reason (va_wsS RL 87 yL_draught wsL_draught) := goodIn_app (goodIn_of _ (by decide +kernel)) ggL_reason_L_draught
set_option maxRecDepth 20000 in
theorem ggL_reason_L_stateOf : GoodIn wsL_reason wsL_stateOf := goodIn_r _ [16] (by decide +kernel) (by decide +kernel)
set_option maxRecDepth 20000 in
theorem gL_reason_L_stateOf : GoodIn wsL_reason (va_wsS RL 90 yL_stateOf wsL_stateOf) := goodIn_app (goodIn_of _ (by decide +kernel)) ggL_reason_L_stateOf
set_option maxRecDepth 20000 in
theorem ggL_reason_L_pilotOf : GoodIn wsL_reason wsL_pilotOf := goodIn_r _ [19] (by decide +kernel) (by decide +kernel)
set_option maxRecDepth 20000 in
theorem gL_reason_L_pilotOf : GoodIn wsL_reason (va_wsS RL 93 yL_pilotOf wsL_pilotOf) := goodIn_app (goodIn_of _ (by decide +kernel)) ggL_reason_L_pilotOf
set_option maxRecDepth 20000 in
theorem ggL_reason_L_needs : GoodIn wsL_reason wsL_needs := goodIn_r _ [22] (by decide +kernel) (by decide +kernel)
set_option maxRecDepth 20000 in
theorem gL_reason_L_needs : GoodIn wsL_reason (va_wsS RL 96 yL_needs wsL_needs) := goodIn_app (goodIn_of _ (by decide +kernel)) ggL_reason_L_needs
set_option maxRecDepth 20000 in
theorem ggL_looks_L_reason : GoodIn wsL_looks wsL_reason := goodIn_r _ [4, 5, 6, 3, 7, 8, 9, 10, 11, 12, 13, 14, 15, 16, 17, 18, 19, 20, 21, 22, 23, 24, 25] (by decide +kernel) (by decide +kernel)
set_option maxRecDepth 20000 in
theorem gL_looks_L_reason : GoodIn wsL_looks (va_wsS RL 99 yL_reason wsL_reason) := goodIn_app (goodIn_of _ (by decide +kernel)) ggL_looks_L_reason
set_option maxRecDepth 20000 in
theorem ggL_isTold_L_ofConference : GoodIn wsL_isTold wsL_ofConference := goodIn_ca (goodIn_r _ [5, 6, 7, 8, 9, 10, 11, 12, 13, 14, 15, 16, 17, 18, 19, 20, 21, 22, 23, 24, 25, 26, 27, 28, 29, 30, 31, 32, 33, 34, 35, 36, 37, 38, 39, 40, 41, 42, 43, 44, 45, 46, 47, 48, 49, 50, 51, 52, 53, 54, 55, 56, 231, 232, 233, 234, 235, 236, 237, 238, 239, 240, 241, 242, 243, 244, 245, 246, 247, 248, 249, 250, 251, 252, 253, 254, 255, 256, 257, 258] (by decide +kernel) (by decide +kernel)) (goodIn_sub (fun _ h => List.mem_cons_of_mem _ (List.mem_append_left _ (List.mem_append_left _ (List.mem_append_right _ h)))) (by decide +kernel))
set_option maxRecDepth 20000 in
theorem gL_isTold_L_ofConference : GoodIn wsL_isTold (va_wsS RL 103 yL_ofConference wsL_ofConference) := goodIn_app (goodIn_of _ (by decide +kernel)) ggL_isTold_L_ofConference
set_option maxRecDepth 20000 in
theorem ggL_isTold_L_stateOf : GoodIn wsL_isTold wsL_stateOf := goodIn_r _ [59] (by decide +kernel) (by decide +kernel)
set_option maxRecDepth 20000 in
theorem gL_isTold_L_stateOf : GoodIn wsL_isTold (va_wsS RL 90 yL_stateOf wsL_stateOf) := goodIn_app (goodIn_of _ (by decide +kernel)) ggL_isTold_L_stateOf
set_option maxRecDepth 20000 in
theorem ggL_isTold_L_pilotOf : GoodIn wsL_isTold wsL_pilotOf := goodIn_r _ [62] (by decide +kernel) (by decide +kernel)
set_option maxRecDepth 20000 in
theorem gL_isTold_L_pilotOf : GoodIn wsL_isTold (va_wsS RL 93 yL_pilotOf wsL_pilotOf) := goodIn_app (goodIn_of _ (by decide +kernel)) ggL_isTold_L_pilotOf
set_option maxRecDepth 20000 in
theorem ggL_isTold_L_shipOf : GoodIn wsL_isTold wsL_shipOf := goodIn_r _ [65] (by decide +kernel) (by decide +kernel)
set_option maxRecDepth 20000 in
theorem gL_isTold_L_shipOf : GoodIn wsL_isTold (va_wsS RL 75 yL_shipOf wsL_shipOf) := goodIn_app (goodIn_of _ (by decide +kernel)) ggL_isTold_L_shipOf
set_option maxRecDepth 20000 in
theorem ggL_isTold_L_needs : GoodIn wsL_isTold wsL_needs := goodIn_r _ [68] (by decide +kernel) (by decide +kernel)
set_option maxRecDepth 20000 in
theorem gL_isTold_L_needs : GoodIn wsL_isTold (va_wsS RL 96 yL_needs wsL_needs) := goodIn_app (goodIn_of _ (by decide +kernel)) ggL_isTold_L_needs
set_option maxRecDepth 20000 in
theorem ggL_isTold_L_count : GoodIn wsL_isTold wsL_count := goodIn_ca (goodIn_r _ [71, 72, 73, 74, 75, 10, 76, 77, 78, 79, 80, 81, 82, 83, 84, 85, 86, 87, 24, 25, 15, 18, 88, 89, 26, 27, 28, 29, 30, 31, 32, 33, 34, 35, 36, 37, 38, 39, 40, 41, 42, 43, 44, 45, 46, 47, 48, 90, 91, 92, 93, 94, 95, 96, 97, 98, 99, 100, 14, 249, 250, 251, 252, 253, 254, 255, 231, 232, 233, 234, 235, 236, 237, 243, 244, 245, 246, 247, 248, 256, 257, 258] (by decide +kernel) (by decide +kernel)) (goodIn_sub (fun _ h => List.mem_cons_of_mem _ (List.mem_append_left _ (List.mem_append_right _ h))) (by decide +kernel))
set_option maxRecDepth 20000 in
theorem gL_isTold_L_count : GoodIn wsL_isTold (va_wsS RL 106 yL_count wsL_count) := goodIn_app (goodIn_of _ (by decide +kernel)) ggL_isTold_L_count
set_option maxRecDepth 20000 in
theorem ggL_isTold_L_takes : GoodIn wsL_isTold wsL_takes := goodIn_r _ [103] (by decide +kernel) (by decide +kernel)
set_option maxRecDepth 20000 in
theorem gL_isTold_L_takes : GoodIn wsL_isTold (va_wsS RL 80 yL_takes wsL_takes) := goodIn_app (goodIn_of _ (by decide +kernel)) ggL_isTold_L_takes
set_option maxRecDepth 20000 in
theorem ggL_isTold_L_rested : GoodIn wsL_isTold wsL_rested := goodIn_ca (goodIn_r _ [106, 6, 107, 108, 109, 10, 110, 111, 112, 113, 114, 12, 13, 115, 116, 26, 27, 28, 29, 30, 31, 32, 33, 34, 35, 36, 37, 38, 39, 40, 41, 42, 43, 44, 45, 46, 47, 48, 117, 118, 119, 120, 77, 24, 25, 16, 15, 18, 121, 122, 123, 124, 125, 126, 127, 128, 129, 130, 131, 249, 250, 251, 252, 253, 254, 255, 256, 257, 258, 231, 232, 233, 234, 235, 236, 237, 243, 244, 245, 246, 247, 248] (by decide +kernel) (by decide +kernel)) (goodIn_sub (fun _ h => List.mem_cons_of_mem _ (List.mem_append_left _ (List.mem_append_left _ (List.mem_append_right _ h)))) (by decide +kernel))
set_option maxRecDepth 20000 in
theorem gL_isTold_L_rested : GoodIn wsL_isTold (va_wsS RL 109 yL_rested wsL_rested) := goodIn_app (goodIn_of _ (by decide +kernel)) ggL_isTold_L_rested
set_option maxRecDepth 20000 in
theorem ggL_isTold_L_restedAnew : GoodIn wsL_isTold wsL_restedAnew := goodIn_ca (goodIn_r _ [134, 6, 135, 136, 137, 10, 138, 111, 112, 113, 114, 12, 13, 115, 116, 26, 27, 28, 29, 30, 31, 32, 33, 34, 35, 36, 37, 38, 39, 40, 41, 42, 43, 44, 45, 46, 47, 48, 117, 118, 119, 120, 77, 24, 25, 16, 15, 18, 121, 122, 123, 124, 125, 126, 127, 128, 129, 130, 131, 249, 250, 251, 252, 253, 254, 255, 256, 257, 258, 231, 232, 233, 234, 235, 236, 237, 243, 244, 245, 246, 247, 248] (by decide +kernel) (by decide +kernel)) (goodIn_sub (fun _ h => List.mem_cons_of_mem _ (List.mem_append_left _ (List.mem_append_left _ (List.mem_append_right _ h)))) (by decide +kernel))
set_option maxRecDepth 20000 in
theorem gL_isTold_L_restedAnew : GoodIn wsL_isTold (va_wsS RL 111 yL_restedAnew wsL_restedAnew) := goodIn_app (goodIn_of _ (by decide +kernel)) ggL_isTold_L_restedAnew
set_option maxRecDepth 20000 in
theorem ggL_isTold_L_ofPilot : GoodIn wsL_isTold wsL_ofPilot := goodIn_ca (goodIn_r _ [141, 6, 142, 143, 144, 10, 145, 12, 13, 146, 147, 148, 111, 112, 113, 114, 115, 116, 26, 27, 28, 29, 30, 31, 32, 33, 34, 35, 36, 37, 38, 39, 40, 41, 42, 43, 44, 45, 46, 47, 48, 149, 150, 151, 152, 24, 25, 16, 14, 238, 239, 240, 241, 242, 249, 250, 251, 252, 253, 254, 255, 256, 257, 258, 231, 232, 233, 234, 235, 236, 237] (by decide +kernel) (by decide +kernel)) (goodIn_sub (fun _ h => List.mem_cons_of_mem _ (List.mem_append_left _ (List.mem_append_left _ (List.mem_append_right _ h)))) (by decide +kernel))
set_option maxRecDepth 20000 in
theorem gL_isTold_L_ofPilot : GoodIn wsL_isTold (va_wsS RL 113 yL_ofPilot wsL_ofPilot) := goodIn_app (goodIn_of _ (by decide +kernel)) ggL_isTold_L_ofPilot
set_option maxRecDepth 20000 in
theorem ggL_isTold_L_bill : GoodIn wsL_isTold wsL_bill := goodIn_ca (goodIn_r _ [155, 6, 156, 157, 158, 10, 159, 96, 160, 161, 162, 163, 12, 13, 94, 95, 26, 27, 28, 29, 30, 31, 32, 33, 34, 35, 36, 37, 38, 39, 40, 41, 42, 43, 44, 45, 46, 47, 48, 243, 244, 245, 246, 247, 248, 249, 250, 251, 252, 253, 254, 255, 256, 257, 258] (by decide +kernel) (by decide +kernel)) (goodIn_sub (fun _ h => List.mem_cons_of_mem _ (List.mem_append_left _ (List.mem_append_left _ (List.mem_append_right _ h)))) (by decide +kernel))
set_option maxRecDepth 20000 in
theorem gL_isTold_L_bill : GoodIn wsL_isTold (va_wsS RL 115 yL_bill wsL_bill) := goodIn_app (goodIn_of _ (by decide +kernel)) ggL_isTold_L_bill
set_option maxRecDepth 20000 in
theorem ggL_isTold_L_low : GoodIn wsL_isTold wsL_low := goodIn_r _ [166] (by decide +kernel) (by decide +kernel)
set_option maxRecDepth 20000 in
theorem gL_isTold_L_low : GoodIn wsL_isTold (va_wsS RL 117 yL_low wsL_low) := goodIn_app (goodIn_of _ (by decide +kernel)) ggL_isTold_L_low
set_option maxRecDepth 20000 in
theorem ggL_isTold_L_why : GoodIn wsL_isTold wsL_why := goodIn_ca (goodIn_ca (goodIn_ca (goodIn_r _ [169, 6, 72, 170, 171, 172, 173, 10, 174, 175, 176, 77, 16, 177, 18, 20, 21, 22, 23, 12, 13, 24, 25, 26, 27, 28, 29, 30, 31, 32, 33, 34, 35, 36, 37, 38, 39, 40, 41, 42, 43, 44, 45, 46, 47, 48, 79, 80, 81, 82, 83, 178, 179, 180, 181, 182, 183, 184, 185, 186, 187, 188, 189, 190, 191, 123, 192, 193, 194, 195, 196, 197, 15, 121, 122, 124, 125, 126, 127, 128, 129, 130, 131, 198, 199, 200, 201, 88, 202, 89, 84, 85, 86, 87, 203, 204, 205, 206, 207, 208, 209, 249, 250, 251, 252, 253, 254, 255, 231, 232, 233, 234, 235, 236, 237, 256, 257, 258, 243, 244, 245, 246, 247, 248, 259, 260] (by decide +kernel) (by decide +kernel)) (goodIn_sub (fun _ h => List.mem_cons_of_mem _ (List.mem_append_right _ h)) (by decide +kernel))) (goodIn_sub (fun _ h => List.mem_cons_of_mem _ (List.mem_append_left _ (List.mem_append_left _ (List.mem_append_right _ h)))) (by decide +kernel))) (goodIn_sub (fun _ h => List.mem_cons_of_mem _ (List.mem_append_left _ (List.mem_append_right _ h))) (by decide +kernel))
set_option maxRecDepth 20000 in
theorem gL_isTold_L_why : GoodIn wsL_isTold (va_wsS RL 120 yL_why wsL_why) := goodIn_app (goodIn_of _ (by decide +kernel)) ggL_isTold_L_why
set_option maxRecDepth 20000 in
theorem ggL_isTold_L_reason : GoodIn wsL_isTold wsL_reason := goodIn_r _ [212, 63, 64, 4, 65, 101, 102, 103, 213, 214, 215, 216, 217, 218, 57, 58, 59, 60, 61, 62, 66, 67, 68] (by decide +kernel) (by decide +kernel)
set_option maxRecDepth 20000 in
theorem gL_isTold_L_reason : GoodIn wsL_isTold (va_wsS RL 99 yL_reason wsL_reason) := goodIn_app (goodIn_of _ (by decide +kernel)) ggL_isTold_L_reason
set_option maxRecDepth 20000 in
theorem ggL_isTold_X4_minute : GoodIn wsL_isTold wsX4_minute := goodIn_r _ [222, 77, 249, 250, 251, 252, 253, 254, 255] (by decide +kernel) (by decide +kernel)
set_option maxRecDepth 20000 in
theorem gL_isTold_X4_minute : GoodIn wsL_isTold (wsV RL 122 RX4 yX4_minute wsX4_minute) := goodIn_app (goodIn_of _ (by decide +kernel)) ggL_isTold_X4_minute
set_option maxRecDepth 20000 in
theorem ggL_isTold_L_level : GoodIn wsL_isTold wsL_level := goodIn_ca (goodIn_r _ [225, 72, 226, 227, 228, 10, 229, 177, 79, 80, 81, 82, 83, 230, 187, 188, 181, 189, 190, 191, 123, 192, 193, 249, 250, 251, 252, 253, 254, 255, 259, 260] (by decide +kernel) (by decide +kernel)) (goodIn_sub (fun _ h => List.mem_cons_of_mem _ (List.mem_append_left _ (List.mem_append_right _ h))) (by decide +kernel))
set_option maxRecDepth 20000 in
theorem gL_isTold_L_level : GoodIn wsL_isTold (va_wsS RL 126 yL_level wsL_level) := goodIn_app (goodIn_of _ (by decide +kernel)) ggL_isTold_L_level
set_option maxRecDepth 20000 in
theorem ggL_isTold_L_tideAt : GoodIn wsL_isTold wsL_tideAt := goodIn_r _ [215] (by decide +kernel) (by decide +kernel)
set_option maxRecDepth 20000 in
theorem gL_isTold_L_tideAt : GoodIn wsL_isTold (va_wsS RL 83 yL_tideAt wsL_tideAt) := goodIn_app (goodIn_of _ (by decide +kernel)) ggL_isTold_L_tideAt
set_option maxRecDepth 20000 in
theorem ggL_law_X4_init : GoodIn wsL_law wsX4_init := goodIn_r _ [6, 7, 8, 9, 10, 11, 12, 13, 14, 15, 16, 17, 18, 19, 20, 21, 22, 23, 24, 25, 26, 27, 28, 29, 30, 31, 32, 33, 34, 35, 36, 37, 38, 39, 40, 462, 463, 455, 456, 457, 458, 459, 460, 461, 464, 465, 466] (by decide +kernel) (by decide +kernel)
set_option maxRecDepth 20000 in
theorem gL_law_X4_init : GoodIn wsL_law (wsX4_init) := ggL_law_X4_init
set_option maxRecDepth 20000 in
theorem ggL_law_L_cell : GoodIn wsL_law wsL_cell := goodIn_r _ [44, 45] (by decide +kernel) (by decide +kernel)
set_option maxRecDepth 20000 in
theorem gL_law_L_cell : GoodIn wsL_law (va_wsS RL 129 yL_cell wsL_cell) := goodIn_app (goodIn_of _ (by decide +kernel)) ggL_law_L_cell
set_option maxRecDepth 20000 in
theorem ggL_law_L_low : GoodIn wsL_law wsL_low := goodIn_r _ [48] (by decide +kernel) (by decide +kernel)
set_option maxRecDepth 20000 in
theorem gL_law_L_low : GoodIn wsL_law (va_wsS RL 117 yL_low wsL_low) := goodIn_app (goodIn_of _ (by decide +kernel)) ggL_law_L_low
set_option maxRecDepth 20000 in
theorem ggL_law_L_draught : GoodIn wsL_law wsL_draught := goodIn_r _ [51] (by decide +kernel) (by decide +kernel)
set_option maxRecDepth 20000 in
theorem gL_law_L_draught : GoodIn wsL_law (va_wsS RL 87 yL_draught wsL_draught) := goodIn_app (goodIn_of _ (by decide +kernel)) ggL_law_L_draught
set_option maxRecDepth 20000 in
theorem ggL_law_L_takes : GoodIn wsL_law wsL_takes := goodIn_r _ [54] (by decide +kernel) (by decide +kernel)
set_option maxRecDepth 20000 in
theorem gL_law_L_takes : GoodIn wsL_law (va_wsS RL 80 yL_takes wsL_takes) := goodIn_app (goodIn_of _ (by decide +kernel)) ggL_law_L_takes
set_option maxRecDepth 20000 in
theorem ggL_law_L_needs : GoodIn wsL_law wsL_needs := goodIn_r _ [57] (by decide +kernel) (by decide +kernel)
set_option maxRecDepth 20000 in
theorem gL_law_L_needs : GoodIn wsL_law (va_wsS RL 96 yL_needs wsL_needs) := goodIn_app (goodIn_of _ (by decide +kernel)) ggL_law_L_needs
set_option maxRecDepth 20000 in
theorem ggL_law_L_ship : GoodIn wsL_law wsL_ship := goodIn_ca (goodIn_ca (goodIn_r _ [60, 61, 62, 63, 64, 65, 2, 66, 17, 67, 68, 69, 70, 71, 72, 73, 74, 75, 76, 77, 16, 78, 79, 80, 81, 82, 83, 84, 85, 86, 87, 88, 8, 9, 89, 90, 91, 92, 93, 94, 95, 96, 97, 98, 99, 30, 100, 101, 102, 103, 104, 105, 106, 107, 108, 109, 110, 111, 29, 112, 113, 114, 115, 116, 117, 118, 119, 120, 121, 122, 123, 124, 125, 126, 127, 128, 129, 130, 131, 132, 133, 134, 135, 136, 137, 138, 139, 140, 141, 142, 143, 144, 145, 455, 456, 457, 458, 459, 460, 461, 467, 468, 469, 470, 471, 472, 464, 465, 466] (by decide +kernel) (by decide +kernel)) (goodIn_sub (fun _ h => List.mem_append_left _ (List.mem_append_left _ (List.mem_append_right _ h))) (by decide +kernel))) (goodIn_sub (fun _ h => List.mem_append_left _ (List.mem_append_right _ h)) (by decide +kernel))
set_option maxRecDepth 20000 in
theorem gL_law_L_ship : GoodIn wsL_law (va_wsS RL 133 yL_ship wsL_ship) := goodIn_app (goodIn_of _ (by decide +kernel)) ggL_law_L_ship
set_option maxRecDepth 20000 in
theorem ggL_law_L_pilot : GoodIn wsL_law wsL_pilot := goodIn_ca (goodIn_ca (goodIn_r _ [148, 61, 62, 149, 150, 151, 2, 152, 18, 153, 154, 155, 70, 71, 72, 73, 74, 75, 76, 77, 16, 78, 79, 80, 81, 82, 83, 84, 156, 157, 158, 159, 8, 9, 160, 161, 162, 94, 95, 96, 97, 98, 99, 30, 100, 101, 102, 103, 104, 105, 106, 107, 108, 109, 110, 111, 29, 112, 113, 114, 115, 116, 117, 118, 119, 120, 121, 122, 123, 124, 125, 126, 127, 128, 129, 130, 131, 132, 133, 134, 135, 136, 137, 138, 139, 140, 141, 142, 143, 144, 145, 455, 456, 457, 458, 459, 460, 461, 473, 474, 475, 476, 477, 464, 465, 466] (by decide +kernel) (by decide +kernel)) (goodIn_sub (fun _ h => List.mem_append_left _ (List.mem_append_left _ (List.mem_append_right _ h))) (by decide +kernel))) (goodIn_sub (fun _ h => List.mem_append_left _ (List.mem_append_right _ h)) (by decide +kernel))
set_option maxRecDepth 20000 in
theorem gL_law_L_pilot : GoodIn wsL_law (va_wsS RL 136 yL_pilot wsL_pilot) := goodIn_app (goodIn_of _ (by decide +kernel)) ggL_law_L_pilot
set_option maxRecDepth 20000 in
theorem ggL_law_L_call : GoodIn wsL_law wsL_call := goodIn_ca (goodIn_ca (goodIn_ca (goodIn_r _ [165, 166, 61, 62, 167, 168, 169, 2, 170, 171, 19, 172, 173, 174, 175, 176, 177, 178, 179, 180, 17, 181, 75, 76, 77, 16, 78, 79, 182, 183, 184, 185, 186, 187, 188, 189, 190, 191, 192, 193, 194, 195, 196, 197, 30, 70, 71, 72, 73, 74, 80, 81, 82, 83, 84, 198, 199, 200, 201, 8, 9, 202, 203, 204, 205, 94, 95, 96, 97, 98, 99, 100, 101, 102, 103, 104, 105, 106, 107, 108, 109, 110, 111, 29, 112, 113, 114, 115, 116, 117, 118, 119, 120, 121, 122, 123, 124, 125, 126, 127, 128, 129, 130, 131, 132, 133, 134, 135, 136, 137, 138, 139, 140, 141, 142, 143, 144, 145, 455, 456, 457, 458, 459, 460, 461, 478, 479, 480, 481, 482, 483, 484, 464, 465, 466] (by decide +kernel) (by decide +kernel)) (goodIn_sub (fun _ h => List.mem_append_right _ h) (by decide +kernel))) (goodIn_sub (fun _ h => List.mem_append_left _ (List.mem_append_left _ (List.mem_append_right _ h))) (by decide +kernel))) (goodIn_sub (fun _ h => List.mem_append_left _ (List.mem_append_right _ h)) (by decide +kernel))
set_option maxRecDepth 20000 in
theorem gL_law_L_call : GoodIn wsL_law (va_wsS RL 138 yL_call wsL_call) := goodIn_app (goodIn_of _ (by decide +kernel)) ggL_law_L_call
set_option maxRecDepth 20000 in
theorem ggL_law_L_shipOf : GoodIn wsL_law wsL_shipOf := goodIn_r _ [208] (by decide +kernel) (by decide +kernel)
set_option maxRecDepth 20000 in
theorem gL_law_L_shipOf : GoodIn wsL_law (va_wsS RL 75 yL_shipOf wsL_shipOf) := goodIn_app (goodIn_of _ (by decide +kernel)) ggL_law_L_shipOf
set_option maxRecDepth 20000 in
theorem ggL_law_L_looks : GoodIn wsL_law wsL_looks := goodIn_r _ [211, 212, 213, 43, 214, 206, 207, 208, 52, 53, 54, 215, 216, 217, 49, 50, 51, 218, 219, 220, 221, 222, 223, 55, 56, 57] (by decide +kernel) (by decide +kernel)
set_option maxRecDepth 20000 in
theorem gL_law_L_looks : GoodIn wsL_law (va_wsS RL 140 yL_looks wsL_looks) := goodIn_app (goodIn_of _ (by decide +kernel)) ggL_law_L_looks
set_option maxRecDepth 20000 in
theorem ggL_law_L_join : GoodIn wsL_law wsL_join := goodIn_ca (goodIn_ca (goodIn_r _ [226, 166, 62, 227, 228, 229, 2, 230, 83, 84, 231, 232, 233, 234, 235, 236, 237, 238, 179, 180, 19, 239, 75, 76, 77, 16, 78, 79, 182, 183, 184, 185, 186, 187, 188, 189, 190, 191, 192, 193, 194, 195, 196, 197, 30, 240, 241, 242, 243, 244, 245, 246, 18, 247, 248, 249, 250, 174, 251, 252, 253, 254, 255, 256, 257, 258, 259, 260, 261, 262, 263, 264, 265, 266, 267, 171, 268, 269, 270, 271, 272, 273, 113, 114, 115, 13, 274, 275, 276, 12, 277, 278, 279, 24, 280, 281, 282, 283, 284, 140, 141, 25, 285, 286, 287, 288, 289, 290, 291, 292, 69, 293, 92, 294, 295, 296, 297, 298, 299, 300, 301, 302, 303, 304, 305, 306, 20, 307, 308, 309, 310, 311, 473, 474, 475, 476, 477, 478, 479, 480, 481, 482, 483, 484, 467, 468, 469, 470, 471, 472, 455, 456, 457, 458, 459, 460, 461, 464, 465, 466, 462, 463] (by decide +kernel) (by decide +kernel)) (goodIn_sub (fun _ h => List.mem_append_left _ (List.mem_append_right _ h)) (by decide +kernel))) (goodIn_sub (fun _ h => List.mem_append_right _ h) (by decide +kernel))
set_option maxRecDepth 20000 in
theorem gL_law_L_join : GoodIn wsL_law (va_wsS RL 144 yL_join wsL_join) := goodIn_app (goodIn_of _ (by decide +kernel)) ggL_law_L_join
set_option maxRecDepth 20000 in
theorem ggL_law_L_stateOf : GoodIn wsL_law wsL_stateOf := goodIn_r _ [220] (by decide +kernel) (by decide +kernel)
set_option maxRecDepth 20000 in
theorem gL_law_L_stateOf : GoodIn wsL_law (va_wsS RL 90 yL_stateOf wsL_stateOf) := goodIn_app (goodIn_of _ (by decide +kernel)) ggL_law_L_stateOf
set_option maxRecDepth 20000 in
theorem ggL_law_L_again : GoodIn wsL_law wsL_again := goodIn_ca (goodIn_ca (goodIn_r _ [314, 166, 62, 315, 316, 317, 2, 318, 83, 84, 267, 234, 235, 236, 237, 238, 179, 180, 19, 239, 75, 76, 77, 16, 78, 79, 182, 183, 184, 185, 186, 187, 188, 189, 190, 191, 192, 193, 194, 195, 196, 197, 30, 263, 264, 265, 266, 171, 268, 269, 270, 271, 272, 273, 113, 114, 115, 13, 232, 274, 275, 276, 12, 277, 278, 279, 24, 280, 281, 282, 283, 284, 140, 141, 25, 285, 286, 287, 288, 289, 290, 291, 292, 69, 293, 92, 294, 295, 296, 297, 298, 299, 300, 301, 302, 303, 304, 305, 306, 20, 307, 308, 309, 310, 311, 478, 479, 480, 481, 482, 483, 484, 455, 456, 457, 458, 459, 460, 461, 464, 465, 466, 467, 468, 469, 470, 471, 472, 462, 463] (by decide +kernel) (by decide +kernel)) (goodIn_sub (fun _ h => List.mem_append_left _ (List.mem_append_right _ h)) (by decide +kernel))) (goodIn_sub (fun _ h => List.mem_append_right _ h) (by decide +kernel))
set_option maxRecDepth 20000 in
theorem gL_law_L_again : GoodIn wsL_law (va_wsS RL 147 yL_again wsL_again) := goodIn_app (goodIn_of _ (by decide +kernel)) ggL_law_L_again
set_option maxRecDepth 20000 in
theorem ggL_law_L_drop : GoodIn wsL_law wsL_drop := goodIn_ca (goodIn_ca (goodIn_r _ [321, 166, 62, 322, 323, 324, 2, 325, 83, 84, 267, 234, 326, 235, 236, 237, 238, 179, 180, 19, 239, 75, 76, 77, 16, 78, 79, 182, 183, 184, 185, 186, 187, 188, 189, 190, 191, 192, 193, 194, 195, 196, 197, 30, 240, 241, 242, 248, 249, 250, 174, 251, 252, 253, 254, 327, 328, 329, 330, 202, 203, 331, 332, 333, 334, 263, 264, 265, 266, 171, 268, 269, 270, 271, 272, 273, 113, 114, 115, 13, 232, 274, 275, 276, 12, 277, 278, 279, 24, 280, 281, 282, 283, 284, 140, 141, 25, 285, 286, 287, 288, 289, 290, 291, 292, 69, 293, 92, 294, 295, 296, 297, 298, 299, 300, 301, 302, 303, 304, 305, 306, 20, 307, 308, 309, 310, 311, 478, 479, 480, 481, 482, 483, 484, 455, 456, 457, 458, 459, 460, 461, 464, 465, 466, 467, 468, 469, 470, 471, 472, 462, 463] (by decide +kernel) (by decide +kernel)) (goodIn_sub (fun _ h => List.mem_append_left _ (List.mem_append_right _ h)) (by decide +kernel))) (goodIn_sub (fun _ h => List.mem_append_right _ h) (by decide +kernel))
set_option maxRecDepth 20000 in
theorem gL_law_L_drop : GoodIn wsL_law (va_wsS RL 149 yL_drop wsL_drop) := goodIn_app (goodIn_of _ (by decide +kernel)) ggL_law_L_drop
set_option maxRecDepth 20000 in
theorem ggL_law_L_tide : GoodIn wsL_law wsL_tide := goodIn_ca (goodIn_r _ [337, 61, 338, 339, 340, 2, 341, 13, 342, 343, 70, 71, 72, 73, 74, 455, 456, 457, 458, 459, 460, 461, 462, 463] (by decide +kernel) (by decide +kernel)) (goodIn_sub (fun _ h => List.mem_append_left _ (List.mem_append_left _ (List.mem_append_right _ h))) (by decide +kernel))
set_option maxRecDepth 20000 in
theorem gL_law_L_tide : GoodIn wsL_law (va_wsS RL 151 yL_tide wsL_tide) := goodIn_app (goodIn_of _ (by decide +kernel)) ggL_law_L_tide
set_option maxRecDepth 20000 in
theorem ggL_law_L_tugs : GoodIn wsL_law wsL_tugs := goodIn_ca (goodIn_r _ [346, 61, 347, 348, 349, 2, 350, 20, 70, 71, 72, 73, 74, 455, 456, 457, 458, 459, 460, 461] (by decide +kernel) (by decide +kernel)) (goodIn_sub (fun _ h => List.mem_append_left _ (List.mem_append_left _ (List.mem_append_right _ h))) (by decide +kernel))
set_option maxRecDepth 20000 in
theorem gL_law_L_tugs : GoodIn wsL_law (va_wsS RL 153 yL_tugs wsL_tugs) := goodIn_app (goodIn_of _ (by decide +kernel)) ggL_law_L_tugs
set_option maxRecDepth 20000 in
theorem ggL_law_L_pass : GoodIn wsL_law wsL_pass := goodIn_ca (goodIn_ca (goodIn_r _ [353, 61, 62, 354, 355, 356, 2, 357, 83, 84, 171, 19, 239, 70, 71, 72, 73, 74, 75, 76, 77, 16, 78, 79, 182, 183, 184, 185, 186, 187, 188, 189, 190, 191, 192, 193, 194, 195, 196, 197, 30, 358, 359, 360, 361, 267, 234, 289, 232, 306, 362, 363, 307, 364, 365, 455, 456, 457, 458, 459, 460, 461, 464, 465, 466, 478, 479, 480, 481, 482, 483, 484, 467, 468, 469, 470, 471, 472, 473, 474, 475, 476, 477] (by decide +kernel) (by decide +kernel)) (goodIn_sub (fun _ h => List.mem_append_left _ (List.mem_append_right _ h)) (by decide +kernel))) (goodIn_sub (fun _ h => List.mem_append_left _ (List.mem_append_left _ (List.mem_append_right _ h))) (by decide +kernel))
set_option maxRecDepth 20000 in
theorem gL_law_L_pass : GoodIn wsL_law (va_wsS RL 155 yL_pass wsL_pass) := goodIn_app (goodIn_of _ (by decide +kernel)) ggL_law_L_pass
theorem goodIn_cons1 {big a : List Cond} {c : Cond} (hc : c ∈ big ∧ ((c.onTables && c.keeps) = true ∨ ∃ ty, c = .arrayClass ty)) (ha : GoodIn big a) : GoodIn big (c :: a) := fun w h => (List.mem_cons.mp h).elim (fun e => by rw [e]; exact hc) (ha w)
theorem zc_told2 : Cond.code yL_isTold cL_isTold 19 (some .boolean) ∈ wsL_law := List.mem_append_left _ (List.mem_append_left _ (List.mem_append_left _ (List.mem_append_left _ (List.mem_append_left _ (List.mem_append_left _ (List.mem_append_left _ (List.mem_append_left _ (List.mem_append_left _ (List.mem_append_left _ (List.mem_append_right _ (List.mem_append_right _ (List.mem_append_right _ (List.mem_append_right _ (List.mem_append_right _ (List.mem_append_right _ (List.mem_append_right _ (List.mem_append_right _ (List.mem_append_right _ (List.mem_append_right _ (List.mem_append_right _ (List.mem_append_right _ (List.mem_append_right _ (List.mem_append_right _ (List.mem_append_right _ (List.mem_append_left _ (List.mem_of_getElem? (i := 8) rfl))))))))))))))))))))))))))
set_option maxRecDepth 20000 in
theorem ggL_law_L_isTold : GoodIn wsL_law wsL_isTold := goodIn_ca (goodIn_ca (goodIn_ca (goodIn_cons1 ⟨zc_told2, good_of_word (by decide +kernel)⟩ (goodIn_r _ [3, 369, 370, 43, 371, 166, 372, 373, 374, 2, 375, 179, 180, 267, 234, 289, 376, 232, 377, 235, 236, 237, 238, 19, 239, 75, 76, 77, 16, 78, 79, 182, 183, 184, 185, 186, 187, 188, 189, 190, 191, 192, 193, 194, 195, 196, 197, 30, 259, 260, 261, 174, 262, 252, 253, 254, 218, 219, 220, 221, 222, 223, 206, 207, 208, 55, 56, 57, 378, 379, 380, 61, 381, 382, 383, 384, 171, 326, 70, 71, 72, 73, 74, 308, 309, 310, 311, 306, 307, 385, 386, 387, 388, 17, 181, 362, 389, 390, 391, 392, 52, 53, 54, 393, 394, 395, 396, 397, 398, 399, 243, 244, 245, 246, 18, 247, 400, 401, 402, 403, 273, 113, 114, 115, 290, 291, 292, 69, 293, 92, 294, 404, 405, 406, 407, 408, 409, 410, 411, 412, 413, 414, 415, 416, 417, 364, 365, 363, 418, 419, 420, 421, 422, 423, 424, 425, 426, 427, 428, 175, 176, 177, 178, 46, 47, 48, 429, 430, 431, 62, 432, 433, 434, 435, 83, 84, 13, 274, 275, 276, 12, 277, 278, 279, 24, 280, 281, 282, 283, 284, 140, 141, 25, 285, 286, 287, 288, 302, 303, 304, 305, 20, 295, 296, 297, 298, 299, 300, 301, 212, 213, 214, 215, 216, 217, 49, 50, 51, 436, 437, 438, 439, 440, 441, 442, 443, 444, 445, 446, 447, 478, 479, 480, 481, 482, 483, 484, 473, 474, 475, 476, 477, 467, 468, 469, 470, 471, 472, 455, 456, 457, 458, 459, 460, 461, 464, 465, 466, 462, 463] (by decide +kernel) (by decide +kernel))) (goodIn_sub (fun _ h => List.mem_append_right _ h) (by decide +kernel))) (goodIn_sub (fun _ h => List.mem_append_left _ (List.mem_append_left _ (List.mem_append_right _ h))) (by decide +kernel))) (goodIn_sub (fun _ h => List.mem_append_left _ (List.mem_append_right _ h)) (by decide +kernel))
set_option maxRecDepth 20000 in
theorem gL_law_L_isTold : GoodIn wsL_law (va_wsS RL 157 yL_isTold wsL_isTold) := goodIn_app (goodIn_of _ (by decide +kernel)) ggL_law_L_isTold
set_option maxRecDepth 20000 in
theorem ggL_law_L_window : GoodIn wsL_law wsL_window := goodIn_ca (goodIn_ca (goodIn_r _ [450, 166, 61, 451, 452, 453, 2, 454, 13, 273, 113, 114, 115, 175, 176, 177, 178, 179, 180, 17, 181, 75, 76, 77, 16, 78, 79, 182, 183, 184, 185, 186, 187, 188, 189, 190, 191, 192, 193, 194, 195, 196, 197, 30, 70, 71, 72, 73, 74, 274, 275, 276, 12, 277, 278, 279, 24, 280, 281, 282, 283, 284, 140, 141, 25, 455, 456, 457, 458, 459, 460, 461, 464, 465, 466, 467, 468, 469, 470, 471, 472, 462, 463] (by decide +kernel) (by decide +kernel)) (goodIn_sub (fun _ h => List.mem_append_right _ h) (by decide +kernel))) (goodIn_sub (fun _ h => List.mem_append_left _ (List.mem_append_left _ (List.mem_append_right _ h))) (by decide +kernel))
set_option maxRecDepth 20000 in
theorem gL_law_L_window : GoodIn wsL_law (va_wsS RL 161 yL_window wsL_window) := goodIn_app (goodIn_of _ (by decide +kernel)) ggL_law_L_window
