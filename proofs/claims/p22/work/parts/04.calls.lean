set_option maxRecDepth 20000 in
theorem ggX3_pastShallows_X3_aboveDepth : GoodIn wsX3_pastShallows wsX3_aboveDepth := goodIn_r _ [8, 9, 10, 11, 12, 13, 20, 21] (by decide +kernel) (by decide +kernel)
set_option maxRecDepth 20000 in
theorem gX3_pastShallows_X3_aboveDepth : GoodIn wsX3_pastShallows (wsV RX3 30 RX3 yX3_aboveDepth wsX3_aboveDepth) := goodIn_app (goodIn_of _ (by decide +kernel)) ggX3_pastShallows_X3_aboveDepth
set_option maxRecDepth 20000 in
theorem ggX4_init_X3_init : GoodIn wsX4_init wsX3_init := goodIn_r _ [16, 17, 2, 3, 18, 19, 35, 36] (by decide +kernel) (by decide +kernel)
set_option maxRecDepth 20000 in
theorem gX4_init_X3_init_n9 : GoodIn wsX4_init (wsX3_init) := ggX4_init_X3_init
set_option maxRecDepth 20000 in
theorem ggX4_init_Jx4a65c_init_da8c8 : GoodIn wsX4_init wsJx4a65c_init_da8c8 := goodIn_r _ [22, 23, 24, 25, 26, 27, 28, 29, 30, 31, 32, 33, 34, 2, 3, 44, 45, 46] (by decide +kernel) (by decide +kernel)
set_option maxRecDepth 20000 in
theorem gX4_init_Jx4a65c_init_da8c8 : GoodIn wsX4_init (wsJx4a65c_init_da8c8) := ggX4_init_Jx4a65c_init_da8c8
set_option maxRecDepth 20000 in
theorem ggX4_tide_X4_demandWithin : GoodIn wsX4_tide wsX4_demandWithin := goodIn_ca (goodIn_r _ [7, 8, 9] (by decide +kernel) (by decide +kernel)) (goodIn_sub (fun _ h => List.mem_cons_of_mem _ (List.mem_append_right _ h)) (by decide +kernel))
set_option maxRecDepth 20000 in
theorem gX4_tide_X4_demandWithin : GoodIn wsX4_tide (va_wsS RX4 33 yX4_demandWithin wsX4_demandWithin) := goodIn_app (goodIn_of _ (by decide +kernel)) ggX4_tide_X4_demandWithin
set_option maxRecDepth 20000 in
theorem ggX4_tugs_X4_demandWithin : GoodIn wsX4_tugs wsX4_demandWithin := goodIn_ca (goodIn_r _ [5, 6, 7] (by decide +kernel) (by decide +kernel)) (goodIn_sub (fun _ h => List.mem_cons_of_mem _ (List.mem_append_right _ h)) (by decide +kernel))
set_option maxRecDepth 20000 in
theorem gX4_tugs_X4_demandWithin : GoodIn wsX4_tugs (va_wsS RX4 33 yX4_demandWithin wsX4_demandWithin) := goodIn_app (goodIn_of _ (by decide +kernel)) ggX4_tugs_X4_demandWithin
set_option maxRecDepth 20000 in
theorem ggX4_ship_X4_demandWithin : GoodIn wsX4_ship wsX4_demandWithin := goodIn_ca (goodIn_r _ [8, 9, 10] (by decide +kernel) (by decide +kernel)) (goodIn_sub (fun _ h => List.mem_cons_of_mem _ (List.mem_append_left _ (List.mem_append_right _ h))) (by decide +kernel))
set_option maxRecDepth 20000 in
theorem gX4_ship_X4_demandWithin : GoodIn wsX4_ship (va_wsS RX4 33 yX4_demandWithin wsX4_demandWithin) := goodIn_app (goodIn_of _ (by decide +kernel)) ggX4_ship_X4_demandWithin
set_option maxRecDepth 20000 in
theorem ggX4_ship_Jx4a65c_size_8abf5 : GoodIn wsX4_ship wsJx4a65c_size_8abf5 := goodIn_r _ [15, 16, 100, 101, 102] (by decide +kernel) (by decide +kernel)
set_option maxRecDepth 20000 in
theorem gX4_ship_Jx4a65c_size_8abf5 : GoodIn wsX4_ship (wsV RX4 43 RJx4a65c yJx4a65c_size_8abf5 wsJx4a65c_size_8abf5) := goodIn_app (goodIn_of _ (by decide +kernel)) ggX4_ship_Jx4a65c_size_8abf5
set_option maxRecDepth 20000 in
theorem ggX4_ship_X4_demandRoom : GoodIn wsX4_ship wsX4_demandRoom := goodIn_ca (goodIn_r _ [19, 20, 21] (by decide +kernel) (by decide +kernel)) (goodIn_sub (fun _ h => List.mem_cons_of_mem _ (List.mem_append_right _ h)) (by decide +kernel))
set_option maxRecDepth 20000 in
theorem gX4_ship_X4_demandRoom : GoodIn wsX4_ship (va_wsS RX4 47 yX4_demandRoom wsX4_demandRoom) := goodIn_app (goodIn_of _ (by decide +kernel)) ggX4_ship_X4_demandRoom
set_option maxRecDepth 20000 in
theorem ggX4_ship_X2_init : GoodIn wsX4_ship wsX2_init := goodIn_r _ [24, 25, 26, 27, 28, 29, 30, 31, 32, 94, 95, 96, 97, 98, 99] (by decide +kernel) (by decide +kernel)
set_option maxRecDepth 20000 in
theorem gX4_ship_X2_init : GoodIn wsX4_ship (wsX2_init) := ggX4_ship_X2_init
set_option maxRecDepth 20000 in
theorem ggX4_ship_Jx4a65c_add_9ea2d : GoodIn wsX4_ship wsJx4a65c_add_9ea2d := goodIn_r _ [36, 37, 38, 39, 16, 40, 41, 42, 14, 43, 44, 45, 46, 47, 48, 49, 50, 51, 52, 53, 54, 55, 56, 57, 58, 59, 60, 61, 62, 63, 64, 65, 66, 67, 68, 69, 70, 71, 72, 73, 74, 75, 76, 77, 78, 79, 80, 81, 82, 83, 84, 85, 86, 100, 101, 102] (by decide +kernel) (by decide +kernel)
set_option maxRecDepth 20000 in
theorem gX4_ship_Jx4a65c_add_9ea2d : GoodIn wsX4_ship (wsV RX4 56 RJx4a65c yJx4a65c_add_9ea2d wsJx4a65c_add_9ea2d) := goodIn_app (goodIn_of _ (by decide +kernel)) ggX4_ship_Jx4a65c_add_9ea2d
set_option maxRecDepth 20000 in
theorem ggX4_pilot_X4_demandWithin : GoodIn wsX4_pilot wsX4_demandWithin := goodIn_ca (goodIn_r _ [8, 9, 10] (by decide +kernel) (by decide +kernel)) (goodIn_sub (fun _ h => List.mem_cons_of_mem _ (List.mem_append_left _ (List.mem_append_right _ h))) (by decide +kernel))
set_option maxRecDepth 20000 in
theorem gX4_pilot_X4_demandWithin : GoodIn wsX4_pilot (va_wsS RX4 33 yX4_demandWithin wsX4_demandWithin) := goodIn_app (goodIn_of _ (by decide +kernel)) ggX4_pilot_X4_demandWithin
set_option maxRecDepth 20000 in
theorem ggX4_pilot_Jx4a65c_size_8abf5 : GoodIn wsX4_pilot wsJx4a65c_size_8abf5 := goodIn_r _ [15, 16, 97, 98, 99] (by decide +kernel) (by decide +kernel)
set_option maxRecDepth 20000 in
theorem gX4_pilot_Jx4a65c_size_8abf5 : GoodIn wsX4_pilot (wsV RX4 43 RJx4a65c yJx4a65c_size_8abf5 wsJx4a65c_size_8abf5) := goodIn_app (goodIn_of _ (by decide +kernel)) ggX4_pilot_Jx4a65c_size_8abf5
set_option maxRecDepth 20000 in
theorem ggX4_pilot_X4_demandRoom : GoodIn wsX4_pilot wsX4_demandRoom := goodIn_ca (goodIn_r _ [19, 20, 21] (by decide +kernel) (by decide +kernel)) (goodIn_sub (fun _ h => List.mem_cons_of_mem _ (List.mem_append_right _ h)) (by decide +kernel))
set_option maxRecDepth 20000 in
theorem gX4_pilot_X4_demandRoom : GoodIn wsX4_pilot (va_wsS RX4 47 yX4_demandRoom wsX4_demandRoom) := goodIn_app (goodIn_of _ (by decide +kernel)) ggX4_pilot_X4_demandRoom
set_option maxRecDepth 20000 in
theorem ggX4_pilot_X1_init : GoodIn wsX4_pilot wsX1_init := goodIn_r _ [24, 25, 26, 27, 28, 29, 30, 92, 93, 94, 95, 96] (by decide +kernel) (by decide +kernel)
set_option maxRecDepth 20000 in
theorem gX4_pilot_X1_init : GoodIn wsX4_pilot (wsX1_init) := ggX4_pilot_X1_init
set_option maxRecDepth 20000 in
theorem ggX4_pilot_Jx4a65c_add_9ea2d : GoodIn wsX4_pilot wsJx4a65c_add_9ea2d := goodIn_r _ [34, 35, 36, 37, 16, 38, 39, 40, 14, 41, 42, 43, 44, 45, 46, 47, 48, 49, 50, 51, 52, 53, 54, 55, 56, 57, 58, 59, 60, 61, 62, 63, 64, 65, 66, 67, 68, 69, 70, 71, 72, 73, 74, 75, 76, 77, 78, 79, 80, 81, 82, 83, 84, 97, 98, 99] (by decide +kernel) (by decide +kernel)
set_option maxRecDepth 20000 in
theorem gX4_pilot_Jx4a65c_add_9ea2d : GoodIn wsX4_pilot (wsV RX4 56 RJx4a65c yJx4a65c_add_9ea2d wsJx4a65c_add_9ea2d) := goodIn_app (goodIn_of _ (by decide +kernel)) ggX4_pilot_Jx4a65c_add_9ea2d
set_option maxRecDepth 20000 in
theorem ggX4_call_X4_shipAt : GoodIn wsX4_call wsX4_shipAt := goodIn_ca (goodIn_r _ [10, 11, 12, 13, 14, 15, 16, 17, 18, 19, 20, 21, 22, 23, 24, 25, 26, 27, 28, 29, 30, 31, 32, 33, 34, 35, 36, 37, 111, 112, 113, 114, 115, 116, 117, 125, 126, 127] (by decide +kernel) (by decide +kernel)) (goodIn_sub (fun _ h => List.mem_cons_of_mem _ (List.mem_append_left _ (List.mem_append_left _ (List.mem_append_right _ h)))) (by decide +kernel))
set_option maxRecDepth 20000 in
theorem gX4_call_X4_shipAt : GoodIn wsX4_call (wsV RX4 64 RX4 yX4_shipAt wsX4_shipAt) := goodIn_app (goodIn_of _ (by decide +kernel)) ggX4_call_X4_shipAt
set_option maxRecDepth 20000 in
theorem ggX4_call_X4_demandWithin : GoodIn wsX4_call wsX4_demandWithin := goodIn_ca (goodIn_r _ [40, 41, 42] (by decide +kernel) (by decide +kernel)) (goodIn_sub (fun _ h => List.mem_cons_of_mem _ (List.mem_append_left _ (List.mem_append_right _ h))) (by decide +kernel))
set_option maxRecDepth 20000 in
theorem gX4_call_X4_demandWithin : GoodIn wsX4_call (va_wsS RX4 33 yX4_demandWithin wsX4_demandWithin) := goodIn_app (goodIn_of _ (by decide +kernel)) ggX4_call_X4_demandWithin
set_option maxRecDepth 20000 in
theorem ggX4_call_Jx4a65c_size_8abf5 : GoodIn wsX4_call wsJx4a65c_size_8abf5 := goodIn_r _ [19, 20, 125, 126, 127] (by decide +kernel) (by decide +kernel)
set_option maxRecDepth 20000 in
theorem gX4_call_Jx4a65c_size_8abf5 : GoodIn wsX4_call (wsV RX4 43 RJx4a65c yJx4a65c_size_8abf5 wsJx4a65c_size_8abf5) := goodIn_app (goodIn_of _ (by decide +kernel)) ggX4_call_Jx4a65c_size_8abf5
set_option maxRecDepth 20000 in
theorem ggX4_call_X4_demandRoom : GoodIn wsX4_call wsX4_demandRoom := goodIn_ca (goodIn_r _ [45, 46, 47] (by decide +kernel) (by decide +kernel)) (goodIn_sub (fun _ h => List.mem_cons_of_mem _ (List.mem_append_right _ h)) (by decide +kernel))
set_option maxRecDepth 20000 in
theorem gX4_call_X4_demandRoom : GoodIn wsX4_call (va_wsS RX4 47 yX4_demandRoom wsX4_demandRoom) := goodIn_app (goodIn_of _ (by decide +kernel)) ggX4_call_X4_demandRoom
set_option maxRecDepth 20000 in
theorem ggX4_call_X0_init : GoodIn wsX4_call wsX0_init := goodIn_r _ [50, 51, 52, 53, 54, 55, 56, 57, 118, 119, 120, 121, 122, 123, 124] (by decide +kernel) (by decide +kernel)
set_option maxRecDepth 20000 in
theorem gX4_call_X0_init : GoodIn wsX4_call (wsX0_init) := ggX4_call_X0_init
set_option maxRecDepth 20000 in
theorem ggX4_call_Jx4a65c_add_9ea2d : GoodIn wsX4_call wsJx4a65c_add_9ea2d := goodIn_r _ [61, 62, 63, 37, 20, 64, 65, 66, 18, 67, 68, 69, 70, 71, 72, 73, 74, 75, 76, 77, 78, 79, 80, 81, 82, 83, 84, 85, 86, 87, 88, 89, 90, 91, 92, 93, 94, 95, 96, 97, 98, 99, 100, 101, 102, 103, 104, 105, 106, 107, 108, 109, 110, 125, 126, 127] (by decide +kernel) (by decide +kernel)
set_option maxRecDepth 20000 in
theorem gX4_call_Jx4a65c_add_9ea2d : GoodIn wsX4_call (wsV RX4 56 RJx4a65c yJx4a65c_add_9ea2d wsJx4a65c_add_9ea2d) := goodIn_app (goodIn_of _ (by decide +kernel)) ggX4_call_Jx4a65c_add_9ea2d
set_option maxRecDepth 20000 in
theorem ggX4_join_X4_conferenceAt : GoodIn wsX4_join wsX4_conferenceAt := goodIn_ca (goodIn_r _ [11, 12, 13, 14, 15, 16, 17, 18, 19, 20, 21, 22, 23, 24, 25, 26, 27, 28, 29, 30, 31, 32, 33, 34, 35, 36, 37, 38, 144, 145, 146, 147, 148, 149, 150, 151, 152, 153] (by decide +kernel) (by decide +kernel)) (goodIn_sub (fun _ h => List.mem_cons_of_mem _ (List.mem_append_right _ h)) (by decide +kernel))
set_option maxRecDepth 20000 in
theorem gX4_join_X4_conferenceAt : GoodIn wsX4_join (wsV RX4 76 RX4 yX4_conferenceAt wsX4_conferenceAt) := goodIn_app (goodIn_of _ (by decide +kernel)) ggX4_join_X4_conferenceAt
set_option maxRecDepth 20000 in
theorem ggX4_join_X4_demandWho : GoodIn wsX4_join wsX4_demandWho := goodIn_ca (goodIn_r _ [41, 12, 13] (by decide +kernel) (by decide +kernel)) (goodIn_sub (fun _ h => List.mem_cons_of_mem _ (List.mem_append_right _ h)) (by decide +kernel))
set_option maxRecDepth 20000 in
theorem gX4_join_X4_demandWho : GoodIn wsX4_join (va_wsS RX4 80 yX4_demandWho wsX4_demandWho) := goodIn_app (goodIn_of _ (by decide +kernel)) ggX4_join_X4_demandWho
set_option maxRecDepth 20000 in
theorem ggX4_join_X4_pilotAt : GoodIn wsX4_join wsX4_pilotAt := goodIn_ca (goodIn_r _ [45, 12, 13, 46, 47, 16, 17, 18, 19, 20, 21, 22, 23, 24, 25, 26, 27, 28, 29, 30, 31, 32, 33, 34, 35, 36, 37, 38, 144, 145, 146, 147, 148, 149, 150, 151, 152, 153] (by decide +kernel) (by decide +kernel)) (goodIn_sub (fun _ h => List.mem_cons_of_mem _ (List.mem_append_right _ h)) (by decide +kernel))
set_option maxRecDepth 20000 in
theorem gX4_join_X4_pilotAt : GoodIn wsX4_join (wsV RX4 84 RX4 yX4_pilotAt wsX4_pilotAt) := goodIn_app (goodIn_of _ (by decide +kernel)) ggX4_join_X4_pilotAt
set_option maxRecDepth 20000 in
theorem ggX4_join_X0_hasIn : GoodIn wsX4_join wsX0_hasIn := goodIn_r _ [52, 53, 54, 55, 131, 132, 133, 134, 135, 136, 137] (by decide +kernel) (by decide +kernel)
set_option maxRecDepth 20000 in
theorem gX4_join_X0_hasIn : GoodIn wsX4_join (wsV RX4 88 RX0 yX0_hasIn wsX0_hasIn) := goodIn_app (goodIn_of _ (by decide +kernel)) ggX4_join_X0_hasIn
set_option maxRecDepth 20000 in
theorem ggX4_join_X0_letIn : GoodIn wsX4_join wsX0_letIn := goodIn_r _ [59, 53, 54, 55, 131, 132, 133, 134, 135, 136, 137] (by decide +kernel) (by decide +kernel)
set_option maxRecDepth 20000 in
theorem gX4_join_X0_letIn : GoodIn wsX4_join (wsV RX4 111 RX0 yX0_letIn wsX0_letIn) := goodIn_app (goodIn_of _ (by decide +kernel)) ggX4_join_X0_letIn
set_option maxRecDepth 20000 in
theorem ggX4_join_X0_howManyIn : GoodIn wsX4_join wsX0_howManyIn := goodIn_r _ [63, 53, 54, 55, 131, 132, 133, 134, 135, 136, 137] (by decide +kernel) (by decide +kernel)
set_option maxRecDepth 20000 in
theorem gX4_join_X0_howManyIn : GoodIn wsX4_join (wsV RX4 115 RX0 yX0_howManyIn wsX0_howManyIn) := goodIn_app (goodIn_of _ (by decide +kernel)) ggX4_join_X0_howManyIn
set_option maxRecDepth 20000 in
theorem ggX4_join_X4_lookForSlot : GoodIn wsX4_join wsX4_lookForSlot := goodIn_r _ [67, 6, 68, 69, 70, 71, 72, 10, 73, 74, 75, 76, 77, 78, 79, 4, 80, 81, 82, 83, 84, 85, 86, 87, 88, 89, 90, 91, 92, 93, 94, 95, 96, 97, 98, 99, 14, 15, 100, 16, 17, 18, 19, 20, 21, 22, 23, 24, 25, 26, 27, 28, 29, 30, 31, 32, 33, 34, 35, 36, 37, 38, 101, 102, 103, 104, 105, 106, 107, 108, 109, 110, 111, 112, 113, 114, 115, 116, 117, 118, 119, 120, 121, 122, 123, 124, 125, 131, 132, 133, 134, 135, 136, 137, 144, 145, 146, 147, 148, 149, 150, 138, 139, 140, 141, 142, 143, 154, 155, 151, 152, 153] (by decide +kernel) (by decide +kernel)
set_option maxRecDepth 20000 in
theorem gX4_join_X4_lookForSlot : GoodIn wsX4_join (wsV RX4 118 RX4 yX4_lookForSlot wsX4_lookForSlot) := goodIn_app (goodIn_of _ (by decide +kernel)) ggX4_join_X4_lookForSlot
set_option maxRecDepth 20000 in
theorem ggX4_again_X4_conferenceAt : GoodIn wsX4_again wsX4_conferenceAt := goodIn_ca (goodIn_r _ [9, 10, 11, 12, 13, 14, 15, 16, 17, 18, 19, 20, 21, 22, 23, 24, 25, 26, 27, 28, 29, 30, 31, 32, 33, 34, 35, 36, 106, 107, 108, 109, 110, 111, 112, 113, 114, 115] (by decide +kernel) (by decide +kernel)) (goodIn_sub (fun _ h => List.mem_cons_of_mem _ (List.mem_append_right _ h)) (by decide +kernel))
set_option maxRecDepth 20000 in
theorem gX4_again_X4_conferenceAt : GoodIn wsX4_again (wsV RX4 76 RX4 yX4_conferenceAt wsX4_conferenceAt) := goodIn_app (goodIn_of _ (by decide +kernel)) ggX4_again_X4_conferenceAt
set_option maxRecDepth 20000 in
theorem ggX4_again_X4_lookForSlot : GoodIn wsX4_again wsX4_lookForSlot := goodIn_r _ [40, 4, 3, 41, 42, 43, 44, 8, 45, 46, 47, 48, 49, 50, 51, 52, 53, 54, 55, 56, 57, 58, 59, 60, 61, 62, 63, 64, 65, 66, 67, 68, 69, 70, 71, 72, 12, 13, 73, 14, 15, 16, 17, 18, 19, 20, 21, 22, 23, 24, 25, 26, 27, 28, 29, 30, 31, 32, 33, 34, 35, 36, 74, 75, 76, 77, 78, 79, 80, 81, 82, 83, 84, 85, 86, 87, 88, 89, 90, 91, 92, 93, 94, 95, 96, 97, 98, 99, 100, 101, 102, 103, 104, 105, 106, 107, 108, 109, 110, 111, 112, 116, 117, 118, 119, 120, 121, 122, 123, 113, 114, 115] (by decide +kernel) (by decide +kernel)
set_option maxRecDepth 20000 in
theorem gX4_again_X4_lookForSlot : GoodIn wsX4_again (wsV RX4 118 RX4 yX4_lookForSlot wsX4_lookForSlot) := goodIn_app (goodIn_of _ (by decide +kernel)) ggX4_again_X4_lookForSlot
set_option maxRecDepth 20000 in
theorem ggX4_drop_X4_conferenceAt : GoodIn wsX4_drop wsX4_conferenceAt := goodIn_ca (goodIn_r _ [10, 11, 12, 13, 14, 15, 16, 17, 18, 19, 20, 21, 22, 23, 24, 25, 26, 27, 28, 29, 30, 31, 32, 33, 34, 35, 36, 37, 128, 129, 130, 131, 132, 133, 134, 135, 136, 137] (by decide +kernel) (by decide +kernel)) (goodIn_sub (fun _ h => List.mem_cons_of_mem _ (List.mem_append_right _ h)) (by decide +kernel))
set_option maxRecDepth 20000 in
theorem gX4_drop_X4_conferenceAt : GoodIn wsX4_drop (wsV RX4 76 RX4 yX4_conferenceAt wsX4_conferenceAt) := goodIn_app (goodIn_of _ (by decide +kernel)) ggX4_drop_X4_conferenceAt
set_option maxRecDepth 20000 in
theorem ggX4_drop_X4_demandWho : GoodIn wsX4_drop wsX4_demandWho := goodIn_ca (goodIn_r _ [40, 11, 12] (by decide +kernel) (by decide +kernel)) (goodIn_sub (fun _ h => List.mem_cons_of_mem _ (List.mem_append_right _ h)) (by decide +kernel))
set_option maxRecDepth 20000 in
theorem gX4_drop_X4_demandWho : GoodIn wsX4_drop (va_wsS RX4 80 yX4_demandWho wsX4_demandWho) := goodIn_app (goodIn_of _ (by decide +kernel)) ggX4_drop_X4_demandWho
set_option maxRecDepth 20000 in
theorem ggX4_drop_X0_hasIn : GoodIn wsX4_drop wsX0_hasIn := goodIn_r _ [45, 46, 47, 48, 121, 122, 123, 124, 125, 126, 127] (by decide +kernel) (by decide +kernel)
set_option maxRecDepth 20000 in
theorem gX4_drop_X0_hasIn : GoodIn wsX4_drop (wsV RX4 88 RX0 yX0_hasIn wsX0_hasIn) := goodIn_app (goodIn_of _ (by decide +kernel)) ggX4_drop_X0_hasIn
set_option maxRecDepth 20000 in
theorem ggX4_drop_X0_letOut : GoodIn wsX4_drop wsX0_letOut := goodIn_r _ [52, 46, 47, 48, 53, 54, 121, 122, 123, 124, 125, 126, 127] (by decide +kernel) (by decide +kernel)
set_option maxRecDepth 20000 in
theorem gX4_drop_X0_letOut : GoodIn wsX4_drop (wsV RX4 134 RX0 yX0_letOut wsX0_letOut) := goodIn_app (goodIn_of _ (by decide +kernel)) ggX4_drop_X0_letOut
set_option maxRecDepth 20000 in
theorem ggX4_drop_X4_lookAnew : GoodIn wsX4_drop wsX4_lookAnew := goodIn_r _ [58, 13, 14, 3, 4, 15, 16, 17, 18, 19, 20, 21, 22, 23, 24, 25, 26, 27, 28, 29, 30, 31, 32, 33, 34, 35, 36, 37, 59, 60, 61, 9, 62, 63, 64, 65, 66, 67, 68, 69, 70, 71, 72, 73, 74, 75, 76, 77, 78, 79, 80, 81, 82, 83, 84, 85, 86, 87, 88, 89, 90, 91, 92, 93, 94, 95, 96, 97, 98, 99, 100, 101, 102, 103, 104, 105, 106, 107, 108, 109, 110, 111, 112, 113, 114, 115, 116, 117, 118, 119, 120, 128, 129, 130, 131, 132, 133, 134, 121, 122, 123, 124, 125, 126, 127, 135, 136, 137, 138, 139, 140, 141, 142, 143, 144, 145] (by decide +kernel) (by decide +kernel)
set_option maxRecDepth 20000 in
theorem gX4_drop_X4_lookAnew : GoodIn wsX4_drop (wsV RX4 137 RX4 yX4_lookAnew wsX4_lookAnew) := goodIn_app (goodIn_of _ (by decide +kernel)) ggX4_drop_X4_lookAnew
set_option maxRecDepth 20000 in
theorem ggX4_pass_X4_demandWithin : GoodIn wsX4_pass wsX4_demandWithin := goodIn_ca (goodIn_r _ [9, 10, 11] (by decide +kernel) (by decide +kernel)) (goodIn_sub (fun _ h => List.mem_cons_of_mem _ (List.mem_append_right _ h)) (by decide +kernel))
set_option maxRecDepth 20000 in
theorem gX4_pass_X4_demandWithin : GoodIn wsX4_pass (va_wsS RX4 33 yX4_demandWithin wsX4_demandWithin) := goodIn_app (goodIn_of _ (by decide +kernel)) ggX4_pass_X4_demandWithin
set_option maxRecDepth 20000 in
theorem ggX4_pass_Jx4a65c_size_8abf5 : GoodIn wsX4_pass wsJx4a65c_size_8abf5 := goodIn_r _ [16, 17, 56, 57, 58] (by decide +kernel) (by decide +kernel)
set_option maxRecDepth 20000 in
theorem gX4_pass_Jx4a65c_size_8abf5 : GoodIn wsX4_pass (wsV RX4 43 RJx4a65c yJx4a65c_size_8abf5 wsJx4a65c_size_8abf5) := goodIn_app (goodIn_of _ (by decide +kernel)) ggX4_pass_Jx4a65c_size_8abf5
set_option maxRecDepth 20000 in
theorem ggX4_pass_Jx4a65c_get_915e3 : GoodIn wsX4_pass wsJx4a65c_get_915e3 := goodIn_r _ [21, 17, 22, 23, 24, 25, 26, 27, 28, 29, 30, 31, 32, 15, 33, 34, 56, 57, 58] (by decide +kernel) (by decide +kernel)
set_option maxRecDepth 20000 in
theorem gX4_pass_Jx4a65c_get_915e3 : GoodIn wsX4_pass (wsV RX4 145 RJx4a65c yJx4a65c_get_915e3 wsJx4a65c_get_915e3) := goodIn_app (goodIn_of _ (by decide +kernel)) ggX4_pass_Jx4a65c_get_915e3
set_option maxRecDepth 20000 in
theorem ggX4_pass_X4_becomesDone : GoodIn wsX4_pass wsX4_becomesDone := goodIn_r _ [38, 39, 40, 3, 41, 42, 43, 44, 45, 46, 47, 48, 59, 60, 61, 62, 63, 64, 65, 49, 50, 51, 52, 53, 54, 55, 66, 67, 68, 69, 70, 71, 72, 73, 74, 75, 76] (by decide +kernel) (by decide +kernel)
set_option maxRecDepth 20000 in
theorem gX4_pass_X4_becomesDone : GoodIn wsX4_pass (wsV RX4 149 RX4 yX4_becomesDone wsX4_becomesDone) := goodIn_app (goodIn_of _ (by decide +kernel)) ggX4_pass_X4_becomesDone
set_option maxRecDepth 20000 in
theorem ggX4_level_X4_demandWithin : GoodIn wsX4_level wsX4_demandWithin := goodIn_ca (goodIn_r _ [5, 6, 7] (by decide +kernel) (by decide +kernel)) (goodIn_sub (fun _ h => List.mem_cons_of_mem _ (List.mem_append_right _ h)) (by decide +kernel))
set_option maxRecDepth 20000 in
theorem gX4_level_X4_demandWithin : GoodIn wsX4_level (va_wsS RX4 33 yX4_demandWithin wsX4_demandWithin) := goodIn_app (goodIn_of _ (by decide +kernel)) ggX4_level_X4_demandWithin
set_option maxRecDepth 20000 in
theorem ggX4_level_X3_aboveDepth : GoodIn wsX4_level wsX3_aboveDepth := goodIn_r _ [12, 13, 14, 15, 16, 17, 25, 26] (by decide +kernel) (by decide +kernel)
set_option maxRecDepth 20000 in
theorem gX4_level_X3_aboveDepth : GoodIn wsX4_level (wsV RX4 153 RX3 yX3_aboveDepth wsX3_aboveDepth) := goodIn_app (goodIn_of _ (by decide +kernel)) ggX4_level_X3_aboveDepth
set_option maxRecDepth 20000 in
theorem ggX4_window_X4_shipAt : GoodIn wsX4_window wsX4_shipAt := goodIn_ca (goodIn_r _ [10, 11, 12, 13, 14, 15, 16, 17, 18, 19, 20, 21, 22, 23, 24, 25, 26, 27, 28, 29, 30, 31, 32, 33, 34, 35, 36, 37, 59, 60, 61, 62, 63, 64, 65, 66, 67, 68] (by decide +kernel) (by decide +kernel)) (goodIn_sub (fun _ h => List.mem_cons_of_mem _ (List.mem_append_left _ (List.mem_append_right _ h))) (by decide +kernel))
set_option maxRecDepth 20000 in
theorem gX4_window_X4_shipAt : GoodIn wsX4_window (wsV RX4 64 RX4 yX4_shipAt wsX4_shipAt) := goodIn_app (goodIn_of _ (by decide +kernel)) ggX4_window_X4_shipAt
set_option maxRecDepth 20000 in
theorem ggX4_window_X4_demandWithin : GoodIn wsX4_window wsX4_demandWithin := goodIn_ca (goodIn_r _ [40, 41, 42] (by decide +kernel) (by decide +kernel)) (goodIn_sub (fun _ h => List.mem_cons_of_mem _ (List.mem_append_right _ h)) (by decide +kernel))
set_option maxRecDepth 20000 in
theorem gX4_window_X4_demandWithin : GoodIn wsX4_window (va_wsS RX4 33 yX4_demandWithin wsX4_demandWithin) := goodIn_app (goodIn_of _ (by decide +kernel)) ggX4_window_X4_demandWithin
set_option maxRecDepth 20000 in
theorem ggX4_window_X3_pastShallows : GoodIn wsX4_window wsX3_pastShallows := goodIn_r _ [47, 48, 49, 50, 51, 52, 53, 46, 54, 55, 56, 4, 57, 58, 69, 70, 71, 72, 73, 74, 75, 76] (by decide +kernel) (by decide +kernel)
set_option maxRecDepth 20000 in
theorem gX4_window_X3_pastShallows : GoodIn wsX4_window (wsV RX4 157 RX3 yX3_pastShallows wsX3_pastShallows) := goodIn_app (goodIn_of _ (by decide +kernel)) ggX4_window_X3_pastShallows
set_option maxRecDepth 20000 in
theorem ggX4_ofConference_X4_conferenceAt : GoodIn wsX4_ofConference wsX4_conferenceAt := goodIn_ca (goodIn_r _ [13, 1, 2, 14, 15, 16, 17, 18, 19, 20, 21, 22, 23, 24, 25, 26, 27, 28, 29, 30, 31, 32, 33, 34, 35, 36, 37, 38, 65, 66, 67, 68, 69, 70, 71, 72, 73, 74] (by decide +kernel) (by decide +kernel)) (goodIn_sub (fun _ h => List.mem_cons_of_mem _ (List.mem_append_right _ h)) (by decide +kernel))
set_option maxRecDepth 20000 in
theorem gX4_ofConference_X4_conferenceAt : GoodIn wsX4_ofConference (wsV RX4 76 RX4 yX4_conferenceAt wsX4_conferenceAt) := goodIn_app (goodIn_of _ (by decide +kernel)) ggX4_ofConference_X4_conferenceAt
set_option maxRecDepth 20000 in
theorem ggX4_ofConference_X0_howManyIn : GoodIn wsX4_ofConference wsX0_howManyIn := goodIn_r _ [43, 44, 45, 46, 47, 48, 49, 50, 51, 52, 53] (by decide +kernel) (by decide +kernel)
set_option maxRecDepth 20000 in
theorem gX4_ofConference_X0_howManyIn : GoodIn wsX4_ofConference (wsV RX4 115 RX0 yX0_howManyIn wsX0_howManyIn) := goodIn_app (goodIn_of _ (by decide +kernel)) ggX4_ofConference_X0_howManyIn
set_option maxRecDepth 20000 in
theorem ggX4_why_X4_conferenceAt : GoodIn wsX4_why wsX4_conferenceAt := goodIn_ca (goodIn_r _ [11, 12, 13, 14, 15, 16, 17, 18, 19, 20, 21, 22, 23, 24, 25, 26, 27, 28, 29, 30, 31, 32, 33, 34, 35, 36, 37, 38, 94, 95, 96, 97, 98, 99, 100, 108, 109, 110] (by decide +kernel) (by decide +kernel)) (goodIn_sub (fun _ h => List.mem_cons_of_mem _ (List.mem_append_left _ (List.mem_append_right _ h))) (by decide +kernel))
set_option maxRecDepth 20000 in
theorem gX4_why_X4_conferenceAt : GoodIn wsX4_why (wsV RX4 76 RX4 yX4_conferenceAt wsX4_conferenceAt) := goodIn_app (goodIn_of _ (by decide +kernel)) ggX4_why_X4_conferenceAt
set_option maxRecDepth 20000 in
theorem ggX4_why_X4_demandWithin : GoodIn wsX4_why wsX4_demandWithin := goodIn_ca (goodIn_r _ [41, 42, 43] (by decide +kernel) (by decide +kernel)) (goodIn_sub (fun _ h => List.mem_cons_of_mem _ (List.mem_append_right _ h)) (by decide +kernel))
set_option maxRecDepth 20000 in
theorem gX4_why_X4_demandWithin : GoodIn wsX4_why (va_wsS RX4 33 yX4_demandWithin wsX4_demandWithin) := goodIn_app (goodIn_of _ (by decide +kernel)) ggX4_why_X4_demandWithin
set_option maxRecDepth 20000 in
theorem ggX4_why_X3_pastShallows : GoodIn wsX4_why wsX3_pastShallows := goodIn_r _ [48, 49, 50, 51, 52, 53, 54, 47, 55, 56, 57, 58, 59, 60, 111, 112, 113, 114, 115, 116, 117, 118] (by decide +kernel) (by decide +kernel)
set_option maxRecDepth 20000 in
theorem gX4_why_X3_pastShallows : GoodIn wsX4_why (wsV RX4 157 RX3 yX3_pastShallows wsX3_pastShallows) := goodIn_app (goodIn_of _ (by decide +kernel)) ggX4_why_X3_pastShallows
set_option maxRecDepth 20000 in
theorem ggX4_why_X4_pastRests : GoodIn wsX4_why wsX4_pastRests := goodIn_r _ [64, 14, 15, 65, 4, 6, 66, 67, 58, 68, 16, 17, 18, 19, 20, 21, 22, 23, 24, 25, 26, 27, 28, 29, 30, 31, 32, 33, 34, 35, 36, 37, 38, 69, 70, 71, 72, 73, 74, 75, 94, 95, 96, 97, 98, 99, 100, 101, 102, 103, 104, 105, 106, 107, 108, 109, 110, 111, 112, 113, 114, 115, 116] (by decide +kernel) (by decide +kernel)
set_option maxRecDepth 20000 in
theorem gX4_why_X4_pastRests : GoodIn wsX4_why (wsV RX4 182 RX4 yX4_pastRests wsX4_pastRests) := goodIn_app (goodIn_of _ (by decide +kernel)) ggX4_why_X4_pastRests
set_option maxRecDepth 20000 in
theorem ggX4_why_X4_pastTugs : GoodIn wsX4_why wsX4_pastTugs := goodIn_r _ [79, 6, 80, 81, 82, 83, 84, 85, 10, 86, 14, 15, 65, 16, 17, 18, 19, 20, 21, 22, 23, 24, 25, 26, 27, 28, 29, 30, 31, 32, 33, 34, 35, 36, 37, 38, 101, 102, 103, 104, 105, 106, 107, 111, 112, 113, 114, 115, 116, 94, 95, 96, 97, 98, 99, 100, 108, 109, 110] (by decide +kernel) (by decide +kernel)
set_option maxRecDepth 20000 in
theorem gX4_why_X4_pastTugs : GoodIn wsX4_why (wsV RX4 186 RX4 yX4_pastTugs wsX4_pastTugs) := goodIn_app (goodIn_of _ (by decide +kernel)) ggX4_why_X4_pastTugs
set_option maxRecDepth 20000 in
theorem ggX4_why_X4_pastChannel : GoodIn wsX4_why wsX4_pastChannel := goodIn_r _ [90, 14, 15, 65, 91, 92, 58, 93, 66, 67, 68, 16, 17, 18, 19, 20, 21, 22, 23, 24, 25, 26, 27, 28, 29, 30, 31, 32, 33, 34, 35, 36, 37, 38, 94, 95, 96, 97, 98, 99, 100, 101, 102, 103, 104, 105, 106, 107, 108, 109, 110] (by decide +kernel) (by decide +kernel)
set_option maxRecDepth 20000 in
theorem gX4_why_X4_pastChannel : GoodIn wsX4_why (wsV RX4 189 RX4 yX4_pastChannel wsX4_pastChannel) := goodIn_app (goodIn_of _ (by decide +kernel)) ggX4_why_X4_pastChannel
set_option maxRecDepth 20000 in
theorem ggX4_rested_X4_pilotAt : GoodIn wsX4_rested wsX4_pilotAt := goodIn_ca (goodIn_r _ [5, 6, 7, 8, 9, 10, 11, 12, 13, 14, 15, 16, 17, 18, 19, 20, 21, 22, 23, 24, 25, 26, 27, 28, 29, 30, 31, 32, 54, 55, 56, 57, 58, 59, 60, 61, 62, 63] (by decide +kernel) (by decide +kernel)) (goodIn_sub (fun _ h => List.mem_cons_of_mem _ (List.mem_append_right _ h)) (by decide +kernel))
set_option maxRecDepth 20000 in
theorem gX4_rested_X4_pilotAt : GoodIn wsX4_rested (wsV RX4 84 RX4 yX4_pilotAt wsX4_pilotAt) := goodIn_app (goodIn_of _ (by decide +kernel)) ggX4_rested_X4_pilotAt
set_option maxRecDepth 20000 in
theorem ggX4_rested_X4_restedBehindSlots : GoodIn wsX4_rested wsX4_restedBehindSlots := goodIn_r _ [36, 37, 38, 39, 40, 41, 42, 43, 44, 45, 46, 10, 11, 12, 13, 14, 15, 16, 17, 18, 19, 20, 21, 22, 23, 24, 25, 26, 27, 28, 29, 30, 31, 32, 47, 48, 49, 50, 51, 52, 53, 54, 55, 56, 57, 58, 59, 60, 64, 65, 66, 67, 68, 69, 70, 61, 62, 63, 71, 72, 73, 74, 75, 76] (by decide +kernel) (by decide +kernel)
set_option maxRecDepth 20000 in
theorem gX4_rested_X4_restedBehindSlots : GoodIn wsX4_rested (wsV RX4 192 RX4 yX4_restedBehindSlots wsX4_restedBehindSlots) := goodIn_app (goodIn_of _ (by decide +kernel)) ggX4_rested_X4_restedBehindSlots
set_option maxRecDepth 20000 in
theorem ggX4_restedAnew_X4_pilotAt : GoodIn wsX4_restedAnew wsX4_pilotAt := goodIn_ca (goodIn_r _ [5, 6, 7, 8, 9, 10, 11, 12, 13, 14, 15, 16, 17, 18, 19, 20, 21, 22, 23, 24, 25, 26, 27, 28, 29, 30, 31, 32, 54, 55, 56, 57, 58, 59, 60, 61, 62, 63] (by decide +kernel) (by decide +kernel)) (goodIn_sub (fun _ h => List.mem_cons_of_mem _ (List.mem_append_right _ h)) (by decide +kernel))
set_option maxRecDepth 20000 in
theorem gX4_restedAnew_X4_pilotAt : GoodIn wsX4_restedAnew (wsV RX4 84 RX4 yX4_pilotAt wsX4_pilotAt) := goodIn_app (goodIn_of _ (by decide +kernel)) ggX4_restedAnew_X4_pilotAt
set_option maxRecDepth 20000 in
theorem ggX4_restedAnew_X4_restedBehindSlots : GoodIn wsX4_restedAnew wsX4_restedBehindSlots := goodIn_r _ [36, 37, 38, 39, 40, 41, 42, 43, 44, 45, 46, 10, 11, 12, 13, 14, 15, 16, 17, 18, 19, 20, 21, 22, 23, 24, 25, 26, 27, 28, 29, 30, 31, 32, 47, 48, 49, 50, 51, 52, 53, 54, 55, 56, 57, 58, 59, 60, 64, 65, 66, 67, 68, 69, 70, 61, 62, 63, 71, 72, 73, 74, 75, 76] (by decide +kernel) (by decide +kernel)
set_option maxRecDepth 20000 in
theorem gX4_restedAnew_X4_restedBehindSlots : GoodIn wsX4_restedAnew (wsV RX4 192 RX4 yX4_restedBehindSlots wsX4_restedBehindSlots) := goodIn_app (goodIn_of _ (by decide +kernel)) ggX4_restedAnew_X4_restedBehindSlots
set_option maxRecDepth 20000 in
theorem ggX4_bill_X4_shipAt : GoodIn wsX4_bill wsX4_shipAt := goodIn_ca (goodIn_r _ [6, 7, 8, 9, 10, 11, 12, 13, 14, 15, 16, 17, 18, 19, 20, 21, 22, 23, 24, 25, 26, 27, 28, 29, 30, 31, 32, 33, 40, 41, 42, 43, 44, 45, 46, 47, 48, 49] (by decide +kernel) (by decide +kernel)) (goodIn_sub (fun _ h => List.mem_cons_of_mem _ (List.mem_append_right _ h)) (by decide +kernel))
set_option maxRecDepth 20000 in
theorem gX4_bill_X4_shipAt : GoodIn wsX4_bill (wsV RX4 64 RX4 yX4_shipAt wsX4_shipAt) := goodIn_app (goodIn_of _ (by decide +kernel)) ggX4_bill_X4_shipAt
set_option maxRecDepth 20000 in
theorem ggX4_ofPilot_X4_pilotAt : GoodIn wsX4_ofPilot wsX4_pilotAt := goodIn_ca (goodIn_r _ [10, 1, 2, 11, 12, 13, 14, 15, 16, 17, 18, 19, 20, 21, 22, 23, 24, 25, 26, 27, 28, 29, 30, 31, 32, 33, 34, 35, 49, 50, 51, 52, 53, 54, 55, 56, 57, 58] (by decide +kernel) (by decide +kernel)) (goodIn_sub (fun _ h => List.mem_cons_of_mem _ (List.mem_append_right _ h)) (by decide +kernel))
set_option maxRecDepth 20000 in
theorem gX4_ofPilot_X4_pilotAt : GoodIn wsX4_ofPilot (wsV RX4 84 RX4 yX4_pilotAt wsX4_pilotAt) := goodIn_app (goodIn_of _ (by decide +kernel)) ggX4_ofPilot_X4_pilotAt
set_option maxRecDepth 20000 in
theorem ggX4_ofPilot_X4_isAboard : GoodIn wsX4_ofPilot wsX4_isAboard := goodIn_r _ [39, 40, 41, 42, 43, 13, 14, 15, 16, 17, 18, 19, 20, 21, 22, 23, 24, 25, 26, 27, 28, 29, 30, 31, 32, 33, 34, 35, 49, 50, 51, 52, 53, 54, 55, 59, 60, 61, 62, 63, 64, 65, 56, 57, 58] (by decide +kernel) (by decide +kernel)
set_option maxRecDepth 20000 in
theorem gX4_ofPilot_X4_isAboard : GoodIn wsX4_ofPilot (wsV RX4 205 RX4 yX4_isAboard wsX4_isAboard) := goodIn_app (goodIn_of _ (by decide +kernel)) ggX4_ofPilot_X4_isAboard
set_option maxRecDepth 20000 in
theorem ggX4_count_X4_demandWithin : GoodIn wsX4_count wsX4_demandWithin := goodIn_ca (goodIn_r _ [6, 7, 8] (by decide +kernel) (by decide +kernel)) (goodIn_sub (fun _ h => List.mem_cons_of_mem _ (List.mem_append_right _ h)) (by decide +kernel))
set_option maxRecDepth 20000 in
theorem gX4_count_X4_demandWithin : GoodIn wsX4_count (va_wsS RX4 33 yX4_demandWithin wsX4_demandWithin) := goodIn_app (goodIn_of _ (by decide +kernel)) ggX4_count_X4_demandWithin
set_option maxRecDepth 20000 in
theorem ggX4_count_X4_tugsOfOthers : GoodIn wsX4_count wsX4_tugsOfOthers := goodIn_r _ [12, 13, 14, 15, 16, 17, 18, 19, 20, 21, 22, 23, 24, 25, 26, 27, 28, 29, 30, 31, 32, 33, 34, 35, 36, 37, 38, 39, 40, 41, 54, 55, 56, 57, 58, 59, 60, 61, 62, 63, 64, 65, 66, 67, 68, 69, 70, 71, 72, 73, 74, 75, 76] (by decide +kernel) (by decide +kernel)
set_option maxRecDepth 20000 in
theorem gX4_count_X4_tugsOfOthers : GoodIn wsX4_count (wsV RX4 212 RX4 yX4_tugsOfOthers wsX4_tugsOfOthers) := goodIn_app (goodIn_of _ (by decide +kernel)) ggX4_count_X4_tugsOfOthers
set_option maxRecDepth 20000 in
theorem ggX4_count_X4_allBills : GoodIn wsX4_count wsX4_allBills := goodIn_r _ [45, 46, 47, 48, 19, 20, 21, 22, 23, 24, 25, 26, 27, 28, 29, 30, 31, 32, 33, 34, 35, 36, 37, 38, 39, 40, 41, 54, 55, 56, 57, 58, 59, 60, 68, 69, 70, 71, 72, 73, 74, 75, 76] (by decide +kernel) (by decide +kernel)
set_option maxRecDepth 20000 in
theorem gX4_count_X4_allBills : GoodIn wsX4_count (wsV RX4 216 RX4 yX4_allBills wsX4_allBills) := goodIn_app (goodIn_of _ (by decide +kernel)) ggX4_count_X4_allBills
set_option maxRecDepth 20000 in
theorem ggX4_count_X4_howManyAre : GoodIn wsX4_count wsX4_howManyAre := goodIn_r _ [52, 13, 14, 53, 19, 20, 21, 22, 23, 24, 25, 26, 27, 28, 29, 30, 31, 32, 33, 34, 35, 36, 37, 38, 39, 40, 41, 54, 55, 56, 57, 58, 59, 60, 61, 62, 63, 64, 65, 66, 67, 74, 75, 76] (by decide +kernel) (by decide +kernel)
set_option maxRecDepth 20000 in
theorem gX4_count_X4_howManyAre : GoodIn wsX4_count (wsV RX4 219 RX4 yX4_howManyAre wsX4_howManyAre) := goodIn_app (goodIn_of _ (by decide +kernel)) ggX4_count_X4_howManyAre
set_option maxRecDepth 20000 in
theorem ggX4_shipAt_Jx4a65c_size_8abf5 : GoodIn wsX4_shipAt wsJx4a65c_size_8abf5 := goodIn_r _ [9, 10, 35, 36, 37] (by decide +kernel) (by decide +kernel)
set_option maxRecDepth 20000 in
theorem gX4_shipAt_Jx4a65c_size_8abf5 : GoodIn wsX4_shipAt (wsV RX4 43 RJx4a65c yJx4a65c_size_8abf5 wsJx4a65c_size_8abf5) := goodIn_app (goodIn_of _ (by decide +kernel)) ggX4_shipAt_Jx4a65c_size_8abf5
set_option maxRecDepth 20000 in
theorem ggX4_shipAt_Jx4a65c_get_915e3 : GoodIn wsX4_shipAt wsJx4a65c_get_915e3 := goodIn_r _ [14, 10, 15, 16, 17, 18, 19, 20, 21, 22, 23, 24, 25, 8, 26, 27, 35, 36, 37] (by decide +kernel) (by decide +kernel)
set_option maxRecDepth 20000 in
theorem gX4_shipAt_Jx4a65c_get_915e3 : GoodIn wsX4_shipAt (wsV RX4 145 RJx4a65c yJx4a65c_get_915e3 wsJx4a65c_get_915e3) := goodIn_app (goodIn_of _ (by decide +kernel)) ggX4_shipAt_Jx4a65c_get_915e3
set_option maxRecDepth 20000 in
theorem ggX4_pilotAt_Jx4a65c_size_8abf5 : GoodIn wsX4_pilotAt wsJx4a65c_size_8abf5 := goodIn_r _ [9, 10, 35, 36, 37] (by decide +kernel) (by decide +kernel)
set_option maxRecDepth 20000 in
theorem gX4_pilotAt_Jx4a65c_size_8abf5 : GoodIn wsX4_pilotAt (wsV RX4 43 RJx4a65c yJx4a65c_size_8abf5 wsJx4a65c_size_8abf5) := goodIn_app (goodIn_of _ (by decide +kernel)) ggX4_pilotAt_Jx4a65c_size_8abf5
set_option maxRecDepth 20000 in
theorem ggX4_pilotAt_Jx4a65c_get_915e3 : GoodIn wsX4_pilotAt wsJx4a65c_get_915e3 := goodIn_r _ [14, 10, 15, 16, 17, 18, 19, 20, 21, 22, 23, 24, 25, 8, 26, 27, 35, 36, 37] (by decide +kernel) (by decide +kernel)
set_option maxRecDepth 20000 in
theorem gX4_pilotAt_Jx4a65c_get_915e3 : GoodIn wsX4_pilotAt (wsV RX4 145 RJx4a65c yJx4a65c_get_915e3 wsJx4a65c_get_915e3) := goodIn_app (goodIn_of _ (by decide +kernel)) ggX4_pilotAt_Jx4a65c_get_915e3
set_option maxRecDepth 20000 in
theorem ggX4_conferenceAt_Jx4a65c_size_8abf5 : GoodIn wsX4_conferenceAt wsJx4a65c_size_8abf5 := goodIn_r _ [9, 10, 35, 36, 37] (by decide +kernel) (by decide +kernel)
set_option maxRecDepth 20000 in
theorem gX4_conferenceAt_Jx4a65c_size_8abf5 : GoodIn wsX4_conferenceAt (wsV RX4 43 RJx4a65c yJx4a65c_size_8abf5 wsJx4a65c_size_8abf5) := goodIn_app (goodIn_of _ (by decide +kernel)) ggX4_conferenceAt_Jx4a65c_size_8abf5
set_option maxRecDepth 20000 in
theorem ggX4_conferenceAt_Jx4a65c_get_915e3 : GoodIn wsX4_conferenceAt wsJx4a65c_get_915e3 := goodIn_r _ [14, 10, 15, 16, 17, 18, 19, 20, 21, 22, 23, 24, 25, 8, 26, 27, 35, 36, 37] (by decide +kernel) (by decide +kernel)
set_option maxRecDepth 20000 in
theorem gX4_conferenceAt_Jx4a65c_get_915e3 : GoodIn wsX4_conferenceAt (wsV RX4 145 RJx4a65c yJx4a65c_get_915e3 wsJx4a65c_get_915e3) := goodIn_app (goodIn_of _ (by decide +kernel)) ggX4_conferenceAt_Jx4a65c_get_915e3
set_option maxRecDepth 20000 in
theorem ggX4_lookAnew_Jx4a65c_size_8abf5 : GoodIn wsX4_lookAnew wsJx4a65c_size_8abf5 := goodIn_r _ [9, 10, 105, 106, 107] (by decide +kernel) (by decide +kernel)
set_option maxRecDepth 20000 in
theorem gX4_lookAnew_Jx4a65c_size_8abf5 : GoodIn wsX4_lookAnew (wsV RX4 43 RJx4a65c yJx4a65c_size_8abf5 wsJx4a65c_size_8abf5) := goodIn_app (goodIn_of _ (by decide +kernel)) ggX4_lookAnew_Jx4a65c_size_8abf5
set_option maxRecDepth 20000 in
theorem ggX4_lookAnew_Jx4a65c_get_915e3 : GoodIn wsX4_lookAnew wsJx4a65c_get_915e3 := goodIn_r _ [14, 10, 15, 16, 17, 18, 19, 20, 21, 22, 23, 24, 25, 8, 26, 27, 105, 106, 107] (by decide +kernel) (by decide +kernel)
set_option maxRecDepth 20000 in
theorem gX4_lookAnew_Jx4a65c_get_915e3 : GoodIn wsX4_lookAnew (wsV RX4 145 RJx4a65c yJx4a65c_get_915e3 wsJx4a65c_get_915e3) := goodIn_app (goodIn_of _ (by decide +kernel)) ggX4_lookAnew_Jx4a65c_get_915e3
set_option maxRecDepth 20000 in
theorem ggX4_lookAnew_X4_lookForSlot : GoodIn wsX4_lookAnew wsX4_lookForSlot := goodIn_r _ [32, 4, 3, 33, 34, 35, 36, 31, 37, 38, 39, 40, 41, 42, 43, 44, 45, 46, 47, 48, 49, 50, 51, 52, 53, 54, 55, 56, 57, 58, 59, 60, 61, 62, 63, 64, 1, 2, 65, 5, 6, 7, 8, 9, 10, 11, 12, 13, 14, 15, 16, 17, 18, 19, 20, 21, 22, 23, 24, 25, 26, 27, 66, 67, 68, 69, 70, 71, 72, 73, 74, 75, 76, 77, 78, 79, 80, 81, 82, 83, 84, 85, 86, 87, 88, 89, 90, 98, 99, 100, 101, 102, 103, 104, 91, 92, 93, 94, 95, 96, 97, 108, 109, 110, 111, 112, 113, 114, 115, 105, 106, 107] (by decide +kernel) (by decide +kernel)
set_option maxRecDepth 20000 in
theorem gX4_lookAnew_X4_lookForSlot : GoodIn wsX4_lookAnew (wsV RX4 118 RX4 yX4_lookForSlot wsX4_lookForSlot) := goodIn_app (goodIn_of _ (by decide +kernel)) ggX4_lookAnew_X4_lookForSlot
set_option maxRecDepth 20000 in
theorem ggX4_lookForSlot_X4_earliestSlot : GoodIn wsX4_lookForSlot wsX4_earliestSlot := goodIn_r _ [8, 9, 3, 10, 11, 12, 13, 14, 15, 16, 17, 18, 19, 20, 21, 22, 23, 24, 25, 26, 27, 28, 29, 30, 31, 32, 33, 34, 7, 35, 36, 37, 1, 38, 39, 40, 41, 42, 43, 44, 45, 46, 47, 48, 49, 50, 51, 52, 53, 54, 55, 56, 57, 58, 59, 60, 61, 62, 63, 64, 65, 66, 67, 68, 69, 70, 71, 72, 73, 74, 75, 76, 77, 78, 79, 80, 81, 82, 83, 84, 85, 86, 87, 88, 89, 90, 91, 92, 93, 94, 95, 96, 97, 98, 99, 100, 101, 102, 103, 104, 105, 106, 107, 108, 109, 110, 111] (by decide +kernel) (by decide +kernel)
set_option maxRecDepth 20000 in
theorem gX4_lookForSlot_X4_earliestSlot : GoodIn wsX4_lookForSlot (wsV RX4 237 RX4 yX4_earliestSlot wsX4_earliestSlot) := goodIn_app (goodIn_of _ (by decide +kernel)) ggX4_lookForSlot_X4_earliestSlot
set_option maxRecDepth 20000 in
theorem ggX4_earliestSlot_X3_pastShallows : GoodIn wsX4_earliestSlot wsX3_pastShallows := goodIn_r _ [13, 14, 15, 16, 17, 18, 19, 12, 20, 21, 22, 5, 23, 24, 96, 97, 98, 99, 100, 101, 102, 103] (by decide +kernel) (by decide +kernel)
set_option maxRecDepth 20000 in
theorem gX4_earliestSlot_X3_pastShallows : GoodIn wsX4_earliestSlot (wsV RX4 157 RX3 yX3_pastShallows wsX3_pastShallows) := goodIn_app (goodIn_of _ (by decide +kernel)) ggX4_earliestSlot_X3_pastShallows
set_option maxRecDepth 20000 in
theorem ggX4_earliestSlot_X4_pastRests : GoodIn wsX4_earliestSlot wsX4_pastRests := goodIn_r _ [29, 30, 31, 32, 33, 8, 3, 4, 5, 6, 34, 35, 36, 37, 38, 39, 40, 41, 42, 43, 44, 45, 46, 47, 48, 49, 50, 51, 52, 53, 54, 55, 56, 57, 58, 59, 60, 61, 62, 63, 89, 90, 91, 92, 93, 94, 95, 82, 83, 84, 85, 86, 87, 88, 104, 105, 106, 96, 97, 98, 99, 100, 101] (by decide +kernel) (by decide +kernel)
set_option maxRecDepth 20000 in
theorem gX4_earliestSlot_X4_pastRests : GoodIn wsX4_earliestSlot (wsV RX4 182 RX4 yX4_pastRests wsX4_pastRests) := goodIn_app (goodIn_of _ (by decide +kernel)) ggX4_earliestSlot_X4_pastRests
set_option maxRecDepth 20000 in
theorem ggX4_earliestSlot_X4_pastChannel : GoodIn wsX4_earliestSlot wsX4_pastChannel := goodIn_r _ [67, 30, 31, 32, 68, 69, 5, 70, 3, 4, 6, 34, 35, 36, 37, 38, 39, 40, 41, 42, 43, 44, 45, 46, 47, 48, 49, 50, 51, 52, 53, 54, 55, 56, 89, 90, 91, 92, 93, 94, 95, 82, 83, 84, 85, 86, 87, 88, 104, 105, 106] (by decide +kernel) (by decide +kernel)
set_option maxRecDepth 20000 in
theorem gX4_earliestSlot_X4_pastChannel : GoodIn wsX4_earliestSlot (wsV RX4 189 RX4 yX4_pastChannel wsX4_pastChannel) := goodIn_app (goodIn_of _ (by decide +kernel)) ggX4_earliestSlot_X4_pastChannel
set_option maxRecDepth 20000 in
theorem ggX4_earliestSlot_X4_pastTugs : GoodIn wsX4_earliestSlot wsX4_pastTugs := goodIn_r _ [74, 8, 75, 76, 77, 78, 79, 80, 28, 81, 30, 31, 32, 34, 35, 36, 37, 38, 39, 40, 41, 42, 43, 44, 45, 46, 47, 48, 49, 50, 51, 52, 53, 54, 55, 56, 82, 83, 84, 85, 86, 87, 88, 96, 97, 98, 99, 100, 101, 89, 90, 91, 92, 93, 94, 95, 104, 105, 106] (by decide +kernel) (by decide +kernel)
set_option maxRecDepth 20000 in
theorem gX4_earliestSlot_X4_pastTugs : GoodIn wsX4_earliestSlot (wsV RX4 186 RX4 yX4_pastTugs wsX4_pastTugs) := goodIn_app (goodIn_of _ (by decide +kernel)) ggX4_earliestSlot_X4_pastTugs
set_option maxRecDepth 20000 in
theorem ggX4_pastRests_Jx4a65c_size_8abf5 : GoodIn wsX4_pastRests wsJx4a65c_size_8abf5 := goodIn_r _ [14, 15, 54, 55, 56] (by decide +kernel) (by decide +kernel)
set_option maxRecDepth 20000 in
theorem gX4_pastRests_Jx4a65c_size_8abf5 : GoodIn wsX4_pastRests (wsV RX4 43 RJx4a65c yJx4a65c_size_8abf5 wsJx4a65c_size_8abf5) := goodIn_app (goodIn_of _ (by decide +kernel)) ggX4_pastRests_Jx4a65c_size_8abf5
set_option maxRecDepth 20000 in
theorem ggX4_pastRests_Jx4a65c_get_915e3 : GoodIn wsX4_pastRests wsJx4a65c_get_915e3 := goodIn_r _ [19, 15, 20, 21, 22, 23, 24, 25, 26, 27, 28, 29, 30, 13, 31, 32, 54, 55, 56] (by decide +kernel) (by decide +kernel)
set_option maxRecDepth 20000 in
theorem gX4_pastRests_Jx4a65c_get_915e3 : GoodIn wsX4_pastRests (wsV RX4 145 RJx4a65c yJx4a65c_get_915e3 wsJx4a65c_get_915e3) := goodIn_app (goodIn_of _ (by decide +kernel)) ggX4_pastRests_Jx4a65c_get_915e3
set_option maxRecDepth 20000 in
theorem ggX4_pastRests_X2_minutesWithRest : GoodIn wsX4_pastRests wsX2_minutesWithRest := goodIn_r _ [37, 38, 39, 7, 8, 9, 57, 58, 59, 60, 61, 62] (by decide +kernel) (by decide +kernel)
set_option maxRecDepth 20000 in
theorem gX4_pastRests_X2_minutesWithRest : GoodIn wsX4_pastRests (wsV RX4 244 RX2 yX2_minutesWithRest wsX2_minutesWithRest) := goodIn_app (goodIn_of _ (by decide +kernel)) ggX4_pastRests_X2_minutesWithRest
set_option maxRecDepth 20000 in
theorem ggX4_pastTugs_X4_tugsOfOthers : GoodIn wsX4_pastTugs wsX4_tugsOfOthers := goodIn_r _ [9, 10, 11, 12, 1, 2, 4, 13, 14, 15, 16, 17, 18, 19, 20, 21, 22, 23, 24, 25, 26, 27, 28, 29, 30, 31, 32, 33, 34, 35, 49, 50, 51, 52, 53, 54, 55, 36, 37, 38, 39, 40, 41, 42, 43, 44, 45, 46, 47, 48, 56, 57, 58] (by decide +kernel) (by decide +kernel)
set_option maxRecDepth 20000 in
theorem gX4_pastTugs_X4_tugsOfOthers : GoodIn wsX4_pastTugs (wsV RX4 212 RX4 yX4_tugsOfOthers wsX4_tugsOfOthers) := goodIn_app (goodIn_of _ (by decide +kernel)) ggX4_pastTugs_X4_tugsOfOthers
set_option maxRecDepth 20000 in
theorem ggX4_pastChannel_Jx4a65c_size_8abf5 : GoodIn wsX4_pastChannel wsJx4a65c_size_8abf5 := goodIn_r _ [15, 16, 48, 49, 50] (by decide +kernel) (by decide +kernel)
set_option maxRecDepth 20000 in
theorem gX4_pastChannel_Jx4a65c_size_8abf5 : GoodIn wsX4_pastChannel (wsV RX4 43 RJx4a65c yJx4a65c_size_8abf5 wsJx4a65c_size_8abf5) := goodIn_app (goodIn_of _ (by decide +kernel)) ggX4_pastChannel_Jx4a65c_size_8abf5
set_option maxRecDepth 20000 in
theorem ggX4_pastChannel_Jx4a65c_get_915e3 : GoodIn wsX4_pastChannel wsJx4a65c_get_915e3 := goodIn_r _ [20, 16, 21, 22, 23, 24, 25, 26, 27, 28, 29, 30, 31, 14, 32, 33, 48, 49, 50] (by decide +kernel) (by decide +kernel)
set_option maxRecDepth 20000 in
theorem gX4_pastChannel_Jx4a65c_get_915e3 : GoodIn wsX4_pastChannel (wsV RX4 145 RJx4a65c yJx4a65c_get_915e3 wsJx4a65c_get_915e3) := goodIn_app (goodIn_of _ (by decide +kernel)) ggX4_pastChannel_Jx4a65c_get_915e3
set_option maxRecDepth 20000 in
theorem ggX4_tugsOfOthers_Jx4a65c_size_8abf5 : GoodIn wsX4_tugsOfOthers wsJx4a65c_size_8abf5 := goodIn_r _ [11, 12, 50, 51, 52] (by decide +kernel) (by decide +kernel)
set_option maxRecDepth 20000 in
theorem gX4_tugsOfOthers_Jx4a65c_size_8abf5 : GoodIn wsX4_tugsOfOthers (wsV RX4 43 RJx4a65c yJx4a65c_size_8abf5 wsJx4a65c_size_8abf5) := goodIn_app (goodIn_of _ (by decide +kernel)) ggX4_tugsOfOthers_Jx4a65c_size_8abf5
set_option maxRecDepth 20000 in
theorem ggX4_tugsOfOthers_Jx4a65c_get_915e3 : GoodIn wsX4_tugsOfOthers wsJx4a65c_get_915e3 := goodIn_r _ [16, 12, 17, 18, 19, 20, 21, 22, 23, 24, 25, 26, 27, 10, 28, 29, 50, 51, 52] (by decide +kernel) (by decide +kernel)
set_option maxRecDepth 20000 in
theorem gX4_tugsOfOthers_Jx4a65c_get_915e3 : GoodIn wsX4_tugsOfOthers (wsV RX4 145 RJx4a65c yJx4a65c_get_915e3 wsJx4a65c_get_915e3) := goodIn_app (goodIn_of _ (by decide +kernel)) ggX4_tugsOfOthers_Jx4a65c_get_915e3
set_option maxRecDepth 20000 in
theorem ggX4_restedBehindSlots_Jx4a65c_size_8abf5 : GoodIn wsX4_restedBehindSlots wsJx4a65c_size_8abf5 := goodIn_r _ [15, 16, 55, 56, 57] (by decide +kernel) (by decide +kernel)
set_option maxRecDepth 20000 in
theorem gX4_restedBehindSlots_Jx4a65c_size_8abf5 : GoodIn wsX4_restedBehindSlots (wsV RX4 43 RJx4a65c yJx4a65c_size_8abf5 wsJx4a65c_size_8abf5) := goodIn_app (goodIn_of _ (by decide +kernel)) ggX4_restedBehindSlots_Jx4a65c_size_8abf5
set_option maxRecDepth 20000 in
theorem ggX4_restedBehindSlots_Jx4a65c_get_915e3 : GoodIn wsX4_restedBehindSlots wsJx4a65c_get_915e3 := goodIn_r _ [20, 16, 21, 22, 23, 24, 25, 26, 27, 28, 29, 30, 31, 14, 32, 33, 55, 56, 57] (by decide +kernel) (by decide +kernel)
set_option maxRecDepth 20000 in
theorem gX4_restedBehindSlots_Jx4a65c_get_915e3 : GoodIn wsX4_restedBehindSlots (wsV RX4 145 RJx4a65c yJx4a65c_get_915e3 wsJx4a65c_get_915e3) := goodIn_app (goodIn_of _ (by decide +kernel)) ggX4_restedBehindSlots_Jx4a65c_get_915e3
set_option maxRecDepth 20000 in
theorem ggX4_restedBehindSlots_X2_minutesWithRest : GoodIn wsX4_restedBehindSlots wsX2_minutesWithRest := goodIn_r _ [38, 39, 40, 8, 9, 10, 58, 59, 60, 61, 62, 63] (by decide +kernel) (by decide +kernel)
set_option maxRecDepth 20000 in
theorem gX4_restedBehindSlots_X2_minutesWithRest : GoodIn wsX4_restedBehindSlots (wsV RX4 244 RX2 yX2_minutesWithRest wsX2_minutesWithRest) := goodIn_app (goodIn_of _ (by decide +kernel)) ggX4_restedBehindSlots_X2_minutesWithRest
set_option maxRecDepth 20000 in
theorem ggX4_isAboard_Jx4a65c_size_8abf5 : GoodIn wsX4_isAboard wsJx4a65c_size_8abf5 := goodIn_r _ [9, 10, 42, 43, 44] (by decide +kernel) (by decide +kernel)
set_option maxRecDepth 20000 in
theorem gX4_isAboard_Jx4a65c_size_8abf5 : GoodIn wsX4_isAboard (wsV RX4 43 RJx4a65c yJx4a65c_size_8abf5 wsJx4a65c_size_8abf5) := goodIn_app (goodIn_of _ (by decide +kernel)) ggX4_isAboard_Jx4a65c_size_8abf5
set_option maxRecDepth 20000 in
theorem ggX4_isAboard_Jx4a65c_get_915e3 : GoodIn wsX4_isAboard wsJx4a65c_get_915e3 := goodIn_r _ [14, 10, 15, 16, 17, 18, 19, 20, 21, 22, 23, 24, 25, 8, 26, 27, 42, 43, 44] (by decide +kernel) (by decide +kernel)
set_option maxRecDepth 20000 in
theorem gX4_isAboard_Jx4a65c_get_915e3 : GoodIn wsX4_isAboard (wsV RX4 145 RJx4a65c yJx4a65c_get_915e3 wsJx4a65c_get_915e3) := goodIn_app (goodIn_of _ (by decide +kernel)) ggX4_isAboard_Jx4a65c_get_915e3
set_option maxRecDepth 20000 in
theorem ggX4_howManyAre_Jx4a65c_size_8abf5 : GoodIn wsX4_howManyAre wsJx4a65c_size_8abf5 := goodIn_r _ [8, 9, 41, 42, 43] (by decide +kernel) (by decide +kernel)
set_option maxRecDepth 20000 in
theorem gX4_howManyAre_Jx4a65c_size_8abf5 : GoodIn wsX4_howManyAre (wsV RX4 43 RJx4a65c yJx4a65c_size_8abf5 wsJx4a65c_size_8abf5) := goodIn_app (goodIn_of _ (by decide +kernel)) ggX4_howManyAre_Jx4a65c_size_8abf5
set_option maxRecDepth 20000 in
theorem ggX4_howManyAre_Jx4a65c_get_915e3 : GoodIn wsX4_howManyAre wsJx4a65c_get_915e3 := goodIn_r _ [13, 9, 14, 15, 16, 17, 18, 19, 20, 21, 22, 23, 24, 7, 25, 26, 41, 42, 43] (by decide +kernel) (by decide +kernel)
set_option maxRecDepth 20000 in
theorem gX4_howManyAre_Jx4a65c_get_915e3 : GoodIn wsX4_howManyAre (wsV RX4 145 RJx4a65c yJx4a65c_get_915e3 wsJx4a65c_get_915e3) := goodIn_app (goodIn_of _ (by decide +kernel)) ggX4_howManyAre_Jx4a65c_get_915e3
set_option maxRecDepth 20000 in
theorem ggX4_allBills_Jx4a65c_size_8abf5 : GoodIn wsX4_allBills wsJx4a65c_size_8abf5 := goodIn_r _ [8, 9, 40, 41, 42] (by decide +kernel) (by decide +kernel)
set_option maxRecDepth 20000 in
theorem gX4_allBills_Jx4a65c_size_8abf5 : GoodIn wsX4_allBills (wsV RX4 43 RJx4a65c yJx4a65c_size_8abf5 wsJx4a65c_size_8abf5) := goodIn_app (goodIn_of _ (by decide +kernel)) ggX4_allBills_Jx4a65c_size_8abf5
set_option maxRecDepth 20000 in
theorem ggX4_allBills_Jx4a65c_get_915e3 : GoodIn wsX4_allBills wsJx4a65c_get_915e3 := goodIn_r _ [13, 9, 14, 15, 16, 17, 18, 19, 20, 21, 22, 23, 24, 7, 25, 26, 40, 41, 42] (by decide +kernel) (by decide +kernel)
set_option maxRecDepth 20000 in
theorem gX4_allBills_Jx4a65c_get_915e3 : GoodIn wsX4_allBills (wsV RX4 145 RJx4a65c yJx4a65c_get_915e3 wsJx4a65c_get_915e3) := goodIn_app (goodIn_of _ (by decide +kernel)) ggX4_allBills_Jx4a65c_get_915e3
set_option maxRecDepth 20000 in
theorem ggJxc12de_init_da8c8_Jxa1e45_init_da8c8 : GoodIn wsJxc12de_init_da8c8 wsJxa1e45_init_da8c8 := goodIn_r _ [5, 6, 7, 8] (by decide +kernel) (by decide +kernel)
set_option maxRecDepth 20000 in
theorem gJxc12de_init_da8c8_Jxa1e45_init_da8c8 : GoodIn wsJxc12de_init_da8c8 (wsJxa1e45_init_da8c8) := ggJxc12de_init_da8c8_Jxa1e45_init_da8c8
set_option maxRecDepth 20000 in
theorem ggJx4a65c_init_da8c8_Jxc12de_init_da8c8 : GoodIn wsJx4a65c_init_da8c8 wsJxc12de_init_da8c8 := goodIn_r _ [6, 7, 8, 9, 10, 11, 12, 13, 14, 15, 16, 17] (by decide +kernel) (by decide +kernel)
set_option maxRecDepth 20000 in
theorem gJx4a65c_init_da8c8_Jxc12de_init_da8c8 : GoodIn wsJx4a65c_init_da8c8 (wsJxc12de_init_da8c8) := ggJx4a65c_init_da8c8_Jxc12de_init_da8c8
set_option maxRecDepth 20000 in
theorem ggJx4a65c_grow_92f84_J8_newLength_cabcc : GoodIn wsJx4a65c_grow_92f84 wsJ8_newLength_cabcc := goodIn_r _ [11, 12, 4, 5, 6, 13, 14, 15, 10, 16] (by decide +kernel) (by decide +kernel)
set_option maxRecDepth 20000 in
theorem gJx4a65c_grow_92f84_J8_newLength_cabcc : GoodIn wsJx4a65c_grow_92f84 (va_wsS RJx4a65c 73 yJ8_newLength_cabcc wsJ8_newLength_cabcc) := goodIn_app (goodIn_of _ (by decide +kernel)) ggJx4a65c_grow_92f84_J8_newLength_cabcc
set_option maxRecDepth 20000 in
theorem ggJx4a65c_grow_92f84_J7_copyOf_1904c : GoodIn wsJx4a65c_grow_92f84 wsJ7_copyOf_1904c := goodIn_r _ [20, 21, 22, 23, 24, 25, 26, 19, 27, 28, 29, 30, 31, 5, 32, 33, 34, 35, 36] (by decide +kernel) (by decide +kernel)
set_option maxRecDepth 20000 in
theorem gJx4a65c_grow_92f84_J7_copyOf_1904c : GoodIn wsJx4a65c_grow_92f84 (va_wsS RJx4a65c 66 yJ7_copyOf_1904c wsJ7_copyOf_1904c) := goodIn_app (goodIn_of _ (by decide +kernel)) ggJx4a65c_grow_92f84_J7_copyOf_1904c
set_option maxRecDepth 20000 in
theorem ggJx4a65c_grow_d5877_Jx4a65c_grow_92f84 : GoodIn wsJx4a65c_grow_d5877 wsJx4a65c_grow_92f84 := goodIn_r _ [6, 7, 8, 9, 10, 11, 12, 13, 14, 15, 16, 17, 18, 19, 20, 21, 22, 23, 24, 25, 26, 27, 28, 29, 30, 31, 32, 33, 34, 35, 36, 37, 38, 39, 40, 41, 42, 43, 44, 45] (by decide +kernel) (by decide +kernel)
set_option maxRecDepth 20000 in
theorem gJx4a65c_grow_d5877_Jx4a65c_grow_92f84 : GoodIn wsJx4a65c_grow_d5877 (wsV RJx4a65c 69 RJx4a65c yJx4a65c_grow_92f84 wsJx4a65c_grow_92f84) := goodIn_app (goodIn_of _ (by decide +kernel)) ggJx4a65c_grow_d5877_Jx4a65c_grow_92f84
set_option maxRecDepth 20000 in
theorem ggJx4a65c_get_915e3_J15_checkIndex_7cf53 : GoodIn wsJx4a65c_get_915e3 wsJ15_checkIndex_7cf53 := goodIn_r _ [5, 6, 7, 8, 9] (by decide +kernel) (by decide +kernel)
set_option maxRecDepth 20000 in
theorem gJx4a65c_get_915e3_J15_checkIndex_7cf53 : GoodIn wsJx4a65c_get_915e3 (va_wsS RJx4a65c 118 yJ15_checkIndex_7cf53 wsJ15_checkIndex_7cf53) := goodIn_app (goodIn_of _ (by decide +kernel)) ggJx4a65c_get_915e3_J15_checkIndex_7cf53
set_option maxRecDepth 20000 in
theorem ggJx4a65c_get_915e3_Jx4a65c_elementData_915e3 : GoodIn wsJx4a65c_get_915e3 wsJx4a65c_elementData_915e3 := goodIn_r _ [14, 15, 16, 17, 18] (by decide +kernel) (by decide +kernel)
set_option maxRecDepth 20000 in
theorem gJx4a65c_get_915e3_Jx4a65c_elementData_915e3 : GoodIn wsJx4a65c_get_915e3 (wsV RJx4a65c 123 RJx4a65c yJx4a65c_elementData_915e3 wsJx4a65c_elementData_915e3) := goodIn_app (goodIn_of _ (by decide +kernel)) ggJx4a65c_get_915e3_Jx4a65c_elementData_915e3
set_option maxRecDepth 20000 in
theorem ggJx4a65c_add_72be8_Jx4a65c_grow_d5877 : GoodIn wsJx4a65c_add_72be8 wsJx4a65c_grow_d5877 := goodIn_r _ [6, 1, 7, 8, 9, 5, 10, 11, 12, 13, 14, 15, 16, 17, 18, 19, 20, 21, 22, 23, 24, 25, 26, 27, 28, 29, 30, 31, 32, 33, 34, 35, 36, 37, 38, 39, 40, 41, 42, 43, 44, 45, 46, 47, 48, 49] (by decide +kernel) (by decide +kernel)
set_option maxRecDepth 20000 in
theorem gJx4a65c_add_72be8_Jx4a65c_grow_d5877 : GoodIn wsJx4a65c_add_72be8 (wsV RJx4a65c 129 RJx4a65c yJx4a65c_grow_d5877 wsJx4a65c_grow_d5877) := goodIn_app (goodIn_of _ (by decide +kernel)) ggJx4a65c_add_72be8_Jx4a65c_grow_d5877
set_option maxRecDepth 20000 in
theorem ggJx4a65c_add_9ea2d_Jx4a65c_add_72be8 : GoodIn wsJx4a65c_add_9ea2d wsJx4a65c_add_72be8 := goodIn_r _ [9, 4, 10, 11, 12, 8, 13, 14, 15, 16, 17, 3, 18, 19, 20, 21, 22, 23, 24, 25, 26, 27, 28, 29, 30, 31, 32, 33, 34, 35, 36, 37, 38, 39, 40, 41, 42, 43, 44, 45, 46, 47, 48, 49, 50, 51, 52, 53, 54, 55] (by decide +kernel) (by decide +kernel)
set_option maxRecDepth 20000 in
theorem gJx4a65c_add_9ea2d_Jx4a65c_add_72be8 : GoodIn wsJx4a65c_add_9ea2d (wsV RJx4a65c 131 RJx4a65c yJx4a65c_add_72be8 wsJx4a65c_add_72be8) := goodIn_app (goodIn_of _ (by decide +kernel)) ggJx4a65c_add_9ea2d_Jx4a65c_add_72be8
set_option maxRecDepth 20000 in
theorem ggJ7_copyOf_1904c_J7_copyOf_6403c : GoodIn wsJ7_copyOf_1904c wsJ7_copyOf_6403c := goodIn_r _ [8, 9, 10, 11, 12, 13, 14, 15, 16, 17, 18] (by decide +kernel) (by decide +kernel)
set_option maxRecDepth 20000 in
theorem gJ7_copyOf_1904c_J7_copyOf_6403c : GoodIn wsJ7_copyOf_1904c (va_wsS RJ7 300 yJ7_copyOf_6403c wsJ7_copyOf_6403c) := goodIn_app (goodIn_of _ (by decide +kernel)) ggJ7_copyOf_1904c_J7_copyOf_6403c
set_option maxRecDepth 20000 in
theorem ggJ15_checkIndex_7cf53_J3_checkIndex_8e157 : GoodIn wsJ15_checkIndex_7cf53 wsJ3_checkIndex_8e157 := goodIn_r _ [4] (by decide +kernel) (by decide +kernel)
set_option maxRecDepth 20000 in
theorem gJ15_checkIndex_7cf53_J3_checkIndex_8e157 : GoodIn wsJ15_checkIndex_7cf53 (va_wsS RJ15 105 yJ3_checkIndex_8e157 wsJ3_checkIndex_8e157) := goodIn_app (goodIn_of _ (by decide +kernel)) ggJ15_checkIndex_7cf53_J3_checkIndex_8e157
set_option maxRecDepth 20000 in
theorem ggJ8_newLength_cabcc_J8_hugeLength_7cf53 : GoodIn wsJ8_newLength_cabcc wsJ8_hugeLength_7cf53 := goodIn_r _ [9, 5] (by decide +kernel) (by decide +kernel)
set_option maxRecDepth 20000 in
theorem gJ8_newLength_cabcc_J8_hugeLength_7cf53 : GoodIn wsJ8_newLength_cabcc (va_wsS RJ8 201 yJ8_hugeLength_7cf53 wsJ8_hugeLength_7cf53) := goodIn_app (goodIn_of _ (by decide +kernel)) ggJ8_newLength_cabcc_J8_hugeLength_7cf53
set_option maxRecDepth 20000 in
theorem ggL_tide_X4_tide : GoodIn wsL_tide wsX4_tide := goodIn_ca (goodIn_r _ [6, 7, 8, 9, 10, 11, 5, 12, 13, 14, 15, 16, 17, 18, 19, 20, 21, 22, 23] (by decide +kernel) (by decide +kernel)) (goodIn_sub (fun _ h => List.mem_cons_of_mem _ (List.mem_append_right _ h)) (by decide +kernel))
set_option maxRecDepth 20000 in
theorem gL_tide_X4_tide : GoodIn wsL_tide (wsV RL 8 RX4 yX4_tide wsX4_tide) := goodIn_app (goodIn_of _ (by decide +kernel)) ggL_tide_X4_tide
set_option maxRecDepth 20000 in
theorem ggL_tugs_X4_tugs : GoodIn wsL_tugs wsX4_tugs := goodIn_ca (goodIn_r _ [6, 7, 8, 9, 5, 10, 11, 12, 13, 14, 15, 16, 17, 18, 19] (by decide +kernel) (by decide +kernel)) (goodIn_sub (fun _ h => List.mem_cons_of_mem _ (List.mem_append_right _ h)) (by decide +kernel))
set_option maxRecDepth 20000 in
theorem gL_tugs_X4_tugs : GoodIn wsL_tugs (wsV RL 16 RX4 yX4_tugs wsX4_tugs) := goodIn_app (goodIn_of _ (by decide +kernel)) ggL_tugs_X4_tugs
set_option maxRecDepth 20000 in
theorem ggL_ship_X4_ship : GoodIn wsL_ship wsX4_ship := goodIn_ca (goodIn_ca (goodIn_r _ [7, 8, 9, 10, 11, 12, 13, 6, 14, 15, 16, 17, 18, 19, 20, 21, 22, 23, 24, 25, 26, 27, 28, 29, 30, 31, 32, 33, 34, 35, 36, 37, 38, 39, 40, 41, 42, 43, 44, 45, 46, 47, 48, 49, 50, 51, 52, 53, 54, 55, 56, 57, 58, 59, 60, 61, 62, 63, 64, 65, 66, 67, 68, 69, 70, 71, 72, 73, 74, 75, 76, 77, 78, 79, 80, 81, 82, 83, 84, 85, 86, 87, 88, 89, 90, 91, 92, 93, 94, 95, 96, 97, 98, 99, 100, 101, 102, 103, 104, 105, 106, 107, 108] (by decide +kernel) (by decide +kernel)) (goodIn_sub (fun _ h => List.mem_cons_of_mem _ (List.mem_append_left _ (List.mem_append_right _ h))) (by decide +kernel))) (goodIn_sub (fun _ h => List.mem_cons_of_mem _ (List.mem_append_right _ h)) (by decide +kernel))
set_option maxRecDepth 20000 in
theorem gL_ship_X4_ship : GoodIn wsL_ship (wsV RL 20 RX4 yX4_ship wsX4_ship) := goodIn_app (goodIn_of _ (by decide +kernel)) ggL_ship_X4_ship
set_option maxRecDepth 20000 in
theorem ggL_pilot_X4_pilot : GoodIn wsL_pilot wsX4_pilot := goodIn_ca (goodIn_ca (goodIn_r _ [7, 8, 9, 10, 11, 12, 13, 6, 14, 15, 16, 17, 18, 19, 20, 21, 22, 23, 24, 25, 26, 27, 28, 29, 30, 31, 32, 33, 34, 35, 36, 37, 38, 39, 40, 41, 42, 43, 44, 45, 46, 47, 48, 49, 50, 51, 52, 53, 54, 55, 56, 57, 58, 59, 60, 61, 62, 63, 64, 65, 66, 67, 68, 69, 70, 71, 72, 73, 74, 75, 76, 77, 78, 79, 80, 81, 82, 83, 84, 85, 86, 87, 88, 89, 90, 91, 92, 93, 94, 95, 96, 97, 98, 99, 100, 101, 102, 103, 104, 105] (by decide +kernel) (by decide +kernel)) (goodIn_sub (fun _ h => List.mem_cons_of_mem _ (List.mem_append_left _ (List.mem_append_right _ h))) (by decide +kernel))) (goodIn_sub (fun _ h => List.mem_cons_of_mem _ (List.mem_append_right _ h)) (by decide +kernel))
set_option maxRecDepth 20000 in
theorem gL_pilot_X4_pilot : GoodIn wsL_pilot (wsV RL 26 RX4 yX4_pilot wsX4_pilot) := goodIn_app (goodIn_of _ (by decide +kernel)) ggL_pilot_X4_pilot
set_option maxRecDepth 20000 in
theorem ggL_call_X4_call : GoodIn wsL_call wsX4_call := goodIn_ca (goodIn_ca (goodIn_ca (goodIn_r _ [8, 9, 10, 11, 12, 13, 14, 15, 16, 7, 17, 18, 19, 20, 21, 22, 23, 24, 25, 26, 27, 28, 29, 30, 31, 32, 33, 34, 35, 36, 37, 38, 39, 40, 41, 42, 43, 44, 45, 46, 47, 48, 49, 50, 51, 52, 53, 54, 55, 56, 57, 58, 59, 60, 61, 62, 63, 64, 65, 66, 67, 68, 69, 70, 71, 72, 73, 74, 75, 76, 77, 78, 79, 80, 81, 82, 83, 84, 85, 86, 87, 88, 89, 90, 91, 92, 93, 94, 95, 96, 97, 98, 99, 100, 101, 102, 103, 104, 105, 106, 107, 108, 109, 110, 111, 112, 113, 114, 115, 116, 117, 118, 119, 120, 121, 122, 123, 124, 125, 126, 127, 128, 129, 130, 131, 132, 133, 134] (by decide +kernel) (by decide +kernel)) (goodIn_sub (fun _ h => List.mem_cons_of_mem _ (List.mem_append_left _ (List.mem_append_left _ (List.mem_append_right _ h)))) (by decide +kernel))) (goodIn_sub (fun _ h => List.mem_cons_of_mem _ (List.mem_append_left _ (List.mem_append_right _ h))) (by decide +kernel))) (goodIn_sub (fun _ h => List.mem_cons_of_mem _ (List.mem_append_right _ h)) (by decide +kernel))
set_option maxRecDepth 20000 in
theorem gL_call_X4_call : GoodIn wsL_call (wsV RL 30 RX4 yX4_call wsX4_call) := goodIn_app (goodIn_of _ (by decide +kernel)) ggL_call_X4_call
set_option maxRecDepth 20000 in
theorem ggL_join_X4_join : GoodIn wsL_join wsX4_join := goodIn_ca (goodIn_ca (goodIn_r _ [7, 8, 9, 10, 11, 12, 13, 14, 15, 16, 6, 17, 18, 19, 20, 21, 22, 23, 24, 25, 26, 27, 28, 29, 30, 31, 32, 33, 34, 35, 36, 37, 38, 39, 40, 41, 42, 43, 44, 45, 46, 47, 48, 49, 50, 51, 52, 53, 54, 55, 56, 57, 58, 59, 60, 61, 62, 63, 64, 65, 66, 67, 68, 69, 70, 71, 72, 73, 74, 75, 76, 77, 78, 79, 80, 81, 82, 83, 84, 85, 86, 87, 88, 89, 90, 91, 92, 93, 94, 95, 96, 97, 98, 99, 100, 101, 102, 103, 104, 105, 106, 107, 108, 109, 110, 111, 112, 113, 114, 115, 116, 117, 118, 119, 120, 121, 122, 123, 124, 125, 126, 127, 128, 129, 130, 131, 132, 133, 134, 135, 136, 137, 138, 139, 140, 141, 142, 143, 144, 145, 146, 147, 148, 149, 150, 151, 152, 153, 154, 155, 156, 157, 158, 159, 160, 161] (by decide +kernel) (by decide +kernel)) (goodIn_sub (fun _ h => List.mem_cons_of_mem _ (List.mem_append_left _ (List.mem_append_right _ h))) (by decide +kernel))) (goodIn_sub (fun _ h => List.mem_cons_of_mem _ (List.mem_append_right _ h)) (by decide +kernel))
set_option maxRecDepth 20000 in
theorem gL_join_X4_join : GoodIn wsL_join (wsV RL 35 RX4 yX4_join wsX4_join) := goodIn_app (goodIn_of _ (by decide +kernel)) ggL_join_X4_join
set_option maxRecDepth 20000 in
theorem ggL_again_X4_again : GoodIn wsL_again wsX4_again := goodIn_ca (goodIn_ca (goodIn_r _ [7, 8, 9, 10, 11, 12, 13, 14, 6, 15, 16, 17, 18, 19, 20, 21, 22, 23, 24, 25, 26, 27, 28, 29, 30, 31, 32, 33, 34, 35, 36, 37, 38, 39, 40, 41, 42, 43, 44, 45, 46, 47, 48, 49, 50, 51, 52, 53, 54, 55, 56, 57, 58, 59, 60, 61, 62, 63, 64, 65, 66, 67, 68, 69, 70, 71, 72, 73, 74, 75, 76, 77, 78, 79, 80, 81, 82, 83, 84, 85, 86, 87, 88, 89, 90, 91, 92, 93, 94, 95, 96, 97, 98, 99, 100, 101, 102, 103, 104, 105, 106, 107, 108, 109, 110, 111, 112, 113, 114, 115, 116, 117, 118, 119, 120, 121, 122, 123, 124, 125, 126, 127, 128, 129] (by decide +kernel) (by decide +kernel)) (goodIn_sub (fun _ h => List.mem_cons_of_mem _ (List.mem_append_left _ (List.mem_append_right _ h))) (by decide +kernel))) (goodIn_sub (fun _ h => List.mem_cons_of_mem _ (List.mem_append_right _ h)) (by decide +kernel))
set_option maxRecDepth 20000 in
theorem gL_again_X4_again : GoodIn wsL_again (wsV RL 39 RX4 yX4_again wsX4_again) := goodIn_app (goodIn_of _ (by decide +kernel)) ggL_again_X4_again
set_option maxRecDepth 20000 in
theorem ggL_drop_X4_drop : GoodIn wsL_drop wsX4_drop := goodIn_ca (goodIn_ca (goodIn_r _ [7, 8, 9, 10, 11, 12, 13, 14, 15, 6, 16, 17, 18, 19, 20, 21, 22, 23, 24, 25, 26, 27, 28, 29, 30, 31, 32, 33, 34, 35, 36, 37, 38, 39, 40, 41, 42, 43, 44, 45, 46, 47, 48, 49, 50, 51, 52, 53, 54, 55, 56, 57, 58, 59, 60, 61, 62, 63, 64, 65, 66, 67, 68, 69, 70, 71, 72, 73, 74, 75, 76, 77, 78, 79, 80, 81, 82, 83, 84, 85, 86, 87, 88, 89, 90, 91, 92, 93, 94, 95, 96, 97, 98, 99, 100, 101, 102, 103, 104, 105, 106, 107, 108, 109, 110, 111, 112, 113, 114, 115, 116, 117, 118, 119, 120, 121, 122, 123, 124, 125, 126, 127, 128, 129, 130, 131, 132, 133, 134, 135, 136, 137, 138, 139, 140, 141, 142, 143, 144, 145, 146, 147, 148, 149, 150, 151] (by decide +kernel) (by decide +kernel)) (goodIn_sub (fun _ h => List.mem_cons_of_mem _ (List.mem_append_left _ (List.mem_append_right _ h))) (by decide +kernel))) (goodIn_sub (fun _ h => List.mem_cons_of_mem _ (List.mem_append_right _ h)) (by decide +kernel))
set_option maxRecDepth 20000 in
theorem gL_drop_X4_drop : GoodIn wsL_drop (wsV RL 42 RX4 yX4_drop wsX4_drop) := goodIn_app (goodIn_of _ (by decide +kernel)) ggL_drop_X4_drop
set_option maxRecDepth 20000 in
theorem ggL_pass_X4_pass : GoodIn wsL_pass wsX4_pass := goodIn_ca (goodIn_ca (goodIn_r _ [7, 8, 9, 10, 11, 12, 13, 14, 6, 15, 16, 17, 18, 19, 20, 21, 22, 23, 24, 25, 26, 27, 28, 29, 30, 31, 32, 33, 34, 35, 36, 37, 38, 39, 40, 41, 42, 43, 44, 45, 46, 47, 48, 49, 50, 51, 52, 53, 54, 55, 56, 57, 58, 59, 60, 61, 62, 63, 64, 65, 66, 67, 68, 69, 70, 71, 72, 73, 74, 75, 76, 77, 78, 79, 80, 81, 82] (by decide +kernel) (by decide +kernel)) (goodIn_sub (fun _ h => List.mem_cons_of_mem _ (List.mem_append_left _ (List.mem_append_right _ h))) (by decide +kernel))) (goodIn_sub (fun _ h => List.mem_cons_of_mem _ (List.mem_append_right _ h)) (by decide +kernel))
set_option maxRecDepth 20000 in
theorem gL_pass_X4_pass : GoodIn wsL_pass (wsV RL 45 RX4 yX4_pass wsX4_pass) := goodIn_app (goodIn_of _ (by decide +kernel)) ggL_pass_X4_pass
set_option maxRecDepth 20000 in
theorem ggL_level_X4_level : GoodIn wsL_level wsX4_level := goodIn_ca (goodIn_r _ [6, 7, 8, 9, 5, 10, 11, 12, 13, 14, 15, 16, 17, 18, 19, 20, 21, 22, 23, 24, 25, 26, 27, 28, 29, 30, 31] (by decide +kernel) (by decide +kernel)) (goodIn_sub (fun _ h => List.mem_cons_of_mem _ (List.mem_append_right _ h)) (by decide +kernel))
set_option maxRecDepth 20000 in
theorem gL_level_X4_level : GoodIn wsL_level (wsV RL 48 RX4 yX4_level wsX4_level) := goodIn_app (goodIn_of _ (by decide +kernel)) ggL_level_X4_level
set_option maxRecDepth 20000 in
theorem ggL_window_X4_window : GoodIn wsL_window wsX4_window := goodIn_ca (goodIn_ca (goodIn_r _ [7, 8, 9, 10, 11, 12, 13, 14, 15, 6, 16, 17, 18, 19, 20, 21, 22, 23, 24, 25, 26, 27, 28, 29, 30, 31, 32, 33, 34, 35, 36, 37, 38, 39, 40, 41, 42, 43, 44, 45, 46, 47, 48, 49, 50, 51, 52, 53, 54, 55, 56, 57, 58, 59, 60, 61, 62, 63, 64, 65, 66, 67, 68, 69, 70, 71, 72, 73, 74, 75, 76, 77, 78, 79, 80, 81, 82] (by decide +kernel) (by decide +kernel)) (goodIn_sub (fun _ h => List.mem_cons_of_mem _ (List.mem_append_left _ (List.mem_append_right _ h))) (by decide +kernel))) (goodIn_sub (fun _ h => List.mem_cons_of_mem _ (List.mem_append_right _ h)) (by decide +kernel))
set_option maxRecDepth 20000 in
theorem gL_window_X4_window : GoodIn wsL_window (wsV RL 51 RX4 yX4_window wsX4_window) := goodIn_app (goodIn_of _ (by decide +kernel)) ggL_window_X4_window
set_option maxRecDepth 20000 in
theorem ggL_ofConference_X4_ofConference : GoodIn wsL_ofConference wsX4_ofConference := goodIn_ca (goodIn_r _ [6, 7, 8, 9, 10, 11, 12, 13, 14, 15, 16, 17, 5, 18, 19, 20, 21, 22, 23, 24, 25, 26, 27, 28, 29, 30, 31, 32, 33, 34, 35, 36, 37, 38, 39, 40, 41, 42, 43, 44, 45, 46, 47, 48, 49, 50, 51, 52, 53, 54, 55, 56, 57, 58, 59, 60, 61, 62, 63, 64, 65, 66, 67, 68, 69, 70, 71, 72, 73, 74, 75, 76, 77, 78, 79] (by decide +kernel) (by decide +kernel)) (goodIn_sub (fun _ h => List.mem_cons_of_mem _ (List.mem_append_right _ h)) (by decide +kernel))
set_option maxRecDepth 20000 in
theorem gL_ofConference_X4_ofConference : GoodIn wsL_ofConference (wsV RL 54 RX4 yX4_ofConference wsX4_ofConference) := goodIn_app (goodIn_of _ (by decide +kernel)) ggL_ofConference_X4_ofConference
set_option maxRecDepth 20000 in
theorem ggL_why_X4_why : GoodIn wsL_why wsX4_why := goodIn_ca (goodIn_ca (goodIn_ca (goodIn_r _ [8, 9, 10, 11, 12, 13, 14, 15, 16, 17, 7, 18, 19, 20, 21, 22, 23, 24, 25, 26, 27, 28, 29, 30, 31, 32, 33, 34, 35, 36, 37, 38, 39, 40, 41, 42, 43, 44, 45, 46, 47, 48, 49, 50, 51, 52, 53, 54, 55, 56, 57, 58, 59, 60, 61, 62, 63, 64, 65, 66, 67, 68, 69, 70, 71, 72, 73, 74, 75, 76, 77, 78, 79, 80, 81, 82, 83, 84, 85, 86, 87, 88, 89, 90, 91, 92, 93, 94, 95, 96, 97, 98, 99, 100, 101, 102, 103, 104, 105, 106, 107, 108, 109, 110, 111, 112, 113, 114, 115, 116, 117, 118, 119, 120, 121, 122, 123, 124, 125] (by decide +kernel) (by decide +kernel)) (goodIn_sub (fun _ h => List.mem_cons_of_mem _ (List.mem_append_left _ (List.mem_append_left _ (List.mem_append_right _ h)))) (by decide +kernel))) (goodIn_sub (fun _ h => List.mem_cons_of_mem _ (List.mem_append_left _ (List.mem_append_right _ h))) (by decide +kernel))) (goodIn_sub (fun _ h => List.mem_cons_of_mem _ (List.mem_append_right _ h)) (by decide +kernel))
set_option maxRecDepth 20000 in
theorem gL_why_X4_why : GoodIn wsL_why (wsV RL 57 RX4 yX4_why wsX4_why) := goodIn_app (goodIn_of _ (by decide +kernel)) ggL_why_X4_why
set_option maxRecDepth 20000 in
theorem ggL_rested_X4_rested : GoodIn wsL_rested wsX4_rested := goodIn_ca (goodIn_r _ [6, 7, 8, 9, 5, 10, 11, 12, 13, 14, 15, 16, 17, 18, 19, 20, 21, 22, 23, 24, 25, 26, 27, 28, 29, 30, 31, 32, 33, 34, 35, 36, 37, 38, 39, 40, 41, 42, 43, 44, 45, 46, 47, 48, 49, 50, 51, 52, 53, 54, 55, 56, 57, 58, 59, 60, 61, 62, 63, 64, 65, 66, 67, 68, 69, 70, 71, 72, 73, 74, 75, 76, 77, 78, 79, 80, 81] (by decide +kernel) (by decide +kernel)) (goodIn_sub (fun _ h => List.mem_cons_of_mem _ (List.mem_append_right _ h)) (by decide +kernel))
set_option maxRecDepth 20000 in
theorem gL_rested_X4_rested : GoodIn wsL_rested (wsV RL 60 RX4 yX4_rested wsX4_rested) := goodIn_app (goodIn_of _ (by decide +kernel)) ggL_rested_X4_rested
set_option maxRecDepth 20000 in
theorem ggL_restedAnew_X4_restedAnew : GoodIn wsL_restedAnew wsX4_restedAnew := goodIn_ca (goodIn_r _ [6, 7, 8, 9, 5, 10, 11, 12, 13, 14, 15, 16, 17, 18, 19, 20, 21, 22, 23, 24, 25, 26, 27, 28, 29, 30, 31, 32, 33, 34, 35, 36, 37, 38, 39, 40, 41, 42, 43, 44, 45, 46, 47, 48, 49, 50, 51, 52, 53, 54, 55, 56, 57, 58, 59, 60, 61, 62, 63, 64, 65, 66, 67, 68, 69, 70, 71, 72, 73, 74, 75, 76, 77, 78, 79, 80, 81] (by decide +kernel) (by decide +kernel)) (goodIn_sub (fun _ h => List.mem_cons_of_mem _ (List.mem_append_right _ h)) (by decide +kernel))
set_option maxRecDepth 20000 in
theorem gL_restedAnew_X4_restedAnew : GoodIn wsL_restedAnew (wsV RL 63 RX4 yX4_restedAnew wsX4_restedAnew) := goodIn_app (goodIn_of _ (by decide +kernel)) ggL_restedAnew_X4_restedAnew
set_option maxRecDepth 20000 in
theorem ggL_bill_X4_bill : GoodIn wsL_bill wsX4_bill := goodIn_ca (goodIn_r _ [6, 7, 8, 9, 10, 5, 11, 12, 13, 14, 15, 16, 17, 18, 19, 20, 21, 22, 23, 24, 25, 26, 27, 28, 29, 30, 31, 32, 33, 34, 35, 36, 37, 38, 39, 40, 41, 42, 43, 44, 45, 46, 47, 48, 49, 50, 51, 52, 53, 54] (by decide +kernel) (by decide +kernel)) (goodIn_sub (fun _ h => List.mem_cons_of_mem _ (List.mem_append_right _ h)) (by decide +kernel))
set_option maxRecDepth 20000 in
theorem gL_bill_X4_bill : GoodIn wsL_bill (wsV RL 66 RX4 yX4_bill wsX4_bill) := goodIn_app (goodIn_of _ (by decide +kernel)) ggL_bill_X4_bill
set_option maxRecDepth 20000 in
theorem ggL_ofPilot_X4_ofPilot : GoodIn wsL_ofPilot wsX4_ofPilot := goodIn_ca (goodIn_r _ [6, 7, 8, 9, 10, 11, 12, 13, 14, 5, 15, 16, 17, 18, 19, 20, 21, 22, 23, 24, 25, 26, 27, 28, 29, 30, 31, 32, 33, 34, 35, 36, 37, 38, 39, 40, 41, 42, 43, 44, 45, 46, 47, 48, 49, 50, 51, 52, 53, 54, 55, 56, 57, 58, 59, 60, 61, 62, 63, 64, 65, 66, 67, 68, 69, 70] (by decide +kernel) (by decide +kernel)) (goodIn_sub (fun _ h => List.mem_cons_of_mem _ (List.mem_append_right _ h)) (by decide +kernel))
set_option maxRecDepth 20000 in
theorem gL_ofPilot_X4_ofPilot : GoodIn wsL_ofPilot (wsV RL 69 RX4 yX4_ofPilot wsX4_ofPilot) := goodIn_app (goodIn_of _ (by decide +kernel)) ggL_ofPilot_X4_ofPilot
set_option maxRecDepth 20000 in
theorem ggL_count_X4_count : GoodIn wsL_count wsX4_count := goodIn_ca (goodIn_r _ [6, 7, 8, 9, 10, 5, 11, 12, 13, 14, 15, 16, 17, 18, 19, 20, 21, 22, 23, 24, 25, 26, 27, 28, 29, 30, 31, 32, 33, 34, 35, 36, 37, 38, 39, 40, 41, 42, 43, 44, 45, 46, 47, 48, 49, 50, 51, 52, 53, 54, 55, 56, 57, 58, 59, 60, 61, 62, 63, 64, 65, 66, 67, 68, 69, 70, 71, 72, 73, 74, 75, 76, 77, 78, 79, 80, 81] (by decide +kernel) (by decide +kernel)) (goodIn_sub (fun _ h => List.mem_cons_of_mem _ (List.mem_append_right _ h)) (by decide +kernel))
set_option maxRecDepth 20000 in
theorem gL_count_X4_count : GoodIn wsL_count (wsV RL 72 RX4 yX4_count wsX4_count) := goodIn_app (goodIn_of _ (by decide +kernel)) ggL_count_X4_count
abbrev vwCl : List vw_C := [(RJx4a65c, TJx4a65c, 3), (RX0, TX0, 7), (RX1, TX1, 5), (RX2, TX2, 6), (RX3, TX3, 2), (RX4, TX4, 7)]
