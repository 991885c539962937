theorem dX0_init_0 : decode cX0_init 0 = .ok (.aload_n 0, 1) := by decide +kernel
theorem dX0_init_1 : decode cX0_init 1 = .ok (.invokespecial 3, 3) := by decide +kernel
theorem dX0_init_4 : decode cX0_init 4 = .ok (.aload_n 0, 1) := by decide +kernel
theorem dX0_init_5 : decode cX0_init 5 = .ok (.iconst 0, 1) := by decide +kernel
theorem dX0_init_6 : decode cX0_init 6 = .ok (.putfield 9, 3) := by decide +kernel
theorem dX0_init_9 : decode cX0_init 9 = .ok (.aload_n 0, 1) := by decide +kernel
theorem dX0_init_10 : decode cX0_init 10 = .ok (.iconst (-1), 1) := by decide +kernel
theorem dX0_init_11 : decode cX0_init 11 = .ok (.putfield 15, 3) := by decide +kernel
theorem dX0_init_14 : decode cX0_init 14 = .ok (.aload_n 0, 1) := by decide +kernel
theorem dX0_init_15 : decode cX0_init 15 = .ok (.aload_n 1, 1) := by decide +kernel
theorem dX0_init_16 : decode cX0_init 16 = .ok (.putfield 18, 3) := by decide +kernel
theorem dX0_init_19 : decode cX0_init 19 = .ok (.aload_n 0, 1) := by decide +kernel
theorem dX0_init_20 : decode cX0_init 20 = .ok (.iload_n 2, 1) := by decide +kernel
theorem dX0_init_21 : decode cX0_init 21 = .ok (.putfield 22, 3) := by decide +kernel
theorem dX0_init_24 : decode cX0_init 24 = .ok (.return_, 1) := by decide +kernel
theorem dX0_hasIn_0 : decode cX0_hasIn 0 = .ok (.iload_n 1, 1) := by decide +kernel
theorem dX0_hasIn_1 : decode cX0_hasIn 1 = .ok (.lookupswitch 37 #[(0, 27), (1, 32)], 27) := by decide +kernel
theorem dX0_hasIn_28 : decode cX0_hasIn 28 = .ok (.aload_n 0, 1) := by decide +kernel
theorem dX0_hasIn_29 : decode cX0_hasIn 29 = .ok (.getfield 25, 3) := by decide +kernel
theorem dX0_hasIn_32 : decode cX0_hasIn 32 = .ok (.ireturn, 1) := by decide +kernel
theorem dX0_hasIn_33 : decode cX0_hasIn 33 = .ok (.aload_n 0, 1) := by decide +kernel
theorem dX0_hasIn_34 : decode cX0_hasIn 34 = .ok (.getfield 29, 3) := by decide +kernel
theorem dX0_hasIn_37 : decode cX0_hasIn 37 = .ok (.ireturn, 1) := by decide +kernel
theorem dX0_hasIn_38 : decode cX0_hasIn 38 = .ok (.aload_n 0, 1) := by decide +kernel
theorem dX0_hasIn_39 : decode cX0_hasIn 39 = .ok (.getfield 32, 3) := by decide +kernel
theorem dX0_hasIn_42 : decode cX0_hasIn 42 = .ok (.ifnull 7, 3) := by decide +kernel
theorem dX0_hasIn_45 : decode cX0_hasIn 45 = .ok (.iconst 1, 1) := by decide +kernel
theorem dX0_hasIn_46 : decode cX0_hasIn 46 = .ok (.goto 4, 3) := by decide +kernel
theorem dX0_hasIn_49 : decode cX0_hasIn 49 = .ok (.iconst 0, 1) := by decide +kernel
theorem dX0_hasIn_50 : decode cX0_hasIn 50 = .ok (.ireturn, 1) := by decide +kernel
theorem dX0_howManyIn_0 : decode cX0_howManyIn 0 = .ok (.aload_n 0, 1) := by decide +kernel
theorem dX0_howManyIn_1 : decode cX0_howManyIn 1 = .ok (.getfield 25, 3) := by decide +kernel
theorem dX0_howManyIn_4 : decode cX0_howManyIn 4 = .ok (.ifCond .eq 7, 3) := by decide +kernel
theorem dX0_howManyIn_7 : decode cX0_howManyIn 7 = .ok (.iconst 1, 1) := by decide +kernel
theorem dX0_howManyIn_8 : decode cX0_howManyIn 8 = .ok (.goto 4, 3) := by decide +kernel
theorem dX0_howManyIn_11 : decode cX0_howManyIn 11 = .ok (.iconst 0, 1) := by decide +kernel
theorem dX0_howManyIn_12 : decode cX0_howManyIn 12 = .ok (.aload_n 0, 1) := by decide +kernel
theorem dX0_howManyIn_13 : decode cX0_howManyIn 13 = .ok (.getfield 29, 3) := by decide +kernel
theorem dX0_howManyIn_16 : decode cX0_howManyIn 16 = .ok (.ifCond .eq 7, 3) := by decide +kernel
theorem dX0_howManyIn_19 : decode cX0_howManyIn 19 = .ok (.iconst 1, 1) := by decide +kernel
theorem dX0_howManyIn_20 : decode cX0_howManyIn 20 = .ok (.goto 4, 3) := by decide +kernel
theorem dX0_howManyIn_23 : decode cX0_howManyIn 23 = .ok (.iconst 0, 1) := by decide +kernel
theorem dX0_howManyIn_24 : decode cX0_howManyIn 24 = .ok (.iadd, 1) := by decide +kernel
theorem dX0_howManyIn_25 : decode cX0_howManyIn 25 = .ok (.aload_n 0, 1) := by decide +kernel
theorem dX0_howManyIn_26 : decode cX0_howManyIn 26 = .ok (.getfield 32, 3) := by decide +kernel
theorem dX0_howManyIn_29 : decode cX0_howManyIn 29 = .ok (.ifnull 7, 3) := by decide +kernel
theorem dX0_howManyIn_32 : decode cX0_howManyIn 32 = .ok (.iconst 1, 1) := by decide +kernel
theorem dX0_howManyIn_33 : decode cX0_howManyIn 33 = .ok (.goto 4, 3) := by decide +kernel
theorem dX0_howManyIn_36 : decode cX0_howManyIn 36 = .ok (.iconst 0, 1) := by decide +kernel
theorem dX0_howManyIn_37 : decode cX0_howManyIn 37 = .ok (.iadd, 1) := by decide +kernel
theorem dX0_howManyIn_38 : decode cX0_howManyIn 38 = .ok (.ireturn, 1) := by decide +kernel
theorem dX0_letIn_0 : decode cX0_letIn 0 = .ok (.iload_n 1, 1) := by decide +kernel
theorem dX0_letIn_1 : decode cX0_letIn 1 = .ok (.lookupswitch 43 #[(0, 27), (1, 35)], 27) := by decide +kernel
theorem dX0_letIn_28 : decode cX0_letIn 28 = .ok (.aload_n 0, 1) := by decide +kernel
theorem dX0_letIn_29 : decode cX0_letIn 29 = .ok (.iconst 1, 1) := by decide +kernel
theorem dX0_letIn_30 : decode cX0_letIn 30 = .ok (.putfield 25, 3) := by decide +kernel
theorem dX0_letIn_33 : decode cX0_letIn 33 = .ok (.goto 16, 3) := by decide +kernel
theorem dX0_letIn_36 : decode cX0_letIn 36 = .ok (.aload_n 0, 1) := by decide +kernel
theorem dX0_letIn_37 : decode cX0_letIn 37 = .ok (.iconst 1, 1) := by decide +kernel
theorem dX0_letIn_38 : decode cX0_letIn 38 = .ok (.putfield 29, 3) := by decide +kernel
theorem dX0_letIn_41 : decode cX0_letIn 41 = .ok (.goto 8, 3) := by decide +kernel
theorem dX0_letIn_44 : decode cX0_letIn 44 = .ok (.aload_n 0, 1) := by decide +kernel
theorem dX0_letIn_45 : decode cX0_letIn 45 = .ok (.aload_n 2, 1) := by decide +kernel
theorem dX0_letIn_46 : decode cX0_letIn 46 = .ok (.putfield 32, 3) := by decide +kernel
theorem dX0_letIn_49 : decode cX0_letIn 49 = .ok (.return_, 1) := by decide +kernel
theorem dX0_letOut_0 : decode cX0_letOut 0 = .ok (.iload_n 1, 1) := by decide +kernel
theorem dX0_letOut_1 : decode cX0_letOut 1 = .ok (.lookupswitch 43 #[(0, 27), (1, 35)], 27) := by decide +kernel
theorem dX0_letOut_28 : decode cX0_letOut 28 = .ok (.aload_n 0, 1) := by decide +kernel
theorem dX0_letOut_29 : decode cX0_letOut 29 = .ok (.iconst 0, 1) := by decide +kernel
theorem dX0_letOut_30 : decode cX0_letOut 30 = .ok (.putfield 25, 3) := by decide +kernel
theorem dX0_letOut_33 : decode cX0_letOut 33 = .ok (.goto 16, 3) := by decide +kernel
theorem dX0_letOut_36 : decode cX0_letOut 36 = .ok (.aload_n 0, 1) := by decide +kernel
theorem dX0_letOut_37 : decode cX0_letOut 37 = .ok (.iconst 0, 1) := by decide +kernel
theorem dX0_letOut_38 : decode cX0_letOut 38 = .ok (.putfield 29, 3) := by decide +kernel
theorem dX0_letOut_41 : decode cX0_letOut 41 = .ok (.goto 8, 3) := by decide +kernel
theorem dX0_letOut_44 : decode cX0_letOut 44 = .ok (.aload_n 0, 1) := by decide +kernel
theorem dX0_letOut_45 : decode cX0_letOut 45 = .ok (.aconst_null, 1) := by decide +kernel
theorem dX0_letOut_46 : decode cX0_letOut 46 = .ok (.putfield 32, 3) := by decide +kernel
theorem dX0_letOut_49 : decode cX0_letOut 49 = .ok (.aload_n 0, 1) := by decide +kernel
theorem dX0_letOut_50 : decode cX0_letOut 50 = .ok (.iconst 0, 1) := by decide +kernel
theorem dX0_letOut_51 : decode cX0_letOut 51 = .ok (.putfield 9, 3) := by decide +kernel
theorem dX0_letOut_54 : decode cX0_letOut 54 = .ok (.aload_n 0, 1) := by decide +kernel
theorem dX0_letOut_55 : decode cX0_letOut 55 = .ok (.iconst (-1), 1) := by decide +kernel
theorem dX0_letOut_56 : decode cX0_letOut 56 = .ok (.putfield 15, 3) := by decide +kernel
theorem dX0_letOut_59 : decode cX0_letOut 59 = .ok (.return_, 1) := by decide +kernel
theorem dX1_init_0 : decode cX1_init 0 = .ok (.aload_n 0, 1) := by decide +kernel
theorem dX1_init_1 : decode cX1_init 1 = .ok (.invokespecial 1, 3) := by decide +kernel
theorem dX1_init_4 : decode cX1_init 4 = .ok (.aload_n 0, 1) := by decide +kernel
theorem dX1_init_5 : decode cX1_init 5 = .ok (.iload_n 1, 1) := by decide +kernel
theorem dX1_init_6 : decode cX1_init 6 = .ok (.putfield 7, 3) := by decide +kernel
theorem dX1_init_9 : decode cX1_init 9 = .ok (.aload_n 0, 1) := by decide +kernel
theorem dX1_init_10 : decode cX1_init 10 = .ok (.iload_n 2, 1) := by decide +kernel
theorem dX1_init_11 : decode cX1_init 11 = .ok (.putfield 13, 3) := by decide +kernel
theorem dX1_init_14 : decode cX1_init 14 = .ok (.aload_n 0, 1) := by decide +kernel
theorem dX1_init_15 : decode cX1_init 15 = .ok (.iload_n 3, 1) := by decide +kernel
theorem dX1_init_16 : decode cX1_init 16 = .ok (.putfield 16, 3) := by decide +kernel
theorem dX1_init_19 : decode cX1_init 19 = .ok (.return_, 1) := by decide +kernel
theorem dX2_init_0 : decode cX2_init 0 = .ok (.aload_n 0, 1) := by decide +kernel
theorem dX2_init_1 : decode cX2_init 1 = .ok (.invokespecial 1, 3) := by decide +kernel
theorem dX2_init_4 : decode cX2_init 4 = .ok (.aload_n 0, 1) := by decide +kernel
theorem dX2_init_5 : decode cX2_init 5 = .ok (.iload_n 1, 1) := by decide +kernel
theorem dX2_init_6 : decode cX2_init 6 = .ok (.putfield 7, 3) := by decide +kernel
theorem dX2_init_9 : decode cX2_init 9 = .ok (.aload_n 0, 1) := by decide +kernel
theorem dX2_init_10 : decode cX2_init 10 = .ok (.iload_n 2, 1) := by decide +kernel
theorem dX2_init_11 : decode cX2_init 11 = .ok (.putfield 13, 3) := by decide +kernel
theorem dX2_init_14 : decode cX2_init 14 = .ok (.aload_n 0, 1) := by decide +kernel
theorem dX2_init_15 : decode cX2_init 15 = .ok (.iload_n 3, 1) := by decide +kernel
theorem dX2_init_16 : decode cX2_init 16 = .ok (.putfield 16, 3) := by decide +kernel
theorem dX2_init_19 : decode cX2_init 19 = .ok (.aload_n 0, 1) := by decide +kernel
theorem dX2_init_20 : decode cX2_init 20 = .ok (.iload 4, 2) := by decide +kernel
theorem dX2_init_22 : decode cX2_init 22 = .ok (.putfield 19, 3) := by decide +kernel
theorem dX2_init_25 : decode cX2_init 25 = .ok (.aload_n 0, 1) := by decide +kernel
theorem dX2_init_26 : decode cX2_init 26 = .ok (.iload 5, 2) := by decide +kernel
theorem dX2_init_28 : decode cX2_init 28 = .ok (.putfield 22, 3) := by decide +kernel
theorem dX2_init_31 : decode cX2_init 31 = .ok (.return_, 1) := by decide +kernel
theorem dX2_minutesWithRest_0 : decode cX2_minutesWithRest 0 = .ok (.aload_n 0, 1) := by decide +kernel
theorem dX2_minutesWithRest_1 : decode cX2_minutesWithRest 1 = .ok (.getfield 19, 3) := by decide +kernel
theorem dX2_minutesWithRest_4 : decode cX2_minutesWithRest 4 = .ok (.bipush 60, 2) := by decide +kernel
theorem dX2_minutesWithRest_6 : decode cX2_minutesWithRest 6 = .ok (.aload_n 0, 1) := by decide +kernel
theorem dX2_minutesWithRest_7 : decode cX2_minutesWithRest 7 = .ok (.getfield 19, 3) := by decide +kernel
theorem dX2_minutesWithRest_10 : decode cX2_minutesWithRest 10 = .ok (.invokestatic 25, 3) := by decide +kernel
theorem dX2_minutesWithRest_13 : decode cX2_minutesWithRest 13 = .ok (.iadd, 1) := by decide +kernel
theorem dX2_minutesWithRest_14 : decode cX2_minutesWithRest 14 = .ok (.ireturn, 1) := by decide +kernel
theorem dX3_init_0 : decode cX3_init 0 = .ok (.aload_n 0, 1) := by decide +kernel
theorem dX3_init_1 : decode cX3_init 1 = .ok (.invokespecial 1, 3) := by decide +kernel
theorem dX3_init_4 : decode cX3_init 4 = .ok (.aload_n 0, 1) := by decide +kernel
theorem dX3_init_5 : decode cX3_init 5 = .ok (.bipush 100, 2) := by decide +kernel
theorem dX3_init_7 : decode cX3_init 7 = .ok (.putfield 7, 3) := by decide +kernel
theorem dX3_init_10 : decode cX3_init 10 = .ok (.aload_n 0, 1) := by decide +kernel
theorem dX3_init_11 : decode cX3_init 11 = .ok (.bipush 40, 2) := by decide +kernel
theorem dX3_init_13 : decode cX3_init 13 = .ok (.putfield 13, 3) := by decide +kernel
theorem dX3_init_16 : decode cX3_init 16 = .ok (.return_, 1) := by decide +kernel
theorem dX3_aboveDepth_0 : decode cX3_aboveDepth 0 = .ok (.iload_n 1, 1) := by decide +kernel
theorem dX3_aboveDepth_1 : decode cX3_aboveDepth 1 = .ok (.sipush 720, 3) := by decide +kernel
theorem dX3_aboveDepth_4 : decode cX3_aboveDepth 4 = .ok (.irem, 1) := by decide +kernel
theorem dX3_aboveDepth_5 : decode cX3_aboveDepth 5 = .ok (.istore_n 2, 1) := by decide +kernel
theorem dX3_aboveDepth_6 : decode cX3_aboveDepth 6 = .ok (.iload_n 2, 1) := by decide +kernel
theorem dX3_aboveDepth_7 : decode cX3_aboveDepth 7 = .ok (.sipush 720, 3) := by decide +kernel
theorem dX3_aboveDepth_10 : decode cX3_aboveDepth 10 = .ok (.iload_n 2, 1) := by decide +kernel
theorem dX3_aboveDepth_11 : decode cX3_aboveDepth 11 = .ok (.isub, 1) := by decide +kernel
theorem dX3_aboveDepth_12 : decode cX3_aboveDepth 12 = .ok (.invokestatic 16, 3) := by decide +kernel
theorem dX3_aboveDepth_15 : decode cX3_aboveDepth 15 = .ok (.aload_n 0, 1) := by decide +kernel
theorem dX3_aboveDepth_16 : decode cX3_aboveDepth 16 = .ok (.getfield 13, 3) := by decide +kernel
theorem dX3_aboveDepth_19 : decode cX3_aboveDepth 19 = .ok (.imul, 1) := by decide +kernel
theorem dX3_aboveDepth_20 : decode cX3_aboveDepth 20 = .ok (.sipush 360, 3) := by decide +kernel
theorem dX3_aboveDepth_23 : decode cX3_aboveDepth 23 = .ok (.idiv, 1) := by decide +kernel
theorem dX3_aboveDepth_24 : decode cX3_aboveDepth 24 = .ok (.ireturn, 1) := by decide +kernel
theorem dX3_pastShallows_0 : decode cX3_pastShallows 0 = .ok (.aload_n 1, 1) := by decide +kernel
theorem dX3_pastShallows_1 : decode cX3_pastShallows 1 = .ok (.getfield 22, 3) := by decide +kernel
theorem dX3_pastShallows_4 : decode cX3_pastShallows 4 = .ok (.bipush 10, 2) := by decide +kernel
theorem dX3_pastShallows_6 : decode cX3_pastShallows 6 = .ok (.iadd, 1) := by decide +kernel
theorem dX3_pastShallows_7 : decode cX3_pastShallows 7 = .ok (.istore_n 3, 1) := by decide +kernel
theorem dX3_pastShallows_8 : decode cX3_pastShallows 8 = .ok (.iload_n 2, 1) := by decide +kernel
theorem dX3_pastShallows_9 : decode cX3_pastShallows 9 = .ok (.aload_n 1, 1) := by decide +kernel
theorem dX3_pastShallows_10 : decode cX3_pastShallows 10 = .ok (.getfield 27, 3) := by decide +kernel
theorem dX3_pastShallows_13 : decode cX3_pastShallows 13 = .ok (.iadd, 1) := by decide +kernel
theorem dX3_pastShallows_14 : decode cX3_pastShallows 14 = .ok (.iconst 1, 1) := by decide +kernel
theorem dX3_pastShallows_15 : decode cX3_pastShallows 15 = .ok (.isub, 1) := by decide +kernel
theorem dX3_pastShallows_16 : decode cX3_pastShallows 16 = .ok (.istore 4, 2) := by decide +kernel
theorem dX3_pastShallows_18 : decode cX3_pastShallows 18 = .ok (.iload 4, 2) := by decide +kernel
theorem dX3_pastShallows_20 : decode cX3_pastShallows 20 = .ok (.iload_n 2, 1) := by decide +kernel
theorem dX3_pastShallows_21 : decode cX3_pastShallows 21 = .ok (.if_icmp .lt 29, 3) := by decide +kernel
theorem dX3_pastShallows_24 : decode cX3_pastShallows 24 = .ok (.aload_n 0, 1) := by decide +kernel
theorem dX3_pastShallows_25 : decode cX3_pastShallows 25 = .ok (.getfield 7, 3) := by decide +kernel
theorem dX3_pastShallows_28 : decode cX3_pastShallows 28 = .ok (.aload_n 0, 1) := by decide +kernel
theorem dX3_pastShallows_29 : decode cX3_pastShallows 29 = .ok (.iload 4, 2) := by decide +kernel
theorem dX3_pastShallows_31 : decode cX3_pastShallows 31 = .ok (.invokevirtual 30, 3) := by decide +kernel
theorem dX3_pastShallows_34 : decode cX3_pastShallows 34 = .ok (.iadd, 1) := by decide +kernel
theorem dX3_pastShallows_35 : decode cX3_pastShallows 35 = .ok (.iload_n 3, 1) := by decide +kernel
theorem dX3_pastShallows_36 : decode cX3_pastShallows 36 = .ok (.if_icmp .ge 8, 3) := by decide +kernel
theorem dX3_pastShallows_39 : decode cX3_pastShallows 39 = .ok (.iload 4, 2) := by decide +kernel
theorem dX3_pastShallows_41 : decode cX3_pastShallows 41 = .ok (.iconst 1, 1) := by decide +kernel
theorem dX3_pastShallows_42 : decode cX3_pastShallows 42 = .ok (.iadd, 1) := by decide +kernel
theorem dX3_pastShallows_43 : decode cX3_pastShallows 43 = .ok (.ireturn, 1) := by decide +kernel
theorem dX3_pastShallows_44 : decode cX3_pastShallows 44 = .ok (.iinc 4 (-1), 3) := by decide +kernel
theorem dX3_pastShallows_47 : decode cX3_pastShallows 47 = .ok (.goto (-29), 3) := by decide +kernel
theorem dX3_pastShallows_50 : decode cX3_pastShallows 50 = .ok (.iload_n 2, 1) := by decide +kernel
theorem dX3_pastShallows_51 : decode cX3_pastShallows 51 = .ok (.ireturn, 1) := by decide +kernel
theorem dX4_init_0 : decode cX4_init 0 = .ok (.aload_n 0, 1) := by decide +kernel
theorem dX4_init_1 : decode cX4_init 1 = .ok (.invokespecial 1, 3) := by decide +kernel
theorem dX4_init_4 : decode cX4_init 4 = .ok (.aload_n 0, 1) := by decide +kernel
theorem dX4_init_5 : decode cX4_init 5 = .ok (.new 7, 3) := by decide +kernel
theorem dX4_init_8 : decode cX4_init 8 = .ok (.dup, 1) := by decide +kernel
theorem dX4_init_9 : decode cX4_init 9 = .ok (.invokespecial 9, 3) := by decide +kernel
theorem dX4_init_12 : decode cX4_init 12 = .ok (.putfield 10, 3) := by decide +kernel
theorem dX4_init_15 : decode cX4_init 15 = .ok (.aload_n 0, 1) := by decide +kernel
theorem dX4_init_16 : decode cX4_init 16 = .ok (.new 16, 3) := by decide +kernel
theorem dX4_init_19 : decode cX4_init 19 = .ok (.dup, 1) := by decide +kernel
theorem dX4_init_20 : decode cX4_init 20 = .ok (.invokespecial 18, 3) := by decide +kernel
theorem dX4_init_23 : decode cX4_init 23 = .ok (.putfield 19, 3) := by decide +kernel
theorem dX4_init_26 : decode cX4_init 26 = .ok (.aload_n 0, 1) := by decide +kernel
theorem dX4_init_27 : decode cX4_init 27 = .ok (.new 16, 3) := by decide +kernel
theorem dX4_init_30 : decode cX4_init 30 = .ok (.dup, 1) := by decide +kernel
theorem dX4_init_31 : decode cX4_init 31 = .ok (.invokespecial 18, 3) := by decide +kernel
theorem dX4_init_34 : decode cX4_init 34 = .ok (.putfield 23, 3) := by decide +kernel
theorem dX4_init_37 : decode cX4_init 37 = .ok (.aload_n 0, 1) := by decide +kernel
theorem dX4_init_38 : decode cX4_init 38 = .ok (.new 16, 3) := by decide +kernel
theorem dX4_init_41 : decode cX4_init 41 = .ok (.dup, 1) := by decide +kernel
theorem dX4_init_42 : decode cX4_init 42 = .ok (.invokespecial 18, 3) := by decide +kernel
theorem dX4_init_45 : decode cX4_init 45 = .ok (.putfield 26, 3) := by decide +kernel
theorem dX4_init_48 : decode cX4_init 48 = .ok (.aload_n 0, 1) := by decide +kernel
theorem dX4_init_49 : decode cX4_init 49 = .ok (.iconst 2, 1) := by decide +kernel
theorem dX4_init_50 : decode cX4_init 50 = .ok (.putfield 29, 3) := by decide +kernel
theorem dX4_init_53 : decode cX4_init 53 = .ok (.return_, 1) := by decide +kernel
theorem dX4_tide_0 : decode cX4_tide 0 = .ok (.iload_n 1, 1) := by decide +kernel
theorem dX4_tide_1 : decode cX4_tide 1 = .ok (.bipush 10, 2) := by decide +kernel
theorem dX4_tide_3 : decode cX4_tide 3 = .ok (.sipush 300, 3) := by decide +kernel
theorem dX4_tide_6 : decode cX4_tide 6 = .ok (.invokestatic 33, 3) := by decide +kernel
theorem dX4_tide_9 : decode cX4_tide 9 = .ok (.iload_n 2, 1) := by decide +kernel
theorem dX4_tide_10 : decode cX4_tide 10 = .ok (.iconst 0, 1) := by decide +kernel
theorem dX4_tide_11 : decode cX4_tide 11 = .ok (.sipush 200, 3) := by decide +kernel
theorem dX4_tide_14 : decode cX4_tide 14 = .ok (.invokestatic 33, 3) := by decide +kernel
theorem dX4_tide_17 : decode cX4_tide 17 = .ok (.aload_n 0, 1) := by decide +kernel
theorem dX4_tide_18 : decode cX4_tide 18 = .ok (.getfield 10, 3) := by decide +kernel
theorem dX4_tide_21 : decode cX4_tide 21 = .ok (.iload_n 1, 1) := by decide +kernel
theorem dX4_tide_22 : decode cX4_tide 22 = .ok (.putfield 37, 3) := by decide +kernel
theorem dX4_tide_25 : decode cX4_tide 25 = .ok (.aload_n 0, 1) := by decide +kernel
theorem dX4_tide_26 : decode cX4_tide 26 = .ok (.getfield 10, 3) := by decide +kernel
theorem dX4_tide_29 : decode cX4_tide 29 = .ok (.iload_n 2, 1) := by decide +kernel
theorem dX4_tide_30 : decode cX4_tide 30 = .ok (.putfield 40, 3) := by decide +kernel
theorem dX4_tide_33 : decode cX4_tide 33 = .ok (.return_, 1) := by decide +kernel
theorem dX4_tugs_0 : decode cX4_tugs 0 = .ok (.iload_n 1, 1) := by decide +kernel
theorem dX4_tugs_1 : decode cX4_tugs 1 = .ok (.iconst 0, 1) := by decide +kernel
theorem dX4_tugs_2 : decode cX4_tugs 2 = .ok (.bipush 6, 2) := by decide +kernel
theorem dX4_tugs_4 : decode cX4_tugs 4 = .ok (.invokestatic 33, 3) := by decide +kernel
theorem dX4_tugs_7 : decode cX4_tugs 7 = .ok (.aload_n 0, 1) := by decide +kernel
theorem dX4_tugs_8 : decode cX4_tugs 8 = .ok (.getfield 29, 3) := by decide +kernel
theorem dX4_tugs_11 : decode cX4_tugs 11 = .ok (.istore_n 2, 1) := by decide +kernel
theorem dX4_tugs_12 : decode cX4_tugs 12 = .ok (.aload_n 0, 1) := by decide +kernel
theorem dX4_tugs_13 : decode cX4_tugs 13 = .ok (.iload_n 1, 1) := by decide +kernel
theorem dX4_tugs_14 : decode cX4_tugs 14 = .ok (.putfield 29, 3) := by decide +kernel
theorem dX4_tugs_17 : decode cX4_tugs 17 = .ok (.iload_n 2, 1) := by decide +kernel
theorem dX4_tugs_18 : decode cX4_tugs 18 = .ok (.ireturn, 1) := by decide +kernel
theorem dX4_ship_0 : decode cX4_ship 0 = .ok (.iload_n 1, 1) := by decide +kernel
theorem dX4_ship_1 : decode cX4_ship 1 = .ok (.iconst 1, 1) := by decide +kernel
theorem dX4_ship_2 : decode cX4_ship 2 = .ok (.sipush 400, 3) := by decide +kernel
theorem dX4_ship_5 : decode cX4_ship 5 = .ok (.invokestatic 33, 3) := by decide +kernel
theorem dX4_ship_8 : decode cX4_ship 8 = .ok (.iload_n 2, 1) := by decide +kernel
theorem dX4_ship_9 : decode cX4_ship 9 = .ok (.iconst 1, 1) := by decide +kernel
theorem dX4_ship_10 : decode cX4_ship 10 = .ok (.sipush 9999, 3) := by decide +kernel
theorem dX4_ship_13 : decode cX4_ship 13 = .ok (.invokestatic 33, 3) := by decide +kernel
theorem dX4_ship_16 : decode cX4_ship 16 = .ok (.iload_n 3, 1) := by decide +kernel
theorem dX4_ship_17 : decode cX4_ship 17 = .ok (.bipush 10, 2) := by decide +kernel
theorem dX4_ship_19 : decode cX4_ship 19 = .ok (.bipush 120, 2) := by decide +kernel
theorem dX4_ship_21 : decode cX4_ship 21 = .ok (.invokestatic 33, 3) := by decide +kernel
theorem dX4_ship_24 : decode cX4_ship 24 = .ok (.iload 4, 2) := by decide +kernel
theorem dX4_ship_26 : decode cX4_ship 26 = .ok (.iconst 0, 1) := by decide +kernel
theorem dX4_ship_27 : decode cX4_ship 27 = .ok (.iconst 3, 1) := by decide +kernel
theorem dX4_ship_28 : decode cX4_ship 28 = .ok (.invokestatic 33, 3) := by decide +kernel
theorem dX4_ship_31 : decode cX4_ship 31 = .ok (.aload_n 0, 1) := by decide +kernel
theorem dX4_ship_32 : decode cX4_ship 32 = .ok (.getfield 19, 3) := by decide +kernel
theorem dX4_ship_35 : decode cX4_ship 35 = .ok (.invokevirtual 43, 3) := by decide +kernel
theorem dX4_ship_38 : decode cX4_ship 38 = .ok (.istore 5, 2) := by decide +kernel
theorem dX4_ship_40 : decode cX4_ship 40 = .ok (.iload 5, 2) := by decide +kernel
theorem dX4_ship_42 : decode cX4_ship 42 = .ok (.bipush 12, 2) := by decide +kernel
theorem dX4_ship_44 : decode cX4_ship 44 = .ok (.invokestatic 47, 3) := by decide +kernel
theorem dX4_ship_47 : decode cX4_ship 47 = .ok (.aload_n 0, 1) := by decide +kernel
theorem dX4_ship_48 : decode cX4_ship 48 = .ok (.getfield 19, 3) := by decide +kernel
theorem dX4_ship_51 : decode cX4_ship 51 = .ok (.new 51, 3) := by decide +kernel
theorem dX4_ship_54 : decode cX4_ship 54 = .ok (.dup, 1) := by decide +kernel
theorem dX4_ship_55 : decode cX4_ship 55 = .ok (.iload 5, 2) := by decide +kernel
theorem dX4_ship_57 : decode cX4_ship 57 = .ok (.iload_n 1, 1) := by decide +kernel
theorem dX4_ship_58 : decode cX4_ship 58 = .ok (.iload_n 2, 1) := by decide +kernel
theorem dX4_ship_59 : decode cX4_ship 59 = .ok (.iload_n 3, 1) := by decide +kernel
theorem dX4_ship_60 : decode cX4_ship 60 = .ok (.iload 4, 2) := by decide +kernel
theorem dX4_ship_62 : decode cX4_ship 62 = .ok (.invokespecial 53, 3) := by decide +kernel
theorem dX4_ship_65 : decode cX4_ship 65 = .ok (.invokevirtual 56, 3) := by decide +kernel
theorem dX4_ship_68 : decode cX4_ship 68 = .ok (.pop, 1) := by decide +kernel
theorem dX4_ship_69 : decode cX4_ship 69 = .ok (.iload 5, 2) := by decide +kernel
theorem dX4_ship_71 : decode cX4_ship 71 = .ok (.ireturn, 1) := by decide +kernel
theorem dX4_pilot_0 : decode cX4_pilot 0 = .ok (.iload_n 1, 1) := by decide +kernel
theorem dX4_pilot_1 : decode cX4_pilot 1 = .ok (.iconst 1, 1) := by decide +kernel
theorem dX4_pilot_2 : decode cX4_pilot 2 = .ok (.sipush 9999, 3) := by decide +kernel
theorem dX4_pilot_5 : decode cX4_pilot 5 = .ok (.invokestatic 33, 3) := by decide +kernel
theorem dX4_pilot_8 : decode cX4_pilot 8 = .ok (.iload_n 2, 1) := by decide +kernel
theorem dX4_pilot_9 : decode cX4_pilot 9 = .ok (.iconst 1, 1) := by decide +kernel
theorem dX4_pilot_10 : decode cX4_pilot 10 = .ok (.bipush 50, 2) := by decide +kernel
theorem dX4_pilot_12 : decode cX4_pilot 12 = .ok (.invokestatic 33, 3) := by decide +kernel
theorem dX4_pilot_15 : decode cX4_pilot 15 = .ok (.aload_n 0, 1) := by decide +kernel
theorem dX4_pilot_16 : decode cX4_pilot 16 = .ok (.getfield 23, 3) := by decide +kernel
theorem dX4_pilot_19 : decode cX4_pilot 19 = .ok (.invokevirtual 43, 3) := by decide +kernel
theorem dX4_pilot_22 : decode cX4_pilot 22 = .ok (.istore_n 3, 1) := by decide +kernel
theorem dX4_pilot_23 : decode cX4_pilot 23 = .ok (.iload_n 3, 1) := by decide +kernel
theorem dX4_pilot_24 : decode cX4_pilot 24 = .ok (.bipush 8, 2) := by decide +kernel
theorem dX4_pilot_26 : decode cX4_pilot 26 = .ok (.invokestatic 47, 3) := by decide +kernel
theorem dX4_pilot_29 : decode cX4_pilot 29 = .ok (.aload_n 0, 1) := by decide +kernel
theorem dX4_pilot_30 : decode cX4_pilot 30 = .ok (.getfield 23, 3) := by decide +kernel
theorem dX4_pilot_33 : decode cX4_pilot 33 = .ok (.new 60, 3) := by decide +kernel
theorem dX4_pilot_36 : decode cX4_pilot 36 = .ok (.dup, 1) := by decide +kernel
theorem dX4_pilot_37 : decode cX4_pilot 37 = .ok (.iload_n 3, 1) := by decide +kernel
theorem dX4_pilot_38 : decode cX4_pilot 38 = .ok (.iload_n 1, 1) := by decide +kernel
theorem dX4_pilot_39 : decode cX4_pilot 39 = .ok (.iload_n 2, 1) := by decide +kernel
theorem dX4_pilot_40 : decode cX4_pilot 40 = .ok (.invokespecial 62, 3) := by decide +kernel
theorem dX4_pilot_43 : decode cX4_pilot 43 = .ok (.invokevirtual 56, 3) := by decide +kernel
theorem dX4_pilot_46 : decode cX4_pilot 46 = .ok (.pop, 1) := by decide +kernel
theorem dX4_pilot_47 : decode cX4_pilot 47 = .ok (.iload_n 3, 1) := by decide +kernel
theorem dX4_pilot_48 : decode cX4_pilot 48 = .ok (.ireturn, 1) := by decide +kernel
theorem dX4_call_0 : decode cX4_call 0 = .ok (.aload_n 0, 1) := by decide +kernel
theorem dX4_call_1 : decode cX4_call 1 = .ok (.iload_n 1, 1) := by decide +kernel
theorem dX4_call_2 : decode cX4_call 2 = .ok (.invokevirtual 64, 3) := by decide +kernel
theorem dX4_call_5 : decode cX4_call 5 = .ok (.astore_n 3, 1) := by decide +kernel
theorem dX4_call_6 : decode cX4_call 6 = .ok (.iload_n 2, 1) := by decide +kernel
theorem dX4_call_7 : decode cX4_call 7 = .ok (.aload_n 0, 1) := by decide +kernel
theorem dX4_call_8 : decode cX4_call 8 = .ok (.getfield 68, 3) := by decide +kernel
theorem dX4_call_11 : decode cX4_call 11 = .ok (.sipush 20000, 3) := by decide +kernel
theorem dX4_call_14 : decode cX4_call 14 = .ok (.invokestatic 33, 3) := by decide +kernel
theorem dX4_call_17 : decode cX4_call 17 = .ok (.aload_n 0, 1) := by decide +kernel
theorem dX4_call_18 : decode cX4_call 18 = .ok (.getfield 26, 3) := by decide +kernel
theorem dX4_call_21 : decode cX4_call 21 = .ok (.invokevirtual 43, 3) := by decide +kernel
theorem dX4_call_24 : decode cX4_call 24 = .ok (.istore 4, 2) := by decide +kernel
theorem dX4_call_26 : decode cX4_call 26 = .ok (.iload 4, 2) := by decide +kernel
theorem dX4_call_28 : decode cX4_call 28 = .ok (.bipush 40, 2) := by decide +kernel
theorem dX4_call_30 : decode cX4_call 30 = .ok (.invokestatic 47, 3) := by decide +kernel
theorem dX4_call_33 : decode cX4_call 33 = .ok (.aload_n 0, 1) := by decide +kernel
theorem dX4_call_34 : decode cX4_call 34 = .ok (.getfield 26, 3) := by decide +kernel
theorem dX4_call_37 : decode cX4_call 37 = .ok (.new 71, 3) := by decide +kernel
theorem dX4_call_40 : decode cX4_call 40 = .ok (.dup, 1) := by decide +kernel
theorem dX4_call_41 : decode cX4_call 41 = .ok (.aload_n 3, 1) := by decide +kernel
theorem dX4_call_42 : decode cX4_call 42 = .ok (.iload_n 2, 1) := by decide +kernel
theorem dX4_call_43 : decode cX4_call 43 = .ok (.invokespecial 73, 3) := by decide +kernel
theorem dX4_call_46 : decode cX4_call 46 = .ok (.invokevirtual 56, 3) := by decide +kernel
theorem dX4_call_49 : decode cX4_call 49 = .ok (.pop, 1) := by decide +kernel
theorem dX4_call_50 : decode cX4_call 50 = .ok (.iload 4, 2) := by decide +kernel
theorem dX4_call_52 : decode cX4_call 52 = .ok (.ireturn, 1) := by decide +kernel
theorem dX4_join_0 : decode cX4_join 0 = .ok (.aload_n 0, 1) := by decide +kernel
theorem dX4_join_1 : decode cX4_join 1 = .ok (.iload_n 1, 1) := by decide +kernel
theorem dX4_join_2 : decode cX4_join 2 = .ok (.invokevirtual 76, 3) := by decide +kernel
theorem dX4_join_5 : decode cX4_join 5 = .ok (.astore 4, 2) := by decide +kernel
theorem dX4_join_7 : decode cX4_join 7 = .ok (.iload_n 2, 1) := by decide +kernel
theorem dX4_join_8 : decode cX4_join 8 = .ok (.invokestatic 80, 3) := by decide +kernel
theorem dX4_join_11 : decode cX4_join 11 = .ok (.iload_n 2, 1) := by decide +kernel
theorem dX4_join_12 : decode cX4_join 12 = .ok (.iconst 2, 1) := by decide +kernel
theorem dX4_join_13 : decode cX4_join 13 = .ok (.if_icmp .ne 11, 3) := by decide +kernel
theorem dX4_join_16 : decode cX4_join 16 = .ok (.aload_n 0, 1) := by decide +kernel
theorem dX4_join_17 : decode cX4_join 17 = .ok (.iload_n 3, 1) := by decide +kernel
theorem dX4_join_18 : decode cX4_join 18 = .ok (.invokevirtual 84, 3) := by decide +kernel
theorem dX4_join_21 : decode cX4_join 21 = .ok (.goto 4, 3) := by decide +kernel
theorem dX4_join_24 : decode cX4_join 24 = .ok (.aconst_null, 1) := by decide +kernel
theorem dX4_join_25 : decode cX4_join 25 = .ok (.astore 5, 2) := by decide +kernel
theorem dX4_join_27 : decode cX4_join 27 = .ok (.aload 4, 2) := by decide +kernel
theorem dX4_join_29 : decode cX4_join 29 = .ok (.iload_n 2, 1) := by decide +kernel
theorem dX4_join_30 : decode cX4_join 30 = .ok (.invokevirtual 88, 3) := by decide +kernel
theorem dX4_join_33 : decode cX4_join 33 = .ok (.ifCond .eq 13, 3) := by decide +kernel
theorem dX4_join_36 : decode cX4_join 36 = .ok (.new 92, 3) := by decide +kernel
theorem dX4_join_39 : decode cX4_join 39 = .ok (.dup, 1) := by decide +kernel
theorem dX4_join_40 : decode cX4_join 40 = .ok (.ldc 94, 2) := by decide +kernel
theorem dX4_join_42 : decode cX4_join 42 = .ok (.invokespecial 96, 3) := by decide +kernel
theorem dX4_join_45 : decode cX4_join 45 = .ok (.athrow, 1) := by decide +kernel
theorem dX4_join_46 : decode cX4_join 46 = .ok (.aload 5, 2) := by decide +kernel
theorem dX4_join_48 : decode cX4_join 48 = .ok (.ifnull 29, 3) := by decide +kernel
theorem dX4_join_51 : decode cX4_join 51 = .ok (.aload 5, 2) := by decide +kernel
theorem dX4_join_53 : decode cX4_join 53 = .ok (.getfield 99, 3) := by decide +kernel
theorem dX4_join_56 : decode cX4_join 56 = .ok (.aload 4, 2) := by decide +kernel
theorem dX4_join_58 : decode cX4_join 58 = .ok (.getfield 102, 3) := by decide +kernel
theorem dX4_join_61 : decode cX4_join 61 = .ok (.getfield 106, 3) := by decide +kernel
theorem dX4_join_64 : decode cX4_join 64 = .ok (.if_icmp .ge 13, 3) := by decide +kernel
theorem dX4_join_67 : decode cX4_join 67 = .ok (.new 92, 3) := by decide +kernel
theorem dX4_join_70 : decode cX4_join 70 = .ok (.dup, 1) := by decide +kernel
theorem dX4_join_71 : decode cX4_join 71 = .ok (.ldc 109, 2) := by decide +kernel
theorem dX4_join_73 : decode cX4_join 73 = .ok (.invokespecial 96, 3) := by decide +kernel
theorem dX4_join_76 : decode cX4_join 76 = .ok (.athrow, 1) := by decide +kernel
theorem dX4_join_77 : decode cX4_join 77 = .ok (.aload 4, 2) := by decide +kernel
theorem dX4_join_79 : decode cX4_join 79 = .ok (.iload_n 2, 1) := by decide +kernel
theorem dX4_join_80 : decode cX4_join 80 = .ok (.aload 5, 2) := by decide +kernel
theorem dX4_join_82 : decode cX4_join 82 = .ok (.invokevirtual 111, 3) := by decide +kernel
theorem dX4_join_85 : decode cX4_join 85 = .ok (.aload 4, 2) := by decide +kernel
theorem dX4_join_87 : decode cX4_join 87 = .ok (.invokevirtual 115, 3) := by decide +kernel
theorem dX4_join_90 : decode cX4_join 90 = .ok (.iconst 3, 1) := by decide +kernel
theorem dX4_join_91 : decode cX4_join 91 = .ok (.if_icmp .ne 9, 3) := by decide +kernel
theorem dX4_join_94 : decode cX4_join 94 = .ok (.aload_n 0, 1) := by decide +kernel
theorem dX4_join_95 : decode cX4_join 95 = .ok (.aload 4, 2) := by decide +kernel
theorem dX4_join_97 : decode cX4_join 97 = .ok (.invokevirtual 118, 3) := by decide +kernel
theorem dX4_join_100 : decode cX4_join 100 = .ok (.aload 4, 2) := by decide +kernel
theorem dX4_join_102 : decode cX4_join 102 = .ok (.getfield 122, 3) := by decide +kernel
theorem dX4_join_105 : decode cX4_join 105 = .ok (.ireturn, 1) := by decide +kernel
theorem dX4_again_0 : decode cX4_again 0 = .ok (.aload_n 0, 1) := by decide +kernel
theorem dX4_again_1 : decode cX4_again 1 = .ok (.iload_n 1, 1) := by decide +kernel
theorem dX4_again_2 : decode cX4_again 2 = .ok (.invokevirtual 76, 3) := by decide +kernel
theorem dX4_again_5 : decode cX4_again 5 = .ok (.astore_n 2, 1) := by decide +kernel
theorem dX4_again_6 : decode cX4_again 6 = .ok (.aload_n 2, 1) := by decide +kernel
theorem dX4_again_7 : decode cX4_again 7 = .ok (.getfield 125, 3) := by decide +kernel
theorem dX4_again_10 : decode cX4_again 10 = .ok (.iconst 1, 1) := by decide +kernel
theorem dX4_again_11 : decode cX4_again 11 = .ok (.if_icmp .eq 13, 3) := by decide +kernel
theorem dX4_again_14 : decode cX4_again 14 = .ok (.new 92, 3) := by decide +kernel
theorem dX4_again_17 : decode cX4_again 17 = .ok (.dup, 1) := by decide +kernel
theorem dX4_again_18 : decode cX4_again 18 = .ok (.ldc 128, 2) := by decide +kernel
theorem dX4_again_20 : decode cX4_again 20 = .ok (.invokespecial 96, 3) := by decide +kernel
theorem dX4_again_23 : decode cX4_again 23 = .ok (.athrow, 1) := by decide +kernel
theorem dX4_again_24 : decode cX4_again 24 = .ok (.aload_n 0, 1) := by decide +kernel
theorem dX4_again_25 : decode cX4_again 25 = .ok (.aload_n 2, 1) := by decide +kernel
theorem dX4_again_26 : decode cX4_again 26 = .ok (.invokevirtual 118, 3) := by decide +kernel
theorem dX4_again_29 : decode cX4_again 29 = .ok (.aload_n 2, 1) := by decide +kernel
theorem dX4_again_30 : decode cX4_again 30 = .ok (.getfield 122, 3) := by decide +kernel
theorem dX4_again_33 : decode cX4_again 33 = .ok (.ireturn, 1) := by decide +kernel
theorem dX4_drop_0 : decode cX4_drop 0 = .ok (.aload_n 0, 1) := by decide +kernel
theorem dX4_drop_1 : decode cX4_drop 1 = .ok (.iload_n 1, 1) := by decide +kernel
theorem dX4_drop_2 : decode cX4_drop 2 = .ok (.invokevirtual 76, 3) := by decide +kernel
theorem dX4_drop_5 : decode cX4_drop 5 = .ok (.astore_n 3, 1) := by decide +kernel
theorem dX4_drop_6 : decode cX4_drop 6 = .ok (.iload_n 2, 1) := by decide +kernel
theorem dX4_drop_7 : decode cX4_drop 7 = .ok (.invokestatic 80, 3) := by decide +kernel
theorem dX4_drop_10 : decode cX4_drop 10 = .ok (.aload_n 3, 1) := by decide +kernel
theorem dX4_drop_11 : decode cX4_drop 11 = .ok (.iload_n 2, 1) := by decide +kernel
theorem dX4_drop_12 : decode cX4_drop 12 = .ok (.invokevirtual 88, 3) := by decide +kernel
theorem dX4_drop_15 : decode cX4_drop 15 = .ok (.ifCond .ne 13, 3) := by decide +kernel
theorem dX4_drop_18 : decode cX4_drop 18 = .ok (.new 92, 3) := by decide +kernel
theorem dX4_drop_21 : decode cX4_drop 21 = .ok (.dup, 1) := by decide +kernel
theorem dX4_drop_22 : decode cX4_drop 22 = .ok (.ldc 130, 2) := by decide +kernel
theorem dX4_drop_24 : decode cX4_drop 24 = .ok (.invokespecial 96, 3) := by decide +kernel
theorem dX4_drop_27 : decode cX4_drop 27 = .ok (.athrow, 1) := by decide +kernel
theorem dX4_drop_28 : decode cX4_drop 28 = .ok (.aload_n 3, 1) := by decide +kernel
theorem dX4_drop_29 : decode cX4_drop 29 = .ok (.getfield 125, 3) := by decide +kernel
theorem dX4_drop_32 : decode cX4_drop 32 = .ok (.iconst 3, 1) := by decide +kernel
theorem dX4_drop_33 : decode cX4_drop 33 = .ok (.if_icmp .eq 11, 3) := by decide +kernel
theorem dX4_drop_36 : decode cX4_drop 36 = .ok (.aload_n 3, 1) := by decide +kernel
theorem dX4_drop_37 : decode cX4_drop 37 = .ok (.getfield 125, 3) := by decide +kernel
theorem dX4_drop_40 : decode cX4_drop 40 = .ok (.iconst 4, 1) := by decide +kernel
theorem dX4_drop_41 : decode cX4_drop 41 = .ok (.if_icmp .ne 13, 3) := by decide +kernel
theorem dX4_drop_44 : decode cX4_drop 44 = .ok (.new 92, 3) := by decide +kernel
theorem dX4_drop_47 : decode cX4_drop 47 = .ok (.dup, 1) := by decide +kernel
theorem dX4_drop_48 : decode cX4_drop 48 = .ok (.ldc 132, 2) := by decide +kernel
theorem dX4_drop_50 : decode cX4_drop 50 = .ok (.invokespecial 96, 3) := by decide +kernel
theorem dX4_drop_53 : decode cX4_drop 53 = .ok (.athrow, 1) := by decide +kernel
theorem dX4_drop_54 : decode cX4_drop 54 = .ok (.aload_n 3, 1) := by decide +kernel
theorem dX4_drop_55 : decode cX4_drop 55 = .ok (.getfield 122, 3) := by decide +kernel
theorem dX4_drop_58 : decode cX4_drop 58 = .ok (.iconst (-1), 1) := by decide +kernel
theorem dX4_drop_59 : decode cX4_drop 59 = .ok (.if_icmp .eq 7, 3) := by decide +kernel
theorem dX4_drop_62 : decode cX4_drop 62 = .ok (.iconst 1, 1) := by decide +kernel
theorem dX4_drop_63 : decode cX4_drop 63 = .ok (.goto 4, 3) := by decide +kernel
theorem dX4_drop_66 : decode cX4_drop 66 = .ok (.iconst 0, 1) := by decide +kernel
theorem dX4_drop_67 : decode cX4_drop 67 = .ok (.istore 4, 2) := by decide +kernel
theorem dX4_drop_69 : decode cX4_drop 69 = .ok (.aload_n 3, 1) := by decide +kernel
theorem dX4_drop_70 : decode cX4_drop 70 = .ok (.iload_n 2, 1) := by decide +kernel
theorem dX4_drop_71 : decode cX4_drop 71 = .ok (.invokevirtual 134, 3) := by decide +kernel
theorem dX4_drop_74 : decode cX4_drop 74 = .ok (.iload 4, 2) := by decide +kernel
theorem dX4_drop_76 : decode cX4_drop 76 = .ok (.ifCond .eq 10, 3) := by decide +kernel
theorem dX4_drop_79 : decode cX4_drop 79 = .ok (.aload_n 0, 1) := by decide +kernel
theorem dX4_drop_80 : decode cX4_drop 80 = .ok (.invokevirtual 137, 3) := by decide +kernel
theorem dX4_drop_83 : decode cX4_drop 83 = .ok (.goto 4, 3) := by decide +kernel
theorem dX4_drop_86 : decode cX4_drop 86 = .ok (.iconst 0, 1) := by decide +kernel
theorem dX4_drop_87 : decode cX4_drop 87 = .ok (.istore 5, 2) := by decide +kernel
theorem dX4_drop_89 : decode cX4_drop 89 = .ok (.aload_n 0, 1) := by decide +kernel
theorem dX4_drop_90 : decode cX4_drop 90 = .ok (.dup, 1) := by decide +kernel
theorem dX4_drop_91 : decode cX4_drop 91 = .ok (.getfield 140, 3) := by decide +kernel
theorem dX4_drop_94 : decode cX4_drop 94 = .ok (.iload 5, 2) := by decide +kernel
theorem dX4_drop_96 : decode cX4_drop 96 = .ok (.iadd, 1) := by decide +kernel
theorem dX4_drop_97 : decode cX4_drop 97 = .ok (.putfield 140, 3) := by decide +kernel
theorem dX4_drop_100 : decode cX4_drop 100 = .ok (.iload 5, 2) := by decide +kernel
theorem dX4_drop_102 : decode cX4_drop 102 = .ok (.ireturn, 1) := by decide +kernel
theorem dX4_pass_0 : decode cX4_pass 0 = .ok (.iload_n 1, 1) := by decide +kernel
theorem dX4_pass_1 : decode cX4_pass 1 = .ok (.iconst 1, 1) := by decide +kernel
theorem dX4_pass_2 : decode cX4_pass 2 = .ok (.sipush 2000, 3) := by decide +kernel
theorem dX4_pass_5 : decode cX4_pass 5 = .ok (.invokestatic 33, 3) := by decide +kernel
theorem dX4_pass_8 : decode cX4_pass 8 = .ok (.aload_n 0, 1) := by decide +kernel
theorem dX4_pass_9 : decode cX4_pass 9 = .ok (.getfield 68, 3) := by decide +kernel
theorem dX4_pass_12 : decode cX4_pass 12 = .ok (.iload_n 1, 1) := by decide +kernel
theorem dX4_pass_13 : decode cX4_pass 13 = .ok (.iadd, 1) := by decide +kernel
theorem dX4_pass_14 : decode cX4_pass 14 = .ok (.sipush 20000, 3) := by decide +kernel
theorem dX4_pass_17 : decode cX4_pass 17 = .ok (.if_icmp .le 13, 3) := by decide +kernel
theorem dX4_pass_20 : decode cX4_pass 20 = .ok (.new 92, 3) := by decide +kernel
theorem dX4_pass_23 : decode cX4_pass 23 = .ok (.dup, 1) := by decide +kernel
theorem dX4_pass_24 : decode cX4_pass 24 = .ok (.ldc 143, 2) := by decide +kernel
theorem dX4_pass_26 : decode cX4_pass 26 = .ok (.invokespecial 96, 3) := by decide +kernel
theorem dX4_pass_29 : decode cX4_pass 29 = .ok (.athrow, 1) := by decide +kernel
theorem dX4_pass_30 : decode cX4_pass 30 = .ok (.aload_n 0, 1) := by decide +kernel
theorem dX4_pass_31 : decode cX4_pass 31 = .ok (.dup, 1) := by decide +kernel
theorem dX4_pass_32 : decode cX4_pass 32 = .ok (.getfield 68, 3) := by decide +kernel
theorem dX4_pass_35 : decode cX4_pass 35 = .ok (.iload_n 1, 1) := by decide +kernel
theorem dX4_pass_36 : decode cX4_pass 36 = .ok (.iadd, 1) := by decide +kernel
theorem dX4_pass_37 : decode cX4_pass 37 = .ok (.putfield 68, 3) := by decide +kernel
theorem dX4_pass_40 : decode cX4_pass 40 = .ok (.iconst 0, 1) := by decide +kernel
theorem dX4_pass_41 : decode cX4_pass 41 = .ok (.istore_n 2, 1) := by decide +kernel
theorem dX4_pass_42 : decode cX4_pass 42 = .ok (.iconst 0, 1) := by decide +kernel
theorem dX4_pass_43 : decode cX4_pass 43 = .ok (.istore_n 3, 1) := by decide +kernel
theorem dX4_pass_44 : decode cX4_pass 44 = .ok (.iload_n 3, 1) := by decide +kernel
theorem dX4_pass_45 : decode cX4_pass 45 = .ok (.aload_n 0, 1) := by decide +kernel
theorem dX4_pass_46 : decode cX4_pass 46 = .ok (.getfield 26, 3) := by decide +kernel
theorem dX4_pass_49 : decode cX4_pass 49 = .ok (.invokevirtual 43, 3) := by decide +kernel
theorem dX4_pass_52 : decode cX4_pass 52 = .ok (.if_icmp .ge 30, 3) := by decide +kernel
theorem dX4_pass_55 : decode cX4_pass 55 = .ok (.aload_n 0, 1) := by decide +kernel
theorem dX4_pass_56 : decode cX4_pass 56 = .ok (.aload_n 0, 1) := by decide +kernel
theorem dX4_pass_57 : decode cX4_pass 57 = .ok (.getfield 26, 3) := by decide +kernel
theorem dX4_pass_60 : decode cX4_pass 60 = .ok (.iload_n 3, 1) := by decide +kernel
theorem dX4_pass_61 : decode cX4_pass 61 = .ok (.invokevirtual 145, 3) := by decide +kernel
theorem dX4_pass_64 : decode cX4_pass 64 = .ok (.checkcast 71, 3) := by decide +kernel
theorem dX4_pass_67 : decode cX4_pass 67 = .ok (.invokevirtual 149, 3) := by decide +kernel
theorem dX4_pass_70 : decode cX4_pass 70 = .ok (.ifCond .eq 6, 3) := by decide +kernel
theorem dX4_pass_73 : decode cX4_pass 73 = .ok (.iinc 2 1, 3) := by decide +kernel
theorem dX4_pass_76 : decode cX4_pass 76 = .ok (.iinc 3 1, 3) := by decide +kernel
theorem dX4_pass_79 : decode cX4_pass 79 = .ok (.goto (-35), 3) := by decide +kernel
theorem dX4_pass_82 : decode cX4_pass 82 = .ok (.iload_n 2, 1) := by decide +kernel
theorem dX4_pass_83 : decode cX4_pass 83 = .ok (.ireturn, 1) := by decide +kernel
theorem dX4_minute_0 : decode cX4_minute 0 = .ok (.aload_n 0, 1) := by decide +kernel
theorem dX4_minute_1 : decode cX4_minute 1 = .ok (.getfield 68, 3) := by decide +kernel
theorem dX4_minute_4 : decode cX4_minute 4 = .ok (.ireturn, 1) := by decide +kernel
theorem dX4_level_0 : decode cX4_level 0 = .ok (.iload_n 1, 1) := by decide +kernel
theorem dX4_level_1 : decode cX4_level 1 = .ok (.iconst 0, 1) := by decide +kernel
theorem dX4_level_2 : decode cX4_level 2 = .ok (.sipush 30000, 3) := by decide +kernel
theorem dX4_level_5 : decode cX4_level 5 = .ok (.invokestatic 33, 3) := by decide +kernel
theorem dX4_level_8 : decode cX4_level 8 = .ok (.aload_n 0, 1) := by decide +kernel
theorem dX4_level_9 : decode cX4_level 9 = .ok (.getfield 10, 3) := by decide +kernel
theorem dX4_level_12 : decode cX4_level 12 = .ok (.iload_n 1, 1) := by decide +kernel
theorem dX4_level_13 : decode cX4_level 13 = .ok (.invokevirtual 153, 3) := by decide +kernel
theorem dX4_level_16 : decode cX4_level 16 = .ok (.ireturn, 1) := by decide +kernel
theorem dX4_window_0 : decode cX4_window 0 = .ok (.aload_n 0, 1) := by decide +kernel
theorem dX4_window_1 : decode cX4_window 1 = .ok (.iload_n 1, 1) := by decide +kernel
theorem dX4_window_2 : decode cX4_window 2 = .ok (.invokevirtual 64, 3) := by decide +kernel
theorem dX4_window_5 : decode cX4_window 5 = .ok (.astore_n 3, 1) := by decide +kernel
theorem dX4_window_6 : decode cX4_window 6 = .ok (.iload_n 2, 1) := by decide +kernel
theorem dX4_window_7 : decode cX4_window 7 = .ok (.iconst 0, 1) := by decide +kernel
theorem dX4_window_8 : decode cX4_window 8 = .ok (.sipush 20000, 3) := by decide +kernel
theorem dX4_window_11 : decode cX4_window 11 = .ok (.invokestatic 33, 3) := by decide +kernel
theorem dX4_window_14 : decode cX4_window 14 = .ok (.iload_n 2, 1) := by decide +kernel
theorem dX4_window_15 : decode cX4_window 15 = .ok (.sipush 1440, 3) := by decide +kernel
theorem dX4_window_18 : decode cX4_window 18 = .ok (.iadd, 1) := by decide +kernel
theorem dX4_window_19 : decode cX4_window 19 = .ok (.istore 4, 2) := by decide +kernel
theorem dX4_window_21 : decode cX4_window 21 = .ok (.iload_n 2, 1) := by decide +kernel
theorem dX4_window_22 : decode cX4_window 22 = .ok (.istore 5, 2) := by decide +kernel
theorem dX4_window_24 : decode cX4_window 24 = .ok (.iload 5, 2) := by decide +kernel
theorem dX4_window_26 : decode cX4_window 26 = .ok (.iload 4, 2) := by decide +kernel
theorem dX4_window_28 : decode cX4_window 28 = .ok (.if_icmp .gt 39, 3) := by decide +kernel
theorem dX4_window_31 : decode cX4_window 31 = .ok (.aload_n 0, 1) := by decide +kernel
theorem dX4_window_32 : decode cX4_window 32 = .ok (.getfield 10, 3) := by decide +kernel
theorem dX4_window_35 : decode cX4_window 35 = .ok (.aload_n 3, 1) := by decide +kernel
theorem dX4_window_36 : decode cX4_window 36 = .ok (.iload 5, 2) := by decide +kernel
theorem dX4_window_38 : decode cX4_window 38 = .ok (.invokevirtual 157, 3) := by decide +kernel
theorem dX4_window_41 : decode cX4_window 41 = .ok (.istore 6, 2) := by decide +kernel
theorem dX4_window_43 : decode cX4_window 43 = .ok (.iload 6, 2) := by decide +kernel
theorem dX4_window_45 : decode cX4_window 45 = .ok (.iload 5, 2) := by decide +kernel
theorem dX4_window_47 : decode cX4_window 47 = .ok (.if_icmp .ne 6, 3) := by decide +kernel
theorem dX4_window_50 : decode cX4_window 50 = .ok (.iload 5, 2) := by decide +kernel
theorem dX4_window_52 : decode cX4_window 52 = .ok (.ireturn, 1) := by decide +kernel
theorem dX4_window_53 : decode cX4_window 53 = .ok (.iload 5, 2) := by decide +kernel
theorem dX4_window_55 : decode cX4_window 55 = .ok (.iconst 1, 1) := by decide +kernel
theorem dX4_window_56 : decode cX4_window 56 = .ok (.iadd, 1) := by decide +kernel
theorem dX4_window_57 : decode cX4_window 57 = .ok (.iload 6, 2) := by decide +kernel
theorem dX4_window_59 : decode cX4_window 59 = .ok (.invokestatic 161, 3) := by decide +kernel
theorem dX4_window_62 : decode cX4_window 62 = .ok (.istore 5, 2) := by decide +kernel
theorem dX4_window_64 : decode cX4_window 64 = .ok (.goto (-40), 3) := by decide +kernel
theorem dX4_window_67 : decode cX4_window 67 = .ok (.iconst (-1), 1) := by decide +kernel
theorem dX4_window_68 : decode cX4_window 68 = .ok (.ireturn, 1) := by decide +kernel
theorem dX4_ofConference_0 : decode cX4_ofConference 0 = .ok (.aload_n 0, 1) := by decide +kernel
theorem dX4_ofConference_1 : decode cX4_ofConference 1 = .ok (.iload_n 1, 1) := by decide +kernel
theorem dX4_ofConference_2 : decode cX4_ofConference 2 = .ok (.invokevirtual 76, 3) := by decide +kernel
theorem dX4_ofConference_5 : decode cX4_ofConference 5 = .ok (.astore_n 3, 1) := by decide +kernel
theorem dX4_ofConference_6 : decode cX4_ofConference 6 = .ok (.iload_n 2, 1) := by decide +kernel
theorem dX4_ofConference_7 : decode cX4_ofConference 7 = .ok (.tableswitch 75 0 4 #[33, 38, 43, 62, 67], 33) := by decide +kernel
theorem dX4_ofConference_40 : decode cX4_ofConference 40 = .ok (.aload_n 3, 1) := by decide +kernel
theorem dX4_ofConference_41 : decode cX4_ofConference 41 = .ok (.getfield 125, 3) := by decide +kernel
theorem dX4_ofConference_44 : decode cX4_ofConference 44 = .ok (.ireturn, 1) := by decide +kernel
theorem dX4_ofConference_45 : decode cX4_ofConference 45 = .ok (.aload_n 3, 1) := by decide +kernel
theorem dX4_ofConference_46 : decode cX4_ofConference 46 = .ok (.getfield 122, 3) := by decide +kernel
theorem dX4_ofConference_49 : decode cX4_ofConference 49 = .ok (.ireturn, 1) := by decide +kernel
theorem dX4_ofConference_50 : decode cX4_ofConference 50 = .ok (.aload_n 3, 1) := by decide +kernel
theorem dX4_ofConference_51 : decode cX4_ofConference 51 = .ok (.getfield 167, 3) := by decide +kernel
theorem dX4_ofConference_54 : decode cX4_ofConference 54 = .ok (.ifnonnull 7, 3) := by decide +kernel
theorem dX4_ofConference_57 : decode cX4_ofConference 57 = .ok (.iconst (-1), 1) := by decide +kernel
theorem dX4_ofConference_58 : decode cX4_ofConference 58 = .ok (.goto 10, 3) := by decide +kernel
theorem dX4_ofConference_61 : decode cX4_ofConference 61 = .ok (.aload_n 3, 1) := by decide +kernel
theorem dX4_ofConference_62 : decode cX4_ofConference 62 = .ok (.getfield 167, 3) := by decide +kernel
theorem dX4_ofConference_65 : decode cX4_ofConference 65 = .ok (.getfield 171, 3) := by decide +kernel
theorem dX4_ofConference_68 : decode cX4_ofConference 68 = .ok (.ireturn, 1) := by decide +kernel
theorem dX4_ofConference_69 : decode cX4_ofConference 69 = .ok (.aload_n 3, 1) := by decide +kernel
theorem dX4_ofConference_70 : decode cX4_ofConference 70 = .ok (.invokevirtual 115, 3) := by decide +kernel
theorem dX4_ofConference_73 : decode cX4_ofConference 73 = .ok (.ireturn, 1) := by decide +kernel
theorem dX4_ofConference_74 : decode cX4_ofConference 74 = .ok (.aload_n 3, 1) := by decide +kernel
theorem dX4_ofConference_75 : decode cX4_ofConference 75 = .ok (.getfield 102, 3) := by decide +kernel
theorem dX4_ofConference_78 : decode cX4_ofConference 78 = .ok (.getfield 174, 3) := by decide +kernel
theorem dX4_ofConference_81 : decode cX4_ofConference 81 = .ok (.ireturn, 1) := by decide +kernel
theorem dX4_ofConference_82 : decode cX4_ofConference 82 = .ok (.new 175, 3) := by decide +kernel
theorem dX4_ofConference_85 : decode cX4_ofConference 85 = .ok (.dup, 1) := by decide +kernel
theorem dX4_ofConference_86 : decode cX4_ofConference 86 = .ok (.ldc 177, 2) := by decide +kernel
theorem dX4_ofConference_88 : decode cX4_ofConference 88 = .ok (.invokespecial 179, 3) := by decide +kernel
theorem dX4_ofConference_91 : decode cX4_ofConference 91 = .ok (.athrow, 1) := by decide +kernel
theorem dX4_why_0 : decode cX4_why 0 = .ok (.aload_n 0, 1) := by decide +kernel
theorem dX4_why_1 : decode cX4_why 1 = .ok (.iload_n 1, 1) := by decide +kernel
theorem dX4_why_2 : decode cX4_why 2 = .ok (.invokevirtual 76, 3) := by decide +kernel
theorem dX4_why_5 : decode cX4_why 5 = .ok (.astore_n 3, 1) := by decide +kernel
theorem dX4_why_6 : decode cX4_why 6 = .ok (.iload_n 2, 1) := by decide +kernel
theorem dX4_why_7 : decode cX4_why 7 = .ok (.aload_n 0, 1) := by decide +kernel
theorem dX4_why_8 : decode cX4_why 8 = .ok (.getfield 68, 3) := by decide +kernel
theorem dX4_why_11 : decode cX4_why 11 = .ok (.sipush 21440, 3) := by decide +kernel
theorem dX4_why_14 : decode cX4_why 14 = .ok (.invokestatic 33, 3) := by decide +kernel
theorem dX4_why_17 : decode cX4_why 17 = .ok (.aload_n 3, 1) := by decide +kernel
theorem dX4_why_18 : decode cX4_why 18 = .ok (.getfield 167, 3) := by decide +kernel
theorem dX4_why_21 : decode cX4_why 21 = .ok (.ifnonnull 13, 3) := by decide +kernel
theorem dX4_why_24 : decode cX4_why 24 = .ok (.new 92, 3) := by decide +kernel
theorem dX4_why_27 : decode cX4_why 27 = .ok (.dup, 1) := by decide +kernel
theorem dX4_why_28 : decode cX4_why 28 = .ok (.ldc 180, 2) := by decide +kernel
theorem dX4_why_30 : decode cX4_why 30 = .ok (.invokespecial 96, 3) := by decide +kernel
theorem dX4_why_33 : decode cX4_why 33 = .ok (.athrow, 1) := by decide +kernel
theorem dX4_why_34 : decode cX4_why 34 = .ok (.aload_n 0, 1) := by decide +kernel
theorem dX4_why_35 : decode cX4_why 35 = .ok (.getfield 10, 3) := by decide +kernel
theorem dX4_why_38 : decode cX4_why 38 = .ok (.aload_n 3, 1) := by decide +kernel
theorem dX4_why_39 : decode cX4_why 39 = .ok (.getfield 102, 3) := by decide +kernel
theorem dX4_why_42 : decode cX4_why 42 = .ok (.iload_n 2, 1) := by decide +kernel
theorem dX4_why_43 : decode cX4_why 43 = .ok (.invokevirtual 157, 3) := by decide +kernel
theorem dX4_why_46 : decode cX4_why 46 = .ok (.iload_n 2, 1) := by decide +kernel
theorem dX4_why_47 : decode cX4_why 47 = .ok (.if_icmp .eq 5, 3) := by decide +kernel
theorem dX4_why_50 : decode cX4_why 50 = .ok (.iconst 1, 1) := by decide +kernel
theorem dX4_why_51 : decode cX4_why 51 = .ok (.ireturn, 1) := by decide +kernel
theorem dX4_why_52 : decode cX4_why 52 = .ok (.aload_n 0, 1) := by decide +kernel
theorem dX4_why_53 : decode cX4_why 53 = .ok (.aload_n 3, 1) := by decide +kernel
theorem dX4_why_54 : decode cX4_why 54 = .ok (.iload_n 2, 1) := by decide +kernel
theorem dX4_why_55 : decode cX4_why 55 = .ok (.invokevirtual 182, 3) := by decide +kernel
theorem dX4_why_58 : decode cX4_why 58 = .ok (.iload_n 2, 1) := by decide +kernel
theorem dX4_why_59 : decode cX4_why 59 = .ok (.if_icmp .eq 5, 3) := by decide +kernel
theorem dX4_why_62 : decode cX4_why 62 = .ok (.iconst 2, 1) := by decide +kernel
theorem dX4_why_63 : decode cX4_why 63 = .ok (.ireturn, 1) := by decide +kernel
theorem dX4_why_64 : decode cX4_why 64 = .ok (.aload_n 0, 1) := by decide +kernel
theorem dX4_why_65 : decode cX4_why 65 = .ok (.aload_n 3, 1) := by decide +kernel
theorem dX4_why_66 : decode cX4_why 66 = .ok (.iload_n 2, 1) := by decide +kernel
theorem dX4_why_67 : decode cX4_why 67 = .ok (.invokevirtual 186, 3) := by decide +kernel
theorem dX4_why_70 : decode cX4_why 70 = .ok (.iload_n 2, 1) := by decide +kernel
theorem dX4_why_71 : decode cX4_why 71 = .ok (.if_icmp .eq 5, 3) := by decide +kernel
theorem dX4_why_74 : decode cX4_why 74 = .ok (.iconst 3, 1) := by decide +kernel
theorem dX4_why_75 : decode cX4_why 75 = .ok (.ireturn, 1) := by decide +kernel
theorem dX4_why_76 : decode cX4_why 76 = .ok (.aload_n 0, 1) := by decide +kernel
theorem dX4_why_77 : decode cX4_why 77 = .ok (.aload_n 3, 1) := by decide +kernel
theorem dX4_why_78 : decode cX4_why 78 = .ok (.iload_n 2, 1) := by decide +kernel
theorem dX4_why_79 : decode cX4_why 79 = .ok (.invokevirtual 189, 3) := by decide +kernel
theorem dX4_why_82 : decode cX4_why 82 = .ok (.iload_n 2, 1) := by decide +kernel
theorem dX4_why_83 : decode cX4_why 83 = .ok (.if_icmp .eq 7, 3) := by decide +kernel
theorem dX4_why_86 : decode cX4_why 86 = .ok (.iconst 4, 1) := by decide +kernel
theorem dX4_why_87 : decode cX4_why 87 = .ok (.goto 4, 3) := by decide +kernel
theorem dX4_why_90 : decode cX4_why 90 = .ok (.iconst 0, 1) := by decide +kernel
theorem dX4_why_91 : decode cX4_why 91 = .ok (.ireturn, 1) := by decide +kernel
theorem dX4_rested_0 : decode cX4_rested 0 = .ok (.aload_n 0, 1) := by decide +kernel
theorem dX4_rested_1 : decode cX4_rested 1 = .ok (.aload_n 0, 1) := by decide +kernel
theorem dX4_rested_2 : decode cX4_rested 2 = .ok (.iload_n 1, 1) := by decide +kernel
theorem dX4_rested_3 : decode cX4_rested 3 = .ok (.invokevirtual 84, 3) := by decide +kernel
theorem dX4_rested_6 : decode cX4_rested 6 = .ok (.invokevirtual 192, 3) := by decide +kernel
theorem dX4_rested_9 : decode cX4_rested 9 = .ok (.ireturn, 1) := by decide +kernel
theorem dX4_restedAnew_0 : decode cX4_restedAnew 0 = .ok (.aload_n 0, 1) := by decide +kernel
theorem dX4_restedAnew_1 : decode cX4_restedAnew 1 = .ok (.aload_n 0, 1) := by decide +kernel
theorem dX4_restedAnew_2 : decode cX4_restedAnew 2 = .ok (.iload_n 1, 1) := by decide +kernel
theorem dX4_restedAnew_3 : decode cX4_restedAnew 3 = .ok (.invokevirtual 84, 3) := by decide +kernel
theorem dX4_restedAnew_6 : decode cX4_restedAnew 6 = .ok (.invokevirtual 192, 3) := by decide +kernel
theorem dX4_restedAnew_9 : decode cX4_restedAnew 9 = .ok (.ireturn, 1) := by decide +kernel
theorem dX4_bill_0 : decode cX4_bill 0 = .ok (.aload_n 0, 1) := by decide +kernel
theorem dX4_bill_1 : decode cX4_bill 1 = .ok (.iload_n 1, 1) := by decide +kernel
theorem dX4_bill_2 : decode cX4_bill 2 = .ok (.invokevirtual 64, 3) := by decide +kernel
theorem dX4_bill_5 : decode cX4_bill 5 = .ok (.getfield 196, 3) := by decide +kernel
theorem dX4_bill_8 : decode cX4_bill 8 = .ok (.ireturn, 1) := by decide +kernel
theorem dX4_ofPilot_0 : decode cX4_ofPilot 0 = .ok (.aload_n 0, 1) := by decide +kernel
theorem dX4_ofPilot_1 : decode cX4_ofPilot 1 = .ok (.iload_n 1, 1) := by decide +kernel
theorem dX4_ofPilot_2 : decode cX4_ofPilot 2 = .ok (.invokevirtual 84, 3) := by decide +kernel
theorem dX4_ofPilot_5 : decode cX4_ofPilot 5 = .ok (.astore_n 3, 1) := by decide +kernel
theorem dX4_ofPilot_6 : decode cX4_ofPilot 6 = .ok (.iload_n 2, 1) := by decide +kernel
theorem dX4_ofPilot_7 : decode cX4_ofPilot 7 = .ok (.tableswitch 63 0 3 #[29, 34, 39, 53], 29) := by decide +kernel
theorem dX4_ofPilot_36 : decode cX4_ofPilot 36 = .ok (.aload_n 3, 1) := by decide +kernel
theorem dX4_ofPilot_37 : decode cX4_ofPilot 37 = .ok (.getfield 199, 3) := by decide +kernel
theorem dX4_ofPilot_40 : decode cX4_ofPilot 40 = .ok (.ireturn, 1) := by decide +kernel
theorem dX4_ofPilot_41 : decode cX4_ofPilot 41 = .ok (.aload_n 3, 1) := by decide +kernel
theorem dX4_ofPilot_42 : decode cX4_ofPilot 42 = .ok (.getfield 202, 3) := by decide +kernel
theorem dX4_ofPilot_45 : decode cX4_ofPilot 45 = .ok (.ireturn, 1) := by decide +kernel
theorem dX4_ofPilot_46 : decode cX4_ofPilot 46 = .ok (.aload_n 0, 1) := by decide +kernel
theorem dX4_ofPilot_47 : decode cX4_ofPilot 47 = .ok (.aload_n 3, 1) := by decide +kernel
theorem dX4_ofPilot_48 : decode cX4_ofPilot 48 = .ok (.invokevirtual 205, 3) := by decide +kernel
theorem dX4_ofPilot_51 : decode cX4_ofPilot 51 = .ok (.ifCond .eq 7, 3) := by decide +kernel
theorem dX4_ofPilot_54 : decode cX4_ofPilot 54 = .ok (.iconst 1, 1) := by decide +kernel
theorem dX4_ofPilot_55 : decode cX4_ofPilot 55 = .ok (.goto 4, 3) := by decide +kernel
theorem dX4_ofPilot_58 : decode cX4_ofPilot 58 = .ok (.iconst 0, 1) := by decide +kernel
theorem dX4_ofPilot_59 : decode cX4_ofPilot 59 = .ok (.ireturn, 1) := by decide +kernel
theorem dX4_ofPilot_60 : decode cX4_ofPilot 60 = .ok (.aload_n 3, 1) := by decide +kernel
theorem dX4_ofPilot_61 : decode cX4_ofPilot 61 = .ok (.getfield 202, 3) := by decide +kernel
theorem dX4_ofPilot_64 : decode cX4_ofPilot 64 = .ok (.aload_n 3, 1) := by decide +kernel
theorem dX4_ofPilot_65 : decode cX4_ofPilot 65 = .ok (.getfield 209, 3) := by decide +kernel
theorem dX4_ofPilot_68 : decode cX4_ofPilot 68 = .ok (.imul, 1) := by decide +kernel
theorem dX4_ofPilot_69 : decode cX4_ofPilot 69 = .ok (.ireturn, 1) := by decide +kernel
theorem dX4_ofPilot_70 : decode cX4_ofPilot 70 = .ok (.new 175, 3) := by decide +kernel
theorem dX4_ofPilot_73 : decode cX4_ofPilot 73 = .ok (.dup, 1) := by decide +kernel
theorem dX4_ofPilot_74 : decode cX4_ofPilot 74 = .ok (.ldc 177, 2) := by decide +kernel
theorem dX4_ofPilot_76 : decode cX4_ofPilot 76 = .ok (.invokespecial 179, 3) := by decide +kernel
theorem dX4_ofPilot_79 : decode cX4_ofPilot 79 = .ok (.athrow, 1) := by decide +kernel
theorem dX4_count_0 : decode cX4_count 0 = .ok (.iload_n 1, 1) := by decide +kernel
theorem dX4_count_1 : decode cX4_count 1 = .ok (.iconst 0, 1) := by decide +kernel
theorem dX4_count_2 : decode cX4_count 2 = .ok (.bipush 7, 2) := by decide +kernel
theorem dX4_count_4 : decode cX4_count 4 = .ok (.invokestatic 33, 3) := by decide +kernel
theorem dX4_count_7 : decode cX4_count 7 = .ok (.iload_n 1, 1) := by decide +kernel
theorem dX4_count_8 : decode cX4_count 8 = .ok (.tableswitch 52 5 7 #[28, 42, 47], 28) := by decide +kernel
theorem dX4_count_36 : decode cX4_count 36 = .ok (.aload_n 0, 1) := by decide +kernel
theorem dX4_count_37 : decode cX4_count 37 = .ok (.aconst_null, 1) := by decide +kernel
theorem dX4_count_38 : decode cX4_count 38 = .ok (.aload_n 0, 1) := by decide +kernel
theorem dX4_count_39 : decode cX4_count 39 = .ok (.getfield 68, 3) := by decide +kernel
theorem dX4_count_42 : decode cX4_count 42 = .ok (.aload_n 0, 1) := by decide +kernel
theorem dX4_count_43 : decode cX4_count 43 = .ok (.getfield 68, 3) := by decide +kernel
theorem dX4_count_46 : decode cX4_count 46 = .ok (.invokevirtual 212, 3) := by decide +kernel
theorem dX4_count_49 : decode cX4_count 49 = .ok (.ireturn, 1) := by decide +kernel
theorem dX4_count_50 : decode cX4_count 50 = .ok (.aload_n 0, 1) := by decide +kernel
theorem dX4_count_51 : decode cX4_count 51 = .ok (.invokevirtual 216, 3) := by decide +kernel
theorem dX4_count_54 : decode cX4_count 54 = .ok (.ireturn, 1) := by decide +kernel
theorem dX4_count_55 : decode cX4_count 55 = .ok (.aload_n 0, 1) := by decide +kernel
theorem dX4_count_56 : decode cX4_count 56 = .ok (.getfield 140, 3) := by decide +kernel
theorem dX4_count_59 : decode cX4_count 59 = .ok (.ireturn, 1) := by decide +kernel
theorem dX4_count_60 : decode cX4_count 60 = .ok (.aload_n 0, 1) := by decide +kernel
theorem dX4_count_61 : decode cX4_count 61 = .ok (.iload_n 1, 1) := by decide +kernel
theorem dX4_count_62 : decode cX4_count 62 = .ok (.invokevirtual 219, 3) := by decide +kernel
theorem dX4_count_65 : decode cX4_count 65 = .ok (.ireturn, 1) := by decide +kernel
theorem dX4_demandWithin_0 : decode cX4_demandWithin 0 = .ok (.iload_n 0, 1) := by decide +kernel
theorem dX4_demandWithin_1 : decode cX4_demandWithin 1 = .ok (.iload_n 1, 1) := by decide +kernel
theorem dX4_demandWithin_2 : decode cX4_demandWithin 2 = .ok (.if_icmp .lt 8, 3) := by decide +kernel
theorem dX4_demandWithin_5 : decode cX4_demandWithin 5 = .ok (.iload_n 0, 1) := by decide +kernel
theorem dX4_demandWithin_6 : decode cX4_demandWithin 6 = .ok (.iload_n 2, 1) := by decide +kernel
theorem dX4_demandWithin_7 : decode cX4_demandWithin 7 = .ok (.if_icmp .le 13, 3) := by decide +kernel
theorem dX4_demandWithin_10 : decode cX4_demandWithin 10 = .ok (.new 222, 3) := by decide +kernel
theorem dX4_demandWithin_13 : decode cX4_demandWithin 13 = .ok (.dup, 1) := by decide +kernel
theorem dX4_demandWithin_14 : decode cX4_demandWithin 14 = .ok (.ldc 224, 2) := by decide +kernel
theorem dX4_demandWithin_16 : decode cX4_demandWithin 16 = .ok (.invokespecial 226, 3) := by decide +kernel
theorem dX4_demandWithin_19 : decode cX4_demandWithin 19 = .ok (.athrow, 1) := by decide +kernel
theorem dX4_demandWithin_20 : decode cX4_demandWithin 20 = .ok (.return_, 1) := by decide +kernel
theorem dX4_demandRoom_0 : decode cX4_demandRoom 0 = .ok (.iload_n 0, 1) := by decide +kernel
theorem dX4_demandRoom_1 : decode cX4_demandRoom 1 = .ok (.iload_n 1, 1) := by decide +kernel
theorem dX4_demandRoom_2 : decode cX4_demandRoom 2 = .ok (.if_icmp .lt 13, 3) := by decide +kernel
theorem dX4_demandRoom_5 : decode cX4_demandRoom 5 = .ok (.new 92, 3) := by decide +kernel
theorem dX4_demandRoom_8 : decode cX4_demandRoom 8 = .ok (.dup, 1) := by decide +kernel
theorem dX4_demandRoom_9 : decode cX4_demandRoom 9 = .ok (.ldc 227, 2) := by decide +kernel
theorem dX4_demandRoom_11 : decode cX4_demandRoom 11 = .ok (.invokespecial 96, 3) := by decide +kernel
theorem dX4_demandRoom_14 : decode cX4_demandRoom 14 = .ok (.athrow, 1) := by decide +kernel
theorem dX4_demandRoom_15 : decode cX4_demandRoom 15 = .ok (.return_, 1) := by decide +kernel
theorem dX4_demandWho_0 : decode cX4_demandWho 0 = .ok (.iload_n 0, 1) := by decide +kernel
theorem dX4_demandWho_1 : decode cX4_demandWho 1 = .ok (.ifCond .lt 8, 3) := by decide +kernel
theorem dX4_demandWho_4 : decode cX4_demandWho 4 = .ok (.iload_n 0, 1) := by decide +kernel
theorem dX4_demandWho_5 : decode cX4_demandWho 5 = .ok (.iconst 2, 1) := by decide +kernel
theorem dX4_demandWho_6 : decode cX4_demandWho 6 = .ok (.if_icmp .le 13, 3) := by decide +kernel
theorem dX4_demandWho_9 : decode cX4_demandWho 9 = .ok (.new 175, 3) := by decide +kernel
theorem dX4_demandWho_12 : decode cX4_demandWho 12 = .ok (.dup, 1) := by decide +kernel
theorem dX4_demandWho_13 : decode cX4_demandWho 13 = .ok (.ldc 229, 2) := by decide +kernel
theorem dX4_demandWho_15 : decode cX4_demandWho 15 = .ok (.invokespecial 179, 3) := by decide +kernel
theorem dX4_demandWho_18 : decode cX4_demandWho 18 = .ok (.athrow, 1) := by decide +kernel
theorem dX4_demandWho_19 : decode cX4_demandWho 19 = .ok (.return_, 1) := by decide +kernel
theorem dX4_shipAt_0 : decode cX4_shipAt 0 = .ok (.iload_n 1, 1) := by decide +kernel
theorem dX4_shipAt_1 : decode cX4_shipAt 1 = .ok (.ifCond .lt 14, 3) := by decide +kernel
theorem dX4_shipAt_4 : decode cX4_shipAt 4 = .ok (.iload_n 1, 1) := by decide +kernel
theorem dX4_shipAt_5 : decode cX4_shipAt 5 = .ok (.aload_n 0, 1) := by decide +kernel
theorem dX4_shipAt_6 : decode cX4_shipAt 6 = .ok (.getfield 19, 3) := by decide +kernel
theorem dX4_shipAt_9 : decode cX4_shipAt 9 = .ok (.invokevirtual 43, 3) := by decide +kernel
theorem dX4_shipAt_12 : decode cX4_shipAt 12 = .ok (.if_icmp .lt 13, 3) := by decide +kernel
theorem dX4_shipAt_15 : decode cX4_shipAt 15 = .ok (.new 175, 3) := by decide +kernel
theorem dX4_shipAt_18 : decode cX4_shipAt 18 = .ok (.dup, 1) := by decide +kernel
theorem dX4_shipAt_19 : decode cX4_shipAt 19 = .ok (.ldc 231, 2) := by decide +kernel
theorem dX4_shipAt_21 : decode cX4_shipAt 21 = .ok (.invokespecial 179, 3) := by decide +kernel
theorem dX4_shipAt_24 : decode cX4_shipAt 24 = .ok (.athrow, 1) := by decide +kernel
theorem dX4_shipAt_25 : decode cX4_shipAt 25 = .ok (.aload_n 0, 1) := by decide +kernel
theorem dX4_shipAt_26 : decode cX4_shipAt 26 = .ok (.getfield 19, 3) := by decide +kernel
theorem dX4_shipAt_29 : decode cX4_shipAt 29 = .ok (.iload_n 1, 1) := by decide +kernel
theorem dX4_shipAt_30 : decode cX4_shipAt 30 = .ok (.invokevirtual 145, 3) := by decide +kernel
theorem dX4_shipAt_33 : decode cX4_shipAt 33 = .ok (.checkcast 51, 3) := by decide +kernel
theorem dX4_shipAt_36 : decode cX4_shipAt 36 = .ok (.areturn, 1) := by decide +kernel
theorem dX4_pilotAt_0 : decode cX4_pilotAt 0 = .ok (.iload_n 1, 1) := by decide +kernel
theorem dX4_pilotAt_1 : decode cX4_pilotAt 1 = .ok (.ifCond .lt 14, 3) := by decide +kernel
theorem dX4_pilotAt_4 : decode cX4_pilotAt 4 = .ok (.iload_n 1, 1) := by decide +kernel
theorem dX4_pilotAt_5 : decode cX4_pilotAt 5 = .ok (.aload_n 0, 1) := by decide +kernel
theorem dX4_pilotAt_6 : decode cX4_pilotAt 6 = .ok (.getfield 23, 3) := by decide +kernel
theorem dX4_pilotAt_9 : decode cX4_pilotAt 9 = .ok (.invokevirtual 43, 3) := by decide +kernel
theorem dX4_pilotAt_12 : decode cX4_pilotAt 12 = .ok (.if_icmp .lt 13, 3) := by decide +kernel
theorem dX4_pilotAt_15 : decode cX4_pilotAt 15 = .ok (.new 175, 3) := by decide +kernel
theorem dX4_pilotAt_18 : decode cX4_pilotAt 18 = .ok (.dup, 1) := by decide +kernel
theorem dX4_pilotAt_19 : decode cX4_pilotAt 19 = .ok (.ldc 233, 2) := by decide +kernel
theorem dX4_pilotAt_21 : decode cX4_pilotAt 21 = .ok (.invokespecial 179, 3) := by decide +kernel
theorem dX4_pilotAt_24 : decode cX4_pilotAt 24 = .ok (.athrow, 1) := by decide +kernel
theorem dX4_pilotAt_25 : decode cX4_pilotAt 25 = .ok (.aload_n 0, 1) := by decide +kernel
theorem dX4_pilotAt_26 : decode cX4_pilotAt 26 = .ok (.getfield 23, 3) := by decide +kernel
theorem dX4_pilotAt_29 : decode cX4_pilotAt 29 = .ok (.iload_n 1, 1) := by decide +kernel
theorem dX4_pilotAt_30 : decode cX4_pilotAt 30 = .ok (.invokevirtual 145, 3) := by decide +kernel
theorem dX4_pilotAt_33 : decode cX4_pilotAt 33 = .ok (.checkcast 60, 3) := by decide +kernel
theorem dX4_pilotAt_36 : decode cX4_pilotAt 36 = .ok (.areturn, 1) := by decide +kernel
theorem dX4_conferenceAt_0 : decode cX4_conferenceAt 0 = .ok (.iload_n 1, 1) := by decide +kernel
theorem dX4_conferenceAt_1 : decode cX4_conferenceAt 1 = .ok (.ifCond .lt 14, 3) := by decide +kernel
theorem dX4_conferenceAt_4 : decode cX4_conferenceAt 4 = .ok (.iload_n 1, 1) := by decide +kernel
theorem dX4_conferenceAt_5 : decode cX4_conferenceAt 5 = .ok (.aload_n 0, 1) := by decide +kernel
theorem dX4_conferenceAt_6 : decode cX4_conferenceAt 6 = .ok (.getfield 26, 3) := by decide +kernel
theorem dX4_conferenceAt_9 : decode cX4_conferenceAt 9 = .ok (.invokevirtual 43, 3) := by decide +kernel
theorem dX4_conferenceAt_12 : decode cX4_conferenceAt 12 = .ok (.if_icmp .lt 13, 3) := by decide +kernel
theorem dX4_conferenceAt_15 : decode cX4_conferenceAt 15 = .ok (.new 175, 3) := by decide +kernel
theorem dX4_conferenceAt_18 : decode cX4_conferenceAt 18 = .ok (.dup, 1) := by decide +kernel
theorem dX4_conferenceAt_19 : decode cX4_conferenceAt 19 = .ok (.ldc 235, 2) := by decide +kernel
theorem dX4_conferenceAt_21 : decode cX4_conferenceAt 21 = .ok (.invokespecial 179, 3) := by decide +kernel
theorem dX4_conferenceAt_24 : decode cX4_conferenceAt 24 = .ok (.athrow, 1) := by decide +kernel
theorem dX4_conferenceAt_25 : decode cX4_conferenceAt 25 = .ok (.aload_n 0, 1) := by decide +kernel
theorem dX4_conferenceAt_26 : decode cX4_conferenceAt 26 = .ok (.getfield 26, 3) := by decide +kernel
theorem dX4_conferenceAt_29 : decode cX4_conferenceAt 29 = .ok (.iload_n 1, 1) := by decide +kernel
theorem dX4_conferenceAt_30 : decode cX4_conferenceAt 30 = .ok (.invokevirtual 145, 3) := by decide +kernel
theorem dX4_conferenceAt_33 : decode cX4_conferenceAt 33 = .ok (.checkcast 71, 3) := by decide +kernel
theorem dX4_conferenceAt_36 : decode cX4_conferenceAt 36 = .ok (.areturn, 1) := by decide +kernel
theorem dX4_lookAnew_0 : decode cX4_lookAnew 0 = .ok (.iconst 0, 1) := by decide +kernel
theorem dX4_lookAnew_1 : decode cX4_lookAnew 1 = .ok (.istore_n 1, 1) := by decide +kernel
theorem dX4_lookAnew_2 : decode cX4_lookAnew 2 = .ok (.iconst 0, 1) := by decide +kernel
theorem dX4_lookAnew_3 : decode cX4_lookAnew 3 = .ok (.istore_n 2, 1) := by decide +kernel
theorem dX4_lookAnew_4 : decode cX4_lookAnew 4 = .ok (.iload_n 2, 1) := by decide +kernel
theorem dX4_lookAnew_5 : decode cX4_lookAnew 5 = .ok (.aload_n 0, 1) := by decide +kernel
theorem dX4_lookAnew_6 : decode cX4_lookAnew 6 = .ok (.getfield 26, 3) := by decide +kernel
theorem dX4_lookAnew_9 : decode cX4_lookAnew 9 = .ok (.invokevirtual 43, 3) := by decide +kernel
theorem dX4_lookAnew_12 : decode cX4_lookAnew 12 = .ok (.if_icmp .ge 60, 3) := by decide +kernel
theorem dX4_lookAnew_15 : decode cX4_lookAnew 15 = .ok (.aload_n 0, 1) := by decide +kernel
theorem dX4_lookAnew_16 : decode cX4_lookAnew 16 = .ok (.getfield 26, 3) := by decide +kernel
theorem dX4_lookAnew_19 : decode cX4_lookAnew 19 = .ok (.iload_n 2, 1) := by decide +kernel
theorem dX4_lookAnew_20 : decode cX4_lookAnew 20 = .ok (.invokevirtual 145, 3) := by decide +kernel
theorem dX4_lookAnew_23 : decode cX4_lookAnew 23 = .ok (.checkcast 71, 3) := by decide +kernel
theorem dX4_lookAnew_26 : decode cX4_lookAnew 26 = .ok (.astore_n 3, 1) := by decide +kernel
theorem dX4_lookAnew_27 : decode cX4_lookAnew 27 = .ok (.aload_n 3, 1) := by decide +kernel
theorem dX4_lookAnew_28 : decode cX4_lookAnew 28 = .ok (.getfield 125, 3) := by decide +kernel
theorem dX4_lookAnew_31 : decode cX4_lookAnew 31 = .ok (.iconst 2, 1) := by decide +kernel
theorem dX4_lookAnew_32 : decode cX4_lookAnew 32 = .ok (.if_icmp .eq 11, 3) := by decide +kernel
theorem dX4_lookAnew_35 : decode cX4_lookAnew 35 = .ok (.aload_n 3, 1) := by decide +kernel
theorem dX4_lookAnew_36 : decode cX4_lookAnew 36 = .ok (.getfield 125, 3) := by decide +kernel
theorem dX4_lookAnew_39 : decode cX4_lookAnew 39 = .ok (.iconst 1, 1) := by decide +kernel
theorem dX4_lookAnew_40 : decode cX4_lookAnew 40 = .ok (.if_icmp .ne 26, 3) := by decide +kernel
theorem dX4_lookAnew_43 : decode cX4_lookAnew 43 = .ok (.aload_n 3, 1) := by decide +kernel
theorem dX4_lookAnew_44 : decode cX4_lookAnew 44 = .ok (.getfield 122, 3) := by decide +kernel
theorem dX4_lookAnew_47 : decode cX4_lookAnew 47 = .ok (.istore 4, 2) := by decide +kernel
theorem dX4_lookAnew_49 : decode cX4_lookAnew 49 = .ok (.aload_n 0, 1) := by decide +kernel
theorem dX4_lookAnew_50 : decode cX4_lookAnew 50 = .ok (.aload_n 3, 1) := by decide +kernel
theorem dX4_lookAnew_51 : decode cX4_lookAnew 51 = .ok (.invokevirtual 118, 3) := by decide +kernel
theorem dX4_lookAnew_54 : decode cX4_lookAnew 54 = .ok (.aload_n 3, 1) := by decide +kernel
theorem dX4_lookAnew_55 : decode cX4_lookAnew 55 = .ok (.getfield 122, 3) := by decide +kernel
theorem dX4_lookAnew_58 : decode cX4_lookAnew 58 = .ok (.iload 4, 2) := by decide +kernel
theorem dX4_lookAnew_60 : decode cX4_lookAnew 60 = .ok (.if_icmp .eq 6, 3) := by decide +kernel
theorem dX4_lookAnew_63 : decode cX4_lookAnew 63 = .ok (.iinc 1 1, 3) := by decide +kernel
theorem dX4_lookAnew_66 : decode cX4_lookAnew 66 = .ok (.iinc 2 1, 3) := by decide +kernel
theorem dX4_lookAnew_69 : decode cX4_lookAnew 69 = .ok (.goto (-65), 3) := by decide +kernel
theorem dX4_lookAnew_72 : decode cX4_lookAnew 72 = .ok (.iload_n 1, 1) := by decide +kernel
theorem dX4_lookAnew_73 : decode cX4_lookAnew 73 = .ok (.ireturn, 1) := by decide +kernel
theorem dX4_lookForSlot_0 : decode cX4_lookForSlot 0 = .ok (.aload_n 1, 1) := by decide +kernel
theorem dX4_lookForSlot_1 : decode cX4_lookForSlot 1 = .ok (.aload_n 0, 1) := by decide +kernel
theorem dX4_lookForSlot_2 : decode cX4_lookForSlot 2 = .ok (.aload_n 1, 1) := by decide +kernel
theorem dX4_lookForSlot_3 : decode cX4_lookForSlot 3 = .ok (.invokevirtual 237, 3) := by decide +kernel
theorem dX4_lookForSlot_6 : decode cX4_lookForSlot 6 = .ok (.putfield 122, 3) := by decide +kernel
theorem dX4_lookForSlot_9 : decode cX4_lookForSlot 9 = .ok (.aload_n 1, 1) := by decide +kernel
theorem dX4_lookForSlot_10 : decode cX4_lookForSlot 10 = .ok (.getfield 122, 3) := by decide +kernel
theorem dX4_lookForSlot_13 : decode cX4_lookForSlot 13 = .ok (.iconst (-1), 1) := by decide +kernel
theorem dX4_lookForSlot_14 : decode cX4_lookForSlot 14 = .ok (.if_icmp .ne 11, 3) := by decide +kernel
theorem dX4_lookForSlot_17 : decode cX4_lookForSlot 17 = .ok (.aload_n 1, 1) := by decide +kernel
theorem dX4_lookForSlot_18 : decode cX4_lookForSlot 18 = .ok (.iconst 1, 1) := by decide +kernel
theorem dX4_lookForSlot_19 : decode cX4_lookForSlot 19 = .ok (.putfield 125, 3) := by decide +kernel
theorem dX4_lookForSlot_22 : decode cX4_lookForSlot 22 = .ok (.goto 23, 3) := by decide +kernel
theorem dX4_lookForSlot_25 : decode cX4_lookForSlot 25 = .ok (.aload_n 1, 1) := by decide +kernel
theorem dX4_lookForSlot_26 : decode cX4_lookForSlot 26 = .ok (.aload_n 1, 1) := by decide +kernel
theorem dX4_lookForSlot_27 : decode cX4_lookForSlot 27 = .ok (.getfield 122, 3) := by decide +kernel
theorem dX4_lookForSlot_30 : decode cX4_lookForSlot 30 = .ok (.aload_n 0, 1) := by decide +kernel
theorem dX4_lookForSlot_31 : decode cX4_lookForSlot 31 = .ok (.getfield 68, 3) := by decide +kernel
theorem dX4_lookForSlot_34 : decode cX4_lookForSlot 34 = .ok (.if_icmp .ne 7, 3) := by decide +kernel
theorem dX4_lookForSlot_37 : decode cX4_lookForSlot 37 = .ok (.iconst 3, 1) := by decide +kernel
theorem dX4_lookForSlot_38 : decode cX4_lookForSlot 38 = .ok (.goto 4, 3) := by decide +kernel
theorem dX4_lookForSlot_41 : decode cX4_lookForSlot 41 = .ok (.iconst 2, 1) := by decide +kernel
theorem dX4_lookForSlot_42 : decode cX4_lookForSlot 42 = .ok (.putfield 125, 3) := by decide +kernel
theorem dX4_lookForSlot_45 : decode cX4_lookForSlot 45 = .ok (.return_, 1) := by decide +kernel
theorem dX4_earliestSlot_0 : decode cX4_earliestSlot 0 = .ok (.aload_n 1, 1) := by decide +kernel
theorem dX4_earliestSlot_1 : decode cX4_earliestSlot 1 = .ok (.getfield 241, 3) := by decide +kernel
theorem dX4_earliestSlot_4 : decode cX4_earliestSlot 4 = .ok (.aload_n 0, 1) := by decide +kernel
theorem dX4_earliestSlot_5 : decode cX4_earliestSlot 5 = .ok (.getfield 68, 3) := by decide +kernel
theorem dX4_earliestSlot_8 : decode cX4_earliestSlot 8 = .ok (.invokestatic 161, 3) := by decide +kernel
theorem dX4_earliestSlot_11 : decode cX4_earliestSlot 11 = .ok (.istore_n 2, 1) := by decide +kernel
theorem dX4_earliestSlot_12 : decode cX4_earliestSlot 12 = .ok (.iload_n 2, 1) := by decide +kernel
theorem dX4_earliestSlot_13 : decode cX4_earliestSlot 13 = .ok (.sipush 1440, 3) := by decide +kernel
theorem dX4_earliestSlot_16 : decode cX4_earliestSlot 16 = .ok (.iadd, 1) := by decide +kernel
theorem dX4_earliestSlot_17 : decode cX4_earliestSlot 17 = .ok (.istore_n 3, 1) := by decide +kernel
theorem dX4_earliestSlot_18 : decode cX4_earliestSlot 18 = .ok (.iload_n 2, 1) := by decide +kernel
theorem dX4_earliestSlot_19 : decode cX4_earliestSlot 19 = .ok (.istore 4, 2) := by decide +kernel
theorem dX4_earliestSlot_21 : decode cX4_earliestSlot 21 = .ok (.iload 4, 2) := by decide +kernel
theorem dX4_earliestSlot_23 : decode cX4_earliestSlot 23 = .ok (.iload_n 3, 1) := by decide +kernel
theorem dX4_earliestSlot_24 : decode cX4_earliestSlot 24 = .ok (.if_icmp .gt 69, 3) := by decide +kernel
theorem dX4_earliestSlot_27 : decode cX4_earliestSlot 27 = .ok (.aload_n 0, 1) := by decide +kernel
theorem dX4_earliestSlot_28 : decode cX4_earliestSlot 28 = .ok (.getfield 10, 3) := by decide +kernel
theorem dX4_earliestSlot_31 : decode cX4_earliestSlot 31 = .ok (.aload_n 1, 1) := by decide +kernel
theorem dX4_earliestSlot_32 : decode cX4_earliestSlot 32 = .ok (.getfield 102, 3) := by decide +kernel
theorem dX4_earliestSlot_35 : decode cX4_earliestSlot 35 = .ok (.iload 4, 2) := by decide +kernel
theorem dX4_earliestSlot_37 : decode cX4_earliestSlot 37 = .ok (.invokevirtual 157, 3) := by decide +kernel
theorem dX4_earliestSlot_40 : decode cX4_earliestSlot 40 = .ok (.istore 5, 2) := by decide +kernel
theorem dX4_earliestSlot_42 : decode cX4_earliestSlot 42 = .ok (.aload_n 0, 1) := by decide +kernel
theorem dX4_earliestSlot_43 : decode cX4_earliestSlot 43 = .ok (.aload_n 1, 1) := by decide +kernel
theorem dX4_earliestSlot_44 : decode cX4_earliestSlot 44 = .ok (.iload 5, 2) := by decide +kernel
theorem dX4_earliestSlot_46 : decode cX4_earliestSlot 46 = .ok (.invokevirtual 182, 3) := by decide +kernel
theorem dX4_earliestSlot_49 : decode cX4_earliestSlot 49 = .ok (.istore 5, 2) := by decide +kernel
theorem dX4_earliestSlot_51 : decode cX4_earliestSlot 51 = .ok (.aload_n 0, 1) := by decide +kernel
theorem dX4_earliestSlot_52 : decode cX4_earliestSlot 52 = .ok (.aload_n 1, 1) := by decide +kernel
theorem dX4_earliestSlot_53 : decode cX4_earliestSlot 53 = .ok (.iload 5, 2) := by decide +kernel
theorem dX4_earliestSlot_55 : decode cX4_earliestSlot 55 = .ok (.invokevirtual 189, 3) := by decide +kernel
theorem dX4_earliestSlot_58 : decode cX4_earliestSlot 58 = .ok (.istore 5, 2) := by decide +kernel
theorem dX4_earliestSlot_60 : decode cX4_earliestSlot 60 = .ok (.aload_n 0, 1) := by decide +kernel
theorem dX4_earliestSlot_61 : decode cX4_earliestSlot 61 = .ok (.aload_n 1, 1) := by decide +kernel
theorem dX4_earliestSlot_62 : decode cX4_earliestSlot 62 = .ok (.iload 5, 2) := by decide +kernel
theorem dX4_earliestSlot_64 : decode cX4_earliestSlot 64 = .ok (.invokevirtual 186, 3) := by decide +kernel
theorem dX4_earliestSlot_67 : decode cX4_earliestSlot 67 = .ok (.istore 5, 2) := by decide +kernel
theorem dX4_earliestSlot_69 : decode cX4_earliestSlot 69 = .ok (.iload 5, 2) := by decide +kernel
theorem dX4_earliestSlot_71 : decode cX4_earliestSlot 71 = .ok (.iload 4, 2) := by decide +kernel
theorem dX4_earliestSlot_73 : decode cX4_earliestSlot 73 = .ok (.if_icmp .ne 6, 3) := by decide +kernel
theorem dX4_earliestSlot_76 : decode cX4_earliestSlot 76 = .ok (.iload 4, 2) := by decide +kernel
theorem dX4_earliestSlot_78 : decode cX4_earliestSlot 78 = .ok (.ireturn, 1) := by decide +kernel
theorem dX4_earliestSlot_79 : decode cX4_earliestSlot 79 = .ok (.iload 4, 2) := by decide +kernel
theorem dX4_earliestSlot_81 : decode cX4_earliestSlot 81 = .ok (.iconst 1, 1) := by decide +kernel
theorem dX4_earliestSlot_82 : decode cX4_earliestSlot 82 = .ok (.iadd, 1) := by decide +kernel
theorem dX4_earliestSlot_83 : decode cX4_earliestSlot 83 = .ok (.iload 5, 2) := by decide +kernel
theorem dX4_earliestSlot_85 : decode cX4_earliestSlot 85 = .ok (.invokestatic 161, 3) := by decide +kernel
theorem dX4_earliestSlot_88 : decode cX4_earliestSlot 88 = .ok (.istore 4, 2) := by decide +kernel
theorem dX4_earliestSlot_90 : decode cX4_earliestSlot 90 = .ok (.goto (-69), 3) := by decide +kernel
theorem dX4_earliestSlot_93 : decode cX4_earliestSlot 93 = .ok (.iconst (-1), 1) := by decide +kernel
theorem dX4_earliestSlot_94 : decode cX4_earliestSlot 94 = .ok (.ireturn, 1) := by decide +kernel
theorem dX4_pastRests_0 : decode cX4_pastRests 0 = .ok (.iload_n 2, 1) := by decide +kernel
theorem dX4_pastRests_1 : decode cX4_pastRests 1 = .ok (.istore_n 3, 1) := by decide +kernel
theorem dX4_pastRests_2 : decode cX4_pastRests 2 = .ok (.iconst 0, 1) := by decide +kernel
theorem dX4_pastRests_3 : decode cX4_pastRests 3 = .ok (.istore 4, 2) := by decide +kernel
theorem dX4_pastRests_5 : decode cX4_pastRests 5 = .ok (.iload 4, 2) := by decide +kernel
theorem dX4_pastRests_7 : decode cX4_pastRests 7 = .ok (.aload_n 0, 1) := by decide +kernel
theorem dX4_pastRests_8 : decode cX4_pastRests 8 = .ok (.getfield 26, 3) := by decide +kernel
theorem dX4_pastRests_11 : decode cX4_pastRests 11 = .ok (.invokevirtual 43, 3) := by decide +kernel
theorem dX4_pastRests_14 : decode cX4_pastRests 14 = .ok (.if_icmp .ge 96, 3) := by decide +kernel
theorem dX4_pastRests_17 : decode cX4_pastRests 17 = .ok (.aload_n 0, 1) := by decide +kernel
theorem dX4_pastRests_18 : decode cX4_pastRests 18 = .ok (.getfield 26, 3) := by decide +kernel
theorem dX4_pastRests_21 : decode cX4_pastRests 21 = .ok (.iload 4, 2) := by decide +kernel
theorem dX4_pastRests_23 : decode cX4_pastRests 23 = .ok (.invokevirtual 145, 3) := by decide +kernel
theorem dX4_pastRests_26 : decode cX4_pastRests 26 = .ok (.checkcast 71, 3) := by decide +kernel
theorem dX4_pastRests_29 : decode cX4_pastRests 29 = .ok (.astore 5, 2) := by decide +kernel
theorem dX4_pastRests_31 : decode cX4_pastRests 31 = .ok (.aload 5, 2) := by decide +kernel
theorem dX4_pastRests_33 : decode cX4_pastRests 33 = .ok (.aload_n 1, 1) := by decide +kernel
theorem dX4_pastRests_34 : decode cX4_pastRests 34 = .ok (.if_acmp .eq 70, 3) := by decide +kernel
theorem dX4_pastRests_37 : decode cX4_pastRests 37 = .ok (.aload 5, 2) := by decide +kernel
theorem dX4_pastRests_39 : decode cX4_pastRests 39 = .ok (.getfield 122, 3) := by decide +kernel
theorem dX4_pastRests_42 : decode cX4_pastRests 42 = .ok (.iconst (-1), 1) := by decide +kernel
theorem dX4_pastRests_43 : decode cX4_pastRests 43 = .ok (.if_icmp .eq 61, 3) := by decide +kernel
theorem dX4_pastRests_46 : decode cX4_pastRests 46 = .ok (.aload 5, 2) := by decide +kernel
theorem dX4_pastRests_48 : decode cX4_pastRests 48 = .ok (.getfield 167, 3) := by decide +kernel
theorem dX4_pastRests_51 : decode cX4_pastRests 51 = .ok (.aload_n 1, 1) := by decide +kernel
theorem dX4_pastRests_52 : decode cX4_pastRests 52 = .ok (.getfield 167, 3) := by decide +kernel
theorem dX4_pastRests_55 : decode cX4_pastRests 55 = .ok (.if_acmp .ne 49, 3) := by decide +kernel
theorem dX4_pastRests_58 : decode cX4_pastRests 58 = .ok (.aload 5, 2) := by decide +kernel
theorem dX4_pastRests_60 : decode cX4_pastRests 60 = .ok (.getfield 122, 3) := by decide +kernel
theorem dX4_pastRests_63 : decode cX4_pastRests 63 = .ok (.aload 5, 2) := by decide +kernel
theorem dX4_pastRests_65 : decode cX4_pastRests 65 = .ok (.getfield 102, 3) := by decide +kernel
theorem dX4_pastRests_68 : decode cX4_pastRests 68 = .ok (.invokevirtual 244, 3) := by decide +kernel
theorem dX4_pastRests_71 : decode cX4_pastRests 71 = .ok (.iadd, 1) := by decide +kernel
theorem dX4_pastRests_72 : decode cX4_pastRests 72 = .ok (.istore 6, 2) := by decide +kernel
theorem dX4_pastRests_74 : decode cX4_pastRests 74 = .ok (.iload_n 2, 1) := by decide +kernel
theorem dX4_pastRests_75 : decode cX4_pastRests 75 = .ok (.iload 6, 2) := by decide +kernel
theorem dX4_pastRests_77 : decode cX4_pastRests 77 = .ok (.if_icmp .ge 27, 3) := by decide +kernel
theorem dX4_pastRests_80 : decode cX4_pastRests 80 = .ok (.aload 5, 2) := by decide +kernel
theorem dX4_pastRests_82 : decode cX4_pastRests 82 = .ok (.getfield 122, 3) := by decide +kernel
theorem dX4_pastRests_85 : decode cX4_pastRests 85 = .ok (.iload_n 2, 1) := by decide +kernel
theorem dX4_pastRests_86 : decode cX4_pastRests 86 = .ok (.aload_n 1, 1) := by decide +kernel
theorem dX4_pastRests_87 : decode cX4_pastRests 87 = .ok (.getfield 102, 3) := by decide +kernel
theorem dX4_pastRests_90 : decode cX4_pastRests 90 = .ok (.invokevirtual 244, 3) := by decide +kernel
theorem dX4_pastRests_93 : decode cX4_pastRests 93 = .ok (.iadd, 1) := by decide +kernel
theorem dX4_pastRests_94 : decode cX4_pastRests 94 = .ok (.if_icmp .ge 10, 3) := by decide +kernel
theorem dX4_pastRests_97 : decode cX4_pastRests 97 = .ok (.iload_n 3, 1) := by decide +kernel
theorem dX4_pastRests_98 : decode cX4_pastRests 98 = .ok (.iload 6, 2) := by decide +kernel
theorem dX4_pastRests_100 : decode cX4_pastRests 100 = .ok (.invokestatic 161, 3) := by decide +kernel
theorem dX4_pastRests_103 : decode cX4_pastRests 103 = .ok (.istore_n 3, 1) := by decide +kernel
theorem dX4_pastRests_104 : decode cX4_pastRests 104 = .ok (.iinc 4 1, 3) := by decide +kernel
theorem dX4_pastRests_107 : decode cX4_pastRests 107 = .ok (.goto (-102), 3) := by decide +kernel
theorem dX4_pastRests_110 : decode cX4_pastRests 110 = .ok (.iload_n 3, 1) := by decide +kernel
theorem dX4_pastRests_111 : decode cX4_pastRests 111 = .ok (.ireturn, 1) := by decide +kernel
theorem dX4_pastTugs_0 : decode cX4_pastTugs 0 = .ok (.iload_n 2, 1) := by decide +kernel
theorem dX4_pastTugs_1 : decode cX4_pastTugs 1 = .ok (.aload_n 1, 1) := by decide +kernel
theorem dX4_pastTugs_2 : decode cX4_pastTugs 2 = .ok (.getfield 102, 3) := by decide +kernel
theorem dX4_pastTugs_5 : decode cX4_pastTugs 5 = .ok (.getfield 247, 3) := by decide +kernel
theorem dX4_pastTugs_8 : decode cX4_pastTugs 8 = .ok (.iadd, 1) := by decide +kernel
theorem dX4_pastTugs_9 : decode cX4_pastTugs 9 = .ok (.iconst 1, 1) := by decide +kernel
theorem dX4_pastTugs_10 : decode cX4_pastTugs 10 = .ok (.isub, 1) := by decide +kernel
theorem dX4_pastTugs_11 : decode cX4_pastTugs 11 = .ok (.istore_n 3, 1) := by decide +kernel
theorem dX4_pastTugs_12 : decode cX4_pastTugs 12 = .ok (.aload_n 0, 1) := by decide +kernel
theorem dX4_pastTugs_13 : decode cX4_pastTugs 13 = .ok (.getfield 29, 3) := by decide +kernel
theorem dX4_pastTugs_16 : decode cX4_pastTugs 16 = .ok (.aload_n 1, 1) := by decide +kernel
theorem dX4_pastTugs_17 : decode cX4_pastTugs 17 = .ok (.getfield 102, 3) := by decide +kernel
theorem dX4_pastTugs_20 : decode cX4_pastTugs 20 = .ok (.getfield 250, 3) := by decide +kernel
theorem dX4_pastTugs_23 : decode cX4_pastTugs 23 = .ok (.isub, 1) := by decide +kernel
theorem dX4_pastTugs_24 : decode cX4_pastTugs 24 = .ok (.istore 4, 2) := by decide +kernel
theorem dX4_pastTugs_26 : decode cX4_pastTugs 26 = .ok (.aload_n 0, 1) := by decide +kernel
theorem dX4_pastTugs_27 : decode cX4_pastTugs 27 = .ok (.aload_n 1, 1) := by decide +kernel
theorem dX4_pastTugs_28 : decode cX4_pastTugs 28 = .ok (.iload_n 2, 1) := by decide +kernel
theorem dX4_pastTugs_29 : decode cX4_pastTugs 29 = .ok (.iload_n 3, 1) := by decide +kernel
theorem dX4_pastTugs_30 : decode cX4_pastTugs 30 = .ok (.invokevirtual 212, 3) := by decide +kernel
theorem dX4_pastTugs_33 : decode cX4_pastTugs 33 = .ok (.iload 4, 2) := by decide +kernel
theorem dX4_pastTugs_35 : decode cX4_pastTugs 35 = .ok (.if_icmp .gt 5, 3) := by decide +kernel
theorem dX4_pastTugs_38 : decode cX4_pastTugs 38 = .ok (.iload_n 2, 1) := by decide +kernel
theorem dX4_pastTugs_39 : decode cX4_pastTugs 39 = .ok (.ireturn, 1) := by decide +kernel
theorem dX4_pastTugs_40 : decode cX4_pastTugs 40 = .ok (.iload_n 3, 1) := by decide +kernel
theorem dX4_pastTugs_41 : decode cX4_pastTugs 41 = .ok (.istore 5, 2) := by decide +kernel
theorem dX4_pastTugs_43 : decode cX4_pastTugs 43 = .ok (.iload 5, 2) := by decide +kernel
theorem dX4_pastTugs_45 : decode cX4_pastTugs 45 = .ok (.iload_n 2, 1) := by decide +kernel
theorem dX4_pastTugs_46 : decode cX4_pastTugs 46 = .ok (.if_icmp .lt 28, 3) := by decide +kernel
theorem dX4_pastTugs_49 : decode cX4_pastTugs 49 = .ok (.aload_n 0, 1) := by decide +kernel
theorem dX4_pastTugs_50 : decode cX4_pastTugs 50 = .ok (.aload_n 1, 1) := by decide +kernel
theorem dX4_pastTugs_51 : decode cX4_pastTugs 51 = .ok (.iload 5, 2) := by decide +kernel
theorem dX4_pastTugs_53 : decode cX4_pastTugs 53 = .ok (.iload 5, 2) := by decide +kernel
theorem dX4_pastTugs_55 : decode cX4_pastTugs 55 = .ok (.invokevirtual 212, 3) := by decide +kernel
theorem dX4_pastTugs_58 : decode cX4_pastTugs 58 = .ok (.iload 4, 2) := by decide +kernel
theorem dX4_pastTugs_60 : decode cX4_pastTugs 60 = .ok (.if_icmp .le 8, 3) := by decide +kernel
theorem dX4_pastTugs_63 : decode cX4_pastTugs 63 = .ok (.iload 5, 2) := by decide +kernel
theorem dX4_pastTugs_65 : decode cX4_pastTugs 65 = .ok (.iconst 1, 1) := by decide +kernel
theorem dX4_pastTugs_66 : decode cX4_pastTugs 66 = .ok (.iadd, 1) := by decide +kernel
theorem dX4_pastTugs_67 : decode cX4_pastTugs 67 = .ok (.ireturn, 1) := by decide +kernel
theorem dX4_pastTugs_68 : decode cX4_pastTugs 68 = .ok (.iinc 5 (-1), 3) := by decide +kernel
theorem dX4_pastTugs_71 : decode cX4_pastTugs 71 = .ok (.goto (-28), 3) := by decide +kernel
theorem dX4_pastTugs_74 : decode cX4_pastTugs 74 = .ok (.iload_n 2, 1) := by decide +kernel
theorem dX4_pastTugs_75 : decode cX4_pastTugs 75 = .ok (.ireturn, 1) := by decide +kernel
theorem dX4_pastChannel_0 : decode cX4_pastChannel 0 = .ok (.iload_n 2, 1) := by decide +kernel
theorem dX4_pastChannel_1 : decode cX4_pastChannel 1 = .ok (.istore_n 3, 1) := by decide +kernel
theorem dX4_pastChannel_2 : decode cX4_pastChannel 2 = .ok (.iconst 0, 1) := by decide +kernel
theorem dX4_pastChannel_3 : decode cX4_pastChannel 3 = .ok (.istore 4, 2) := by decide +kernel
theorem dX4_pastChannel_5 : decode cX4_pastChannel 5 = .ok (.iload 4, 2) := by decide +kernel
theorem dX4_pastChannel_7 : decode cX4_pastChannel 7 = .ok (.aload_n 0, 1) := by decide +kernel
theorem dX4_pastChannel_8 : decode cX4_pastChannel 8 = .ok (.getfield 26, 3) := by decide +kernel
theorem dX4_pastChannel_11 : decode cX4_pastChannel 11 = .ok (.invokevirtual 43, 3) := by decide +kernel
theorem dX4_pastChannel_14 : decode cX4_pastChannel 14 = .ok (.if_icmp .ge 66, 3) := by decide +kernel
theorem dX4_pastChannel_17 : decode cX4_pastChannel 17 = .ok (.aload_n 0, 1) := by decide +kernel
theorem dX4_pastChannel_18 : decode cX4_pastChannel 18 = .ok (.getfield 26, 3) := by decide +kernel
theorem dX4_pastChannel_21 : decode cX4_pastChannel 21 = .ok (.iload 4, 2) := by decide +kernel
theorem dX4_pastChannel_23 : decode cX4_pastChannel 23 = .ok (.invokevirtual 145, 3) := by decide +kernel
theorem dX4_pastChannel_26 : decode cX4_pastChannel 26 = .ok (.checkcast 71, 3) := by decide +kernel
theorem dX4_pastChannel_29 : decode cX4_pastChannel 29 = .ok (.astore 5, 2) := by decide +kernel
theorem dX4_pastChannel_31 : decode cX4_pastChannel 31 = .ok (.aload 5, 2) := by decide +kernel
theorem dX4_pastChannel_33 : decode cX4_pastChannel 33 = .ok (.aload_n 1, 1) := by decide +kernel
theorem dX4_pastChannel_34 : decode cX4_pastChannel 34 = .ok (.if_acmp .eq 40, 3) := by decide +kernel
theorem dX4_pastChannel_37 : decode cX4_pastChannel 37 = .ok (.aload 5, 2) := by decide +kernel
theorem dX4_pastChannel_39 : decode cX4_pastChannel 39 = .ok (.getfield 122, 3) := by decide +kernel
theorem dX4_pastChannel_42 : decode cX4_pastChannel 42 = .ok (.iconst (-1), 1) := by decide +kernel
theorem dX4_pastChannel_43 : decode cX4_pastChannel 43 = .ok (.if_icmp .eq 31, 3) := by decide +kernel
theorem dX4_pastChannel_46 : decode cX4_pastChannel 46 = .ok (.aload 5, 2) := by decide +kernel
theorem dX4_pastChannel_48 : decode cX4_pastChannel 48 = .ok (.getfield 122, 3) := by decide +kernel
theorem dX4_pastChannel_51 : decode cX4_pastChannel 51 = .ok (.iload_n 2, 1) := by decide +kernel
theorem dX4_pastChannel_52 : decode cX4_pastChannel 52 = .ok (.isub, 1) := by decide +kernel
theorem dX4_pastChannel_53 : decode cX4_pastChannel 53 = .ok (.invokestatic 251, 3) := by decide +kernel
theorem dX4_pastChannel_56 : decode cX4_pastChannel 56 = .ok (.bipush 15, 2) := by decide +kernel
theorem dX4_pastChannel_58 : decode cX4_pastChannel 58 = .ok (.if_icmp .ge 16, 3) := by decide +kernel
theorem dX4_pastChannel_61 : decode cX4_pastChannel 61 = .ok (.iload_n 3, 1) := by decide +kernel
theorem dX4_pastChannel_62 : decode cX4_pastChannel 62 = .ok (.aload 5, 2) := by decide +kernel
theorem dX4_pastChannel_64 : decode cX4_pastChannel 64 = .ok (.getfield 122, 3) := by decide +kernel
theorem dX4_pastChannel_67 : decode cX4_pastChannel 67 = .ok (.bipush 15, 2) := by decide +kernel
theorem dX4_pastChannel_69 : decode cX4_pastChannel 69 = .ok (.iadd, 1) := by decide +kernel
theorem dX4_pastChannel_70 : decode cX4_pastChannel 70 = .ok (.invokestatic 161, 3) := by decide +kernel
theorem dX4_pastChannel_73 : decode cX4_pastChannel 73 = .ok (.istore_n 3, 1) := by decide +kernel
theorem dX4_pastChannel_74 : decode cX4_pastChannel 74 = .ok (.iinc 4 1, 3) := by decide +kernel
theorem dX4_pastChannel_77 : decode cX4_pastChannel 77 = .ok (.goto (-72), 3) := by decide +kernel
theorem dX4_pastChannel_80 : decode cX4_pastChannel 80 = .ok (.iload_n 3, 1) := by decide +kernel
theorem dX4_pastChannel_81 : decode cX4_pastChannel 81 = .ok (.ireturn, 1) := by decide +kernel
theorem dX4_tugsOfOthers_0 : decode cX4_tugsOfOthers 0 = .ok (.iconst 0, 1) := by decide +kernel
theorem dX4_tugsOfOthers_1 : decode cX4_tugsOfOthers 1 = .ok (.istore 4, 2) := by decide +kernel
theorem dX4_tugsOfOthers_3 : decode cX4_tugsOfOthers 3 = .ok (.iconst 0, 1) := by decide +kernel
theorem dX4_tugsOfOthers_4 : decode cX4_tugsOfOthers 4 = .ok (.istore 5, 2) := by decide +kernel
theorem dX4_tugsOfOthers_6 : decode cX4_tugsOfOthers 6 = .ok (.iload 5, 2) := by decide +kernel
theorem dX4_tugsOfOthers_8 : decode cX4_tugsOfOthers 8 = .ok (.aload_n 0, 1) := by decide +kernel
theorem dX4_tugsOfOthers_9 : decode cX4_tugsOfOthers 9 = .ok (.getfield 26, 3) := by decide +kernel
theorem dX4_tugsOfOthers_12 : decode cX4_tugsOfOthers 12 = .ok (.invokevirtual 43, 3) := by decide +kernel
theorem dX4_tugsOfOthers_15 : decode cX4_tugsOfOthers 15 = .ok (.if_icmp .ge 78, 3) := by decide +kernel
theorem dX4_tugsOfOthers_18 : decode cX4_tugsOfOthers 18 = .ok (.aload_n 0, 1) := by decide +kernel
theorem dX4_tugsOfOthers_19 : decode cX4_tugsOfOthers 19 = .ok (.getfield 26, 3) := by decide +kernel
theorem dX4_tugsOfOthers_22 : decode cX4_tugsOfOthers 22 = .ok (.iload 5, 2) := by decide +kernel
theorem dX4_tugsOfOthers_24 : decode cX4_tugsOfOthers 24 = .ok (.invokevirtual 145, 3) := by decide +kernel
theorem dX4_tugsOfOthers_27 : decode cX4_tugsOfOthers 27 = .ok (.checkcast 71, 3) := by decide +kernel
theorem dX4_tugsOfOthers_30 : decode cX4_tugsOfOthers 30 = .ok (.astore 6, 2) := by decide +kernel
theorem dX4_tugsOfOthers_32 : decode cX4_tugsOfOthers 32 = .ok (.aload 6, 2) := by decide +kernel
theorem dX4_tugsOfOthers_34 : decode cX4_tugsOfOthers 34 = .ok (.aload_n 1, 1) := by decide +kernel
theorem dX4_tugsOfOthers_35 : decode cX4_tugsOfOthers 35 = .ok (.if_acmp .eq 52, 3) := by decide +kernel
theorem dX4_tugsOfOthers_38 : decode cX4_tugsOfOthers 38 = .ok (.aload 6, 2) := by decide +kernel
theorem dX4_tugsOfOthers_40 : decode cX4_tugsOfOthers 40 = .ok (.getfield 122, 3) := by decide +kernel
theorem dX4_tugsOfOthers_43 : decode cX4_tugsOfOthers 43 = .ok (.iconst (-1), 1) := by decide +kernel
theorem dX4_tugsOfOthers_44 : decode cX4_tugsOfOthers 44 = .ok (.if_icmp .eq 43, 3) := by decide +kernel
theorem dX4_tugsOfOthers_47 : decode cX4_tugsOfOthers 47 = .ok (.aload 6, 2) := by decide +kernel
theorem dX4_tugsOfOthers_49 : decode cX4_tugsOfOthers 49 = .ok (.getfield 122, 3) := by decide +kernel
theorem dX4_tugsOfOthers_52 : decode cX4_tugsOfOthers 52 = .ok (.iload_n 3, 1) := by decide +kernel
theorem dX4_tugsOfOthers_53 : decode cX4_tugsOfOthers 53 = .ok (.if_icmp .gt 34, 3) := by decide +kernel
theorem dX4_tugsOfOthers_56 : decode cX4_tugsOfOthers 56 = .ok (.aload 6, 2) := by decide +kernel
theorem dX4_tugsOfOthers_58 : decode cX4_tugsOfOthers 58 = .ok (.getfield 122, 3) := by decide +kernel
theorem dX4_tugsOfOthers_61 : decode cX4_tugsOfOthers 61 = .ok (.aload 6, 2) := by decide +kernel
theorem dX4_tugsOfOthers_63 : decode cX4_tugsOfOthers 63 = .ok (.getfield 102, 3) := by decide +kernel
theorem dX4_tugsOfOthers_66 : decode cX4_tugsOfOthers 66 = .ok (.getfield 247, 3) := by decide +kernel
theorem dX4_tugsOfOthers_69 : decode cX4_tugsOfOthers 69 = .ok (.iadd, 1) := by decide +kernel
theorem dX4_tugsOfOthers_70 : decode cX4_tugsOfOthers 70 = .ok (.iload_n 2, 1) := by decide +kernel
theorem dX4_tugsOfOthers_71 : decode cX4_tugsOfOthers 71 = .ok (.if_icmp .le 16, 3) := by decide +kernel
theorem dX4_tugsOfOthers_74 : decode cX4_tugsOfOthers 74 = .ok (.iload 4, 2) := by decide +kernel
theorem dX4_tugsOfOthers_76 : decode cX4_tugsOfOthers 76 = .ok (.aload 6, 2) := by decide +kernel
theorem dX4_tugsOfOthers_78 : decode cX4_tugsOfOthers 78 = .ok (.getfield 102, 3) := by decide +kernel
theorem dX4_tugsOfOthers_81 : decode cX4_tugsOfOthers 81 = .ok (.getfield 250, 3) := by decide +kernel
theorem dX4_tugsOfOthers_84 : decode cX4_tugsOfOthers 84 = .ok (.iadd, 1) := by decide +kernel
theorem dX4_tugsOfOthers_85 : decode cX4_tugsOfOthers 85 = .ok (.istore 4, 2) := by decide +kernel
theorem dX4_tugsOfOthers_87 : decode cX4_tugsOfOthers 87 = .ok (.iinc 5 1, 3) := by decide +kernel
theorem dX4_tugsOfOthers_90 : decode cX4_tugsOfOthers 90 = .ok (.goto (-84), 3) := by decide +kernel
theorem dX4_tugsOfOthers_93 : decode cX4_tugsOfOthers 93 = .ok (.iload 4, 2) := by decide +kernel
theorem dX4_tugsOfOthers_95 : decode cX4_tugsOfOthers 95 = .ok (.ireturn, 1) := by decide +kernel
theorem dX4_becomesDone_0 : decode cX4_becomesDone 0 = .ok (.aload_n 1, 1) := by decide +kernel
theorem dX4_becomesDone_1 : decode cX4_becomesDone 1 = .ok (.getfield 125, 3) := by decide +kernel
theorem dX4_becomesDone_4 : decode cX4_becomesDone 4 = .ok (.iconst 2, 1) := by decide +kernel
theorem dX4_becomesDone_5 : decode cX4_becomesDone 5 = .ok (.if_icmp .ne 19, 3) := by decide +kernel
theorem dX4_becomesDone_8 : decode cX4_becomesDone 8 = .ok (.aload_n 1, 1) := by decide +kernel
theorem dX4_becomesDone_9 : decode cX4_becomesDone 9 = .ok (.getfield 122, 3) := by decide +kernel
theorem dX4_becomesDone_12 : decode cX4_becomesDone 12 = .ok (.aload_n 0, 1) := by decide +kernel
theorem dX4_becomesDone_13 : decode cX4_becomesDone 13 = .ok (.getfield 68, 3) := by decide +kernel
theorem dX4_becomesDone_16 : decode cX4_becomesDone 16 = .ok (.if_icmp .gt 8, 3) := by decide +kernel
theorem dX4_becomesDone_19 : decode cX4_becomesDone 19 = .ok (.aload_n 1, 1) := by decide +kernel
theorem dX4_becomesDone_20 : decode cX4_becomesDone 20 = .ok (.iconst 3, 1) := by decide +kernel
theorem dX4_becomesDone_21 : decode cX4_becomesDone 21 = .ok (.putfield 125, 3) := by decide +kernel
theorem dX4_becomesDone_24 : decode cX4_becomesDone 24 = .ok (.aload_n 1, 1) := by decide +kernel
theorem dX4_becomesDone_25 : decode cX4_becomesDone 25 = .ok (.getfield 167, 3) := by decide +kernel
theorem dX4_becomesDone_28 : decode cX4_becomesDone 28 = .ok (.astore_n 2, 1) := by decide +kernel
theorem dX4_becomesDone_29 : decode cX4_becomesDone 29 = .ok (.aload_n 1, 1) := by decide +kernel
theorem dX4_becomesDone_30 : decode cX4_becomesDone 30 = .ok (.getfield 125, 3) := by decide +kernel
theorem dX4_becomesDone_33 : decode cX4_becomesDone 33 = .ok (.iconst 3, 1) := by decide +kernel
theorem dX4_becomesDone_34 : decode cX4_becomesDone 34 = .ok (.if_icmp .ne 26, 3) := by decide +kernel
theorem dX4_becomesDone_37 : decode cX4_becomesDone 37 = .ok (.aload_n 2, 1) := by decide +kernel
theorem dX4_becomesDone_38 : decode cX4_becomesDone 38 = .ok (.ifnull 22, 3) := by decide +kernel
theorem dX4_becomesDone_41 : decode cX4_becomesDone 41 = .ok (.aload_n 1, 1) := by decide +kernel
theorem dX4_becomesDone_42 : decode cX4_becomesDone 42 = .ok (.getfield 122, 3) := by decide +kernel
theorem dX4_becomesDone_45 : decode cX4_becomesDone 45 = .ok (.aload_n 1, 1) := by decide +kernel
theorem dX4_becomesDone_46 : decode cX4_becomesDone 46 = .ok (.getfield 102, 3) := by decide +kernel
theorem dX4_becomesDone_49 : decode cX4_becomesDone 49 = .ok (.getfield 247, 3) := by decide +kernel
theorem dX4_becomesDone_52 : decode cX4_becomesDone 52 = .ok (.iadd, 1) := by decide +kernel
theorem dX4_becomesDone_53 : decode cX4_becomesDone 53 = .ok (.aload_n 0, 1) := by decide +kernel
theorem dX4_becomesDone_54 : decode cX4_becomesDone 54 = .ok (.getfield 68, 3) := by decide +kernel
theorem dX4_becomesDone_57 : decode cX4_becomesDone 57 = .ok (.if_icmp .le 5, 3) := by decide +kernel
theorem dX4_becomesDone_60 : decode cX4_becomesDone 60 = .ok (.iconst 0, 1) := by decide +kernel
theorem dX4_becomesDone_61 : decode cX4_becomesDone 61 = .ok (.ireturn, 1) := by decide +kernel
theorem dX4_becomesDone_62 : decode cX4_becomesDone 62 = .ok (.aload_n 1, 1) := by decide +kernel
theorem dX4_becomesDone_63 : decode cX4_becomesDone 63 = .ok (.iconst 4, 1) := by decide +kernel
theorem dX4_becomesDone_64 : decode cX4_becomesDone 64 = .ok (.putfield 125, 3) := by decide +kernel
theorem dX4_becomesDone_67 : decode cX4_becomesDone 67 = .ok (.aload_n 1, 1) := by decide +kernel
theorem dX4_becomesDone_68 : decode cX4_becomesDone 68 = .ok (.getfield 102, 3) := by decide +kernel
theorem dX4_becomesDone_71 : decode cX4_becomesDone 71 = .ok (.dup, 1) := by decide +kernel
theorem dX4_becomesDone_72 : decode cX4_becomesDone 72 = .ok (.getfield 196, 3) := by decide +kernel
theorem dX4_becomesDone_75 : decode cX4_becomesDone 75 = .ok (.aload_n 1, 1) := by decide +kernel
theorem dX4_becomesDone_76 : decode cX4_becomesDone 76 = .ok (.getfield 102, 3) := by decide +kernel
theorem dX4_becomesDone_79 : decode cX4_becomesDone 79 = .ok (.getfield 247, 3) := by decide +kernel
theorem dX4_becomesDone_82 : decode cX4_becomesDone 82 = .ok (.aload_n 2, 1) := by decide +kernel
theorem dX4_becomesDone_83 : decode cX4_becomesDone 83 = .ok (.getfield 209, 3) := by decide +kernel
theorem dX4_becomesDone_86 : decode cX4_becomesDone 86 = .ok (.imul, 1) := by decide +kernel
theorem dX4_becomesDone_87 : decode cX4_becomesDone 87 = .ok (.aload_n 1, 1) := by decide +kernel
theorem dX4_becomesDone_88 : decode cX4_becomesDone 88 = .ok (.getfield 102, 3) := by decide +kernel
theorem dX4_becomesDone_91 : decode cX4_becomesDone 91 = .ok (.getfield 250, 3) := by decide +kernel
theorem dX4_becomesDone_94 : decode cX4_becomesDone 94 = .ok (.bipush 100, 2) := by decide +kernel
theorem dX4_becomesDone_96 : decode cX4_becomesDone 96 = .ok (.imul, 1) := by decide +kernel
theorem dX4_becomesDone_97 : decode cX4_becomesDone 97 = .ok (.iadd, 1) := by decide +kernel
theorem dX4_becomesDone_98 : decode cX4_becomesDone 98 = .ok (.iadd, 1) := by decide +kernel
theorem dX4_becomesDone_99 : decode cX4_becomesDone 99 = .ok (.putfield 196, 3) := by decide +kernel
theorem dX4_becomesDone_102 : decode cX4_becomesDone 102 = .ok (.aload_n 2, 1) := by decide +kernel
theorem dX4_becomesDone_103 : decode cX4_becomesDone 103 = .ok (.dup, 1) := by decide +kernel
theorem dX4_becomesDone_104 : decode cX4_becomesDone 104 = .ok (.getfield 199, 3) := by decide +kernel
theorem dX4_becomesDone_107 : decode cX4_becomesDone 107 = .ok (.iconst 1, 1) := by decide +kernel
theorem dX4_becomesDone_108 : decode cX4_becomesDone 108 = .ok (.iadd, 1) := by decide +kernel
theorem dX4_becomesDone_109 : decode cX4_becomesDone 109 = .ok (.putfield 199, 3) := by decide +kernel
theorem dX4_becomesDone_112 : decode cX4_becomesDone 112 = .ok (.aload_n 2, 1) := by decide +kernel
theorem dX4_becomesDone_113 : decode cX4_becomesDone 113 = .ok (.dup, 1) := by decide +kernel
theorem dX4_becomesDone_114 : decode cX4_becomesDone 114 = .ok (.getfield 202, 3) := by decide +kernel
theorem dX4_becomesDone_117 : decode cX4_becomesDone 117 = .ok (.aload_n 1, 1) := by decide +kernel
theorem dX4_becomesDone_118 : decode cX4_becomesDone 118 = .ok (.getfield 102, 3) := by decide +kernel
theorem dX4_becomesDone_121 : decode cX4_becomesDone 121 = .ok (.getfield 247, 3) := by decide +kernel
theorem dX4_becomesDone_124 : decode cX4_becomesDone 124 = .ok (.iadd, 1) := by decide +kernel
theorem dX4_becomesDone_125 : decode cX4_becomesDone 125 = .ok (.putfield 202, 3) := by decide +kernel
theorem dX4_becomesDone_128 : decode cX4_becomesDone 128 = .ok (.iconst 1, 1) := by decide +kernel
theorem dX4_becomesDone_129 : decode cX4_becomesDone 129 = .ok (.ireturn, 1) := by decide +kernel
theorem dX4_restedBehindSlots_0 : decode cX4_restedBehindSlots 0 = .ok (.aload_n 0, 1) := by decide +kernel
theorem dX4_restedBehindSlots_1 : decode cX4_restedBehindSlots 1 = .ok (.getfield 68, 3) := by decide +kernel
theorem dX4_restedBehindSlots_4 : decode cX4_restedBehindSlots 4 = .ok (.istore_n 2, 1) := by decide +kernel
theorem dX4_restedBehindSlots_5 : decode cX4_restedBehindSlots 5 = .ok (.iconst 0, 1) := by decide +kernel
theorem dX4_restedBehindSlots_6 : decode cX4_restedBehindSlots 6 = .ok (.istore_n 3, 1) := by decide +kernel
theorem dX4_restedBehindSlots_7 : decode cX4_restedBehindSlots 7 = .ok (.iload_n 3, 1) := by decide +kernel
theorem dX4_restedBehindSlots_8 : decode cX4_restedBehindSlots 8 = .ok (.aload_n 0, 1) := by decide +kernel
theorem dX4_restedBehindSlots_9 : decode cX4_restedBehindSlots 9 = .ok (.getfield 26, 3) := by decide +kernel
theorem dX4_restedBehindSlots_12 : decode cX4_restedBehindSlots 12 = .ok (.invokevirtual 43, 3) := by decide +kernel
theorem dX4_restedBehindSlots_15 : decode cX4_restedBehindSlots 15 = .ok (.if_icmp .ge 59, 3) := by decide +kernel
theorem dX4_restedBehindSlots_18 : decode cX4_restedBehindSlots 18 = .ok (.aload_n 0, 1) := by decide +kernel
theorem dX4_restedBehindSlots_19 : decode cX4_restedBehindSlots 19 = .ok (.getfield 26, 3) := by decide +kernel
theorem dX4_restedBehindSlots_22 : decode cX4_restedBehindSlots 22 = .ok (.iload_n 3, 1) := by decide +kernel
theorem dX4_restedBehindSlots_23 : decode cX4_restedBehindSlots 23 = .ok (.invokevirtual 145, 3) := by decide +kernel
theorem dX4_restedBehindSlots_26 : decode cX4_restedBehindSlots 26 = .ok (.checkcast 71, 3) := by decide +kernel
theorem dX4_restedBehindSlots_29 : decode cX4_restedBehindSlots 29 = .ok (.astore 4, 2) := by decide +kernel
theorem dX4_restedBehindSlots_31 : decode cX4_restedBehindSlots 31 = .ok (.aload 4, 2) := by decide +kernel
theorem dX4_restedBehindSlots_33 : decode cX4_restedBehindSlots 33 = .ok (.getfield 167, 3) := by decide +kernel
theorem dX4_restedBehindSlots_36 : decode cX4_restedBehindSlots 36 = .ok (.aload_n 1, 1) := by decide +kernel
theorem dX4_restedBehindSlots_37 : decode cX4_restedBehindSlots 37 = .ok (.if_acmp .ne 31, 3) := by decide +kernel
theorem dX4_restedBehindSlots_40 : decode cX4_restedBehindSlots 40 = .ok (.aload 4, 2) := by decide +kernel
theorem dX4_restedBehindSlots_42 : decode cX4_restedBehindSlots 42 = .ok (.getfield 122, 3) := by decide +kernel
theorem dX4_restedBehindSlots_45 : decode cX4_restedBehindSlots 45 = .ok (.iconst (-1), 1) := by decide +kernel
theorem dX4_restedBehindSlots_46 : decode cX4_restedBehindSlots 46 = .ok (.if_icmp .eq 22, 3) := by decide +kernel
theorem dX4_restedBehindSlots_49 : decode cX4_restedBehindSlots 49 = .ok (.iload_n 2, 1) := by decide +kernel
theorem dX4_restedBehindSlots_50 : decode cX4_restedBehindSlots 50 = .ok (.aload 4, 2) := by decide +kernel
theorem dX4_restedBehindSlots_52 : decode cX4_restedBehindSlots 52 = .ok (.getfield 122, 3) := by decide +kernel
theorem dX4_restedBehindSlots_55 : decode cX4_restedBehindSlots 55 = .ok (.aload 4, 2) := by decide +kernel
theorem dX4_restedBehindSlots_57 : decode cX4_restedBehindSlots 57 = .ok (.getfield 102, 3) := by decide +kernel
theorem dX4_restedBehindSlots_60 : decode cX4_restedBehindSlots 60 = .ok (.invokevirtual 244, 3) := by decide +kernel
theorem dX4_restedBehindSlots_63 : decode cX4_restedBehindSlots 63 = .ok (.iadd, 1) := by decide +kernel
theorem dX4_restedBehindSlots_64 : decode cX4_restedBehindSlots 64 = .ok (.invokestatic 161, 3) := by decide +kernel
theorem dX4_restedBehindSlots_67 : decode cX4_restedBehindSlots 67 = .ok (.istore_n 2, 1) := by decide +kernel
theorem dX4_restedBehindSlots_68 : decode cX4_restedBehindSlots 68 = .ok (.iinc 3 1, 3) := by decide +kernel
theorem dX4_restedBehindSlots_71 : decode cX4_restedBehindSlots 71 = .ok (.goto (-64), 3) := by decide +kernel
theorem dX4_restedBehindSlots_74 : decode cX4_restedBehindSlots 74 = .ok (.iload_n 2, 1) := by decide +kernel
theorem dX4_restedBehindSlots_75 : decode cX4_restedBehindSlots 75 = .ok (.ireturn, 1) := by decide +kernel
theorem dX4_isAboard_0 : decode cX4_isAboard 0 = .ok (.iconst 0, 1) := by decide +kernel
theorem dX4_isAboard_1 : decode cX4_isAboard 1 = .ok (.istore_n 2, 1) := by decide +kernel
theorem dX4_isAboard_2 : decode cX4_isAboard 2 = .ok (.iload_n 2, 1) := by decide +kernel
theorem dX4_isAboard_3 : decode cX4_isAboard 3 = .ok (.aload_n 0, 1) := by decide +kernel
theorem dX4_isAboard_4 : decode cX4_isAboard 4 = .ok (.getfield 26, 3) := by decide +kernel
theorem dX4_isAboard_7 : decode cX4_isAboard 7 = .ok (.invokevirtual 43, 3) := by decide +kernel
theorem dX4_isAboard_10 : decode cX4_isAboard 10 = .ok (.if_icmp .ge 39, 3) := by decide +kernel
theorem dX4_isAboard_13 : decode cX4_isAboard 13 = .ok (.aload_n 0, 1) := by decide +kernel
theorem dX4_isAboard_14 : decode cX4_isAboard 14 = .ok (.getfield 26, 3) := by decide +kernel
theorem dX4_isAboard_17 : decode cX4_isAboard 17 = .ok (.iload_n 2, 1) := by decide +kernel
theorem dX4_isAboard_18 : decode cX4_isAboard 18 = .ok (.invokevirtual 145, 3) := by decide +kernel
theorem dX4_isAboard_21 : decode cX4_isAboard 21 = .ok (.checkcast 71, 3) := by decide +kernel
theorem dX4_isAboard_24 : decode cX4_isAboard 24 = .ok (.astore_n 3, 1) := by decide +kernel
theorem dX4_isAboard_25 : decode cX4_isAboard 25 = .ok (.aload_n 3, 1) := by decide +kernel
theorem dX4_isAboard_26 : decode cX4_isAboard 26 = .ok (.getfield 167, 3) := by decide +kernel
theorem dX4_isAboard_29 : decode cX4_isAboard 29 = .ok (.aload_n 1, 1) := by decide +kernel
theorem dX4_isAboard_30 : decode cX4_isAboard 30 = .ok (.if_acmp .ne 13, 3) := by decide +kernel
theorem dX4_isAboard_33 : decode cX4_isAboard 33 = .ok (.aload_n 3, 1) := by decide +kernel
theorem dX4_isAboard_34 : decode cX4_isAboard 34 = .ok (.getfield 125, 3) := by decide +kernel
theorem dX4_isAboard_37 : decode cX4_isAboard 37 = .ok (.iconst 3, 1) := by decide +kernel
theorem dX4_isAboard_38 : decode cX4_isAboard 38 = .ok (.if_icmp .ne 5, 3) := by decide +kernel
theorem dX4_isAboard_41 : decode cX4_isAboard 41 = .ok (.iconst 1, 1) := by decide +kernel
theorem dX4_isAboard_42 : decode cX4_isAboard 42 = .ok (.ireturn, 1) := by decide +kernel
theorem dX4_isAboard_43 : decode cX4_isAboard 43 = .ok (.iinc 2 1, 3) := by decide +kernel
theorem dX4_isAboard_46 : decode cX4_isAboard 46 = .ok (.goto (-44), 3) := by decide +kernel
theorem dX4_isAboard_49 : decode cX4_isAboard 49 = .ok (.iconst 0, 1) := by decide +kernel
theorem dX4_isAboard_50 : decode cX4_isAboard 50 = .ok (.ireturn, 1) := by decide +kernel
theorem dX4_howManyAre_0 : decode cX4_howManyAre 0 = .ok (.iconst 0, 1) := by decide +kernel
theorem dX4_howManyAre_1 : decode cX4_howManyAre 1 = .ok (.istore_n 2, 1) := by decide +kernel
theorem dX4_howManyAre_2 : decode cX4_howManyAre 2 = .ok (.iconst 0, 1) := by decide +kernel
theorem dX4_howManyAre_3 : decode cX4_howManyAre 3 = .ok (.istore_n 3, 1) := by decide +kernel
theorem dX4_howManyAre_4 : decode cX4_howManyAre 4 = .ok (.iload_n 3, 1) := by decide +kernel
theorem dX4_howManyAre_5 : decode cX4_howManyAre 5 = .ok (.aload_n 0, 1) := by decide +kernel
theorem dX4_howManyAre_6 : decode cX4_howManyAre 6 = .ok (.getfield 26, 3) := by decide +kernel
theorem dX4_howManyAre_9 : decode cX4_howManyAre 9 = .ok (.invokevirtual 43, 3) := by decide +kernel
theorem dX4_howManyAre_12 : decode cX4_howManyAre 12 = .ok (.if_icmp .ge 30, 3) := by decide +kernel
theorem dX4_howManyAre_15 : decode cX4_howManyAre 15 = .ok (.aload_n 0, 1) := by decide +kernel
theorem dX4_howManyAre_16 : decode cX4_howManyAre 16 = .ok (.getfield 26, 3) := by decide +kernel
theorem dX4_howManyAre_19 : decode cX4_howManyAre 19 = .ok (.iload_n 3, 1) := by decide +kernel
theorem dX4_howManyAre_20 : decode cX4_howManyAre 20 = .ok (.invokevirtual 145, 3) := by decide +kernel
theorem dX4_howManyAre_23 : decode cX4_howManyAre 23 = .ok (.checkcast 71, 3) := by decide +kernel
theorem dX4_howManyAre_26 : decode cX4_howManyAre 26 = .ok (.getfield 125, 3) := by decide +kernel
theorem dX4_howManyAre_29 : decode cX4_howManyAre 29 = .ok (.iload_n 1, 1) := by decide +kernel
theorem dX4_howManyAre_30 : decode cX4_howManyAre 30 = .ok (.if_icmp .ne 6, 3) := by decide +kernel
theorem dX4_howManyAre_33 : decode cX4_howManyAre 33 = .ok (.iinc 2 1, 3) := by decide +kernel
theorem dX4_howManyAre_36 : decode cX4_howManyAre 36 = .ok (.iinc 3 1, 3) := by decide +kernel
theorem dX4_howManyAre_39 : decode cX4_howManyAre 39 = .ok (.goto (-35), 3) := by decide +kernel
theorem dX4_howManyAre_42 : decode cX4_howManyAre 42 = .ok (.iload_n 2, 1) := by decide +kernel
theorem dX4_howManyAre_43 : decode cX4_howManyAre 43 = .ok (.ireturn, 1) := by decide +kernel
theorem dX4_allBills_0 : decode cX4_allBills 0 = .ok (.iconst 0, 1) := by decide +kernel
theorem dX4_allBills_1 : decode cX4_allBills 1 = .ok (.istore_n 1, 1) := by decide +kernel
theorem dX4_allBills_2 : decode cX4_allBills 2 = .ok (.iconst 0, 1) := by decide +kernel
theorem dX4_allBills_3 : decode cX4_allBills 3 = .ok (.istore_n 2, 1) := by decide +kernel
theorem dX4_allBills_4 : decode cX4_allBills 4 = .ok (.iload_n 2, 1) := by decide +kernel
theorem dX4_allBills_5 : decode cX4_allBills 5 = .ok (.aload_n 0, 1) := by decide +kernel
theorem dX4_allBills_6 : decode cX4_allBills 6 = .ok (.getfield 19, 3) := by decide +kernel
theorem dX4_allBills_9 : decode cX4_allBills 9 = .ok (.invokevirtual 43, 3) := by decide +kernel
theorem dX4_allBills_12 : decode cX4_allBills 12 = .ok (.if_icmp .ge 26, 3) := by decide +kernel
theorem dX4_allBills_15 : decode cX4_allBills 15 = .ok (.iload_n 1, 1) := by decide +kernel
theorem dX4_allBills_16 : decode cX4_allBills 16 = .ok (.aload_n 0, 1) := by decide +kernel
theorem dX4_allBills_17 : decode cX4_allBills 17 = .ok (.getfield 19, 3) := by decide +kernel
theorem dX4_allBills_20 : decode cX4_allBills 20 = .ok (.iload_n 2, 1) := by decide +kernel
theorem dX4_allBills_21 : decode cX4_allBills 21 = .ok (.invokevirtual 145, 3) := by decide +kernel
theorem dX4_allBills_24 : decode cX4_allBills 24 = .ok (.checkcast 51, 3) := by decide +kernel
theorem dX4_allBills_27 : decode cX4_allBills 27 = .ok (.getfield 196, 3) := by decide +kernel
theorem dX4_allBills_30 : decode cX4_allBills 30 = .ok (.iadd, 1) := by decide +kernel
theorem dX4_allBills_31 : decode cX4_allBills 31 = .ok (.istore_n 1, 1) := by decide +kernel
theorem dX4_allBills_32 : decode cX4_allBills 32 = .ok (.iinc 2 1, 3) := by decide +kernel
theorem dX4_allBills_35 : decode cX4_allBills 35 = .ok (.goto (-31), 3) := by decide +kernel
theorem dX4_allBills_38 : decode cX4_allBills 38 = .ok (.iload_n 1, 1) := by decide +kernel
theorem dX4_allBills_39 : decode cX4_allBills 39 = .ok (.ireturn, 1) := by decide +kernel
theorem dJ9_abs_0f7a4_0 : decode cJ9_abs_0f7a4 0 = .ok (.iload_n 0, 1) := by decide +kernel
theorem dJ9_abs_0f7a4_1 : decode cJ9_abs_0f7a4 1 = .ok (.ifCond .ge 8, 3) := by decide +kernel
theorem dJ9_abs_0f7a4_4 : decode cJ9_abs_0f7a4 4 = .ok (.iload_n 0, 1) := by decide +kernel
theorem dJ9_abs_0f7a4_5 : decode cJ9_abs_0f7a4 5 = .ok (.ineg, 1) := by decide +kernel
theorem dJ9_abs_0f7a4_6 : decode cJ9_abs_0f7a4 6 = .ok (.goto 4, 3) := by decide +kernel
theorem dJ9_abs_0f7a4_9 : decode cJ9_abs_0f7a4 9 = .ok (.iload_n 0, 1) := by decide +kernel
theorem dJ9_abs_0f7a4_10 : decode cJ9_abs_0f7a4 10 = .ok (.ireturn, 1) := by decide +kernel
theorem dJ9_max_7cf53_0 : decode cJ9_max_7cf53 0 = .ok (.iload_n 0, 1) := by decide +kernel
theorem dJ9_max_7cf53_1 : decode cJ9_max_7cf53 1 = .ok (.iload_n 1, 1) := by decide +kernel
theorem dJ9_max_7cf53_2 : decode cJ9_max_7cf53 2 = .ok (.if_icmp .lt 7, 3) := by decide +kernel
theorem dJ9_max_7cf53_5 : decode cJ9_max_7cf53 5 = .ok (.iload_n 0, 1) := by decide +kernel
theorem dJ9_max_7cf53_6 : decode cJ9_max_7cf53 6 = .ok (.goto 4, 3) := by decide +kernel
theorem dJ9_max_7cf53_9 : decode cJ9_max_7cf53 9 = .ok (.iload_n 1, 1) := by decide +kernel
theorem dJ9_max_7cf53_10 : decode cJ9_max_7cf53 10 = .ok (.ireturn, 1) := by decide +kernel
theorem dJ9_min_7cf53_0 : decode cJ9_min_7cf53 0 = .ok (.iload_n 0, 1) := by decide +kernel
theorem dJ9_min_7cf53_1 : decode cJ9_min_7cf53 1 = .ok (.iload_n 1, 1) := by decide +kernel
theorem dJ9_min_7cf53_2 : decode cJ9_min_7cf53 2 = .ok (.if_icmp .gt 7, 3) := by decide +kernel
theorem dJ9_min_7cf53_5 : decode cJ9_min_7cf53 5 = .ok (.iload_n 0, 1) := by decide +kernel
theorem dJ9_min_7cf53_6 : decode cJ9_min_7cf53 6 = .ok (.goto 4, 3) := by decide +kernel
theorem dJ9_min_7cf53_9 : decode cJ9_min_7cf53 9 = .ok (.iload_n 1, 1) := by decide +kernel
theorem dJ9_min_7cf53_10 : decode cJ9_min_7cf53 10 = .ok (.ireturn, 1) := by decide +kernel
theorem dJxa1e45_init_da8c8_0 : decode cJxa1e45_init_da8c8 0 = .ok (.aload_n 0, 1) := by decide +kernel
theorem dJxa1e45_init_da8c8_1 : decode cJxa1e45_init_da8c8 1 = .ok (.invokespecial 1, 3) := by decide +kernel
theorem dJxa1e45_init_da8c8_4 : decode cJxa1e45_init_da8c8 4 = .ok (.return_, 1) := by decide +kernel
theorem dJxc12de_init_da8c8_0 : decode cJxc12de_init_da8c8 0 = .ok (.aload_n 0, 1) := by decide +kernel
theorem dJxc12de_init_da8c8_1 : decode cJxc12de_init_da8c8 1 = .ok (.invokespecial 1, 3) := by decide +kernel
theorem dJxc12de_init_da8c8_4 : decode cJxc12de_init_da8c8 4 = .ok (.aload_n 0, 1) := by decide +kernel
theorem dJxc12de_init_da8c8_5 : decode cJxc12de_init_da8c8 5 = .ok (.iconst 0, 1) := by decide +kernel
theorem dJxc12de_init_da8c8_6 : decode cJxc12de_init_da8c8 6 = .ok (.putfield 7, 3) := by decide +kernel
theorem dJxc12de_init_da8c8_9 : decode cJxc12de_init_da8c8 9 = .ok (.return_, 1) := by decide +kernel
theorem dJx4a65c_init_da8c8_0 : decode cJx4a65c_init_da8c8 0 = .ok (.aload_n 0, 1) := by decide +kernel
theorem dJx4a65c_init_da8c8_1 : decode cJx4a65c_init_da8c8 1 = .ok (.invokespecial 1, 3) := by decide +kernel
theorem dJx4a65c_init_da8c8_4 : decode cJx4a65c_init_da8c8 4 = .ok (.aload_n 0, 1) := by decide +kernel
theorem dJx4a65c_init_da8c8_5 : decode cJx4a65c_init_da8c8 5 = .ok (.getstatic 39, 3) := by decide +kernel
theorem dJx4a65c_init_da8c8_8 : decode cJx4a65c_init_da8c8 8 = .ok (.putfield 9, 3) := by decide +kernel
theorem dJx4a65c_init_da8c8_11 : decode cJx4a65c_init_da8c8 11 = .ok (.return_, 1) := by decide +kernel
theorem dJx4a65c_grow_92f84_0 : decode cJx4a65c_grow_92f84 0 = .ok (.aload_n 0, 1) := by decide +kernel
theorem dJx4a65c_grow_92f84_1 : decode cJx4a65c_grow_92f84 1 = .ok (.getfield 9, 3) := by decide +kernel
theorem dJx4a65c_grow_92f84_4 : decode cJx4a65c_grow_92f84 4 = .ok (.arraylength, 1) := by decide +kernel
theorem dJx4a65c_grow_92f84_5 : decode cJx4a65c_grow_92f84 5 = .ok (.istore_n 2, 1) := by decide +kernel
theorem dJx4a65c_grow_92f84_6 : decode cJx4a65c_grow_92f84 6 = .ok (.iload_n 2, 1) := by decide +kernel
theorem dJx4a65c_grow_92f84_7 : decode cJx4a65c_grow_92f84 7 = .ok (.ifCond .gt 13, 3) := by decide +kernel
theorem dJx4a65c_grow_92f84_10 : decode cJx4a65c_grow_92f84 10 = .ok (.aload_n 0, 1) := by decide +kernel
theorem dJx4a65c_grow_92f84_11 : decode cJx4a65c_grow_92f84 11 = .ok (.getfield 9, 3) := by decide +kernel
theorem dJx4a65c_grow_92f84_14 : decode cJx4a65c_grow_92f84 14 = .ok (.getstatic 39, 3) := by decide +kernel
theorem dJx4a65c_grow_92f84_17 : decode cJx4a65c_grow_92f84 17 = .ok (.if_acmp .eq 28, 3) := by decide +kernel
theorem dJx4a65c_grow_92f84_20 : decode cJx4a65c_grow_92f84 20 = .ok (.iload_n 2, 1) := by decide +kernel
theorem dJx4a65c_grow_92f84_21 : decode cJx4a65c_grow_92f84 21 = .ok (.iload_n 1, 1) := by decide +kernel
theorem dJx4a65c_grow_92f84_22 : decode cJx4a65c_grow_92f84 22 = .ok (.iload_n 2, 1) := by decide +kernel
theorem dJx4a65c_grow_92f84_23 : decode cJx4a65c_grow_92f84 23 = .ok (.isub, 1) := by decide +kernel
theorem dJx4a65c_grow_92f84_24 : decode cJx4a65c_grow_92f84 24 = .ok (.iload_n 2, 1) := by decide +kernel
theorem dJx4a65c_grow_92f84_25 : decode cJx4a65c_grow_92f84 25 = .ok (.iconst 1, 1) := by decide +kernel
theorem dJx4a65c_grow_92f84_26 : decode cJx4a65c_grow_92f84 26 = .ok (.ishr, 1) := by decide +kernel
theorem dJx4a65c_grow_92f84_27 : decode cJx4a65c_grow_92f84 27 = .ok (.invokestatic 73, 3) := by decide +kernel
theorem dJx4a65c_grow_92f84_30 : decode cJx4a65c_grow_92f84 30 = .ok (.istore_n 3, 1) := by decide +kernel
theorem dJx4a65c_grow_92f84_31 : decode cJx4a65c_grow_92f84 31 = .ok (.aload_n 0, 1) := by decide +kernel
theorem dJx4a65c_grow_92f84_32 : decode cJx4a65c_grow_92f84 32 = .ok (.aload_n 0, 1) := by decide +kernel
theorem dJx4a65c_grow_92f84_33 : decode cJx4a65c_grow_92f84 33 = .ok (.getfield 9, 3) := by decide +kernel
theorem dJx4a65c_grow_92f84_36 : decode cJx4a65c_grow_92f84 36 = .ok (.iload_n 3, 1) := by decide +kernel
theorem dJx4a65c_grow_92f84_37 : decode cJx4a65c_grow_92f84 37 = .ok (.invokestatic 66, 3) := by decide +kernel
theorem dJx4a65c_grow_92f84_40 : decode cJx4a65c_grow_92f84 40 = .ok (.dup_x1, 1) := by decide +kernel
theorem dJx4a65c_grow_92f84_41 : decode cJx4a65c_grow_92f84 41 = .ok (.putfield 9, 3) := by decide +kernel
theorem dJx4a65c_grow_92f84_44 : decode cJx4a65c_grow_92f84 44 = .ok (.areturn, 1) := by decide +kernel
theorem dJx4a65c_grow_92f84_45 : decode cJx4a65c_grow_92f84 45 = .ok (.aload_n 0, 1) := by decide +kernel
theorem dJx4a65c_grow_92f84_46 : decode cJx4a65c_grow_92f84 46 = .ok (.bipush 10, 2) := by decide +kernel
theorem dJx4a65c_grow_92f84_48 : decode cJx4a65c_grow_92f84 48 = .ok (.iload_n 1, 1) := by decide +kernel
theorem dJx4a65c_grow_92f84_49 : decode cJx4a65c_grow_92f84 49 = .ok (.invokestatic 79, 3) := by decide +kernel
theorem dJx4a65c_grow_92f84_52 : decode cJx4a65c_grow_92f84 52 = .ok (.anewarray 7, 3) := by decide +kernel
theorem dJx4a65c_grow_92f84_55 : decode cJx4a65c_grow_92f84 55 = .ok (.dup_x1, 1) := by decide +kernel
theorem dJx4a65c_grow_92f84_56 : decode cJx4a65c_grow_92f84 56 = .ok (.putfield 9, 3) := by decide +kernel
theorem dJx4a65c_grow_92f84_59 : decode cJx4a65c_grow_92f84 59 = .ok (.areturn, 1) := by decide +kernel
theorem dJx4a65c_grow_d5877_0 : decode cJx4a65c_grow_d5877 0 = .ok (.aload_n 0, 1) := by decide +kernel
theorem dJx4a65c_grow_d5877_1 : decode cJx4a65c_grow_d5877 1 = .ok (.aload_n 0, 1) := by decide +kernel
theorem dJx4a65c_grow_d5877_2 : decode cJx4a65c_grow_d5877 2 = .ok (.getfield 48, 3) := by decide +kernel
theorem dJx4a65c_grow_d5877_5 : decode cJx4a65c_grow_d5877 5 = .ok (.iconst 1, 1) := by decide +kernel
theorem dJx4a65c_grow_d5877_6 : decode cJx4a65c_grow_d5877 6 = .ok (.iadd, 1) := by decide +kernel
theorem dJx4a65c_grow_d5877_7 : decode cJx4a65c_grow_d5877 7 = .ok (.invokevirtual 69, 3) := by decide +kernel
theorem dJx4a65c_grow_d5877_10 : decode cJx4a65c_grow_d5877 10 = .ok (.areturn, 1) := by decide +kernel
theorem dJx4a65c_size_8abf5_0 : decode cJx4a65c_size_8abf5 0 = .ok (.aload_n 0, 1) := by decide +kernel
theorem dJx4a65c_size_8abf5_1 : decode cJx4a65c_size_8abf5 1 = .ok (.getfield 48, 3) := by decide +kernel
theorem dJx4a65c_size_8abf5_4 : decode cJx4a65c_size_8abf5 4 = .ok (.ireturn, 1) := by decide +kernel
theorem dJx4a65c_elementData_915e3_0 : decode cJx4a65c_elementData_915e3 0 = .ok (.aload_n 0, 1) := by decide +kernel
theorem dJx4a65c_elementData_915e3_1 : decode cJx4a65c_elementData_915e3 1 = .ok (.getfield 9, 3) := by decide +kernel
theorem dJx4a65c_elementData_915e3_4 : decode cJx4a65c_elementData_915e3 4 = .ok (.iload_n 1, 1) := by decide +kernel
theorem dJx4a65c_elementData_915e3_5 : decode cJx4a65c_elementData_915e3 5 = .ok (.aaload, 1) := by decide +kernel
theorem dJx4a65c_elementData_915e3_6 : decode cJx4a65c_elementData_915e3 6 = .ok (.areturn, 1) := by decide +kernel
theorem dJx4a65c_get_915e3_0 : decode cJx4a65c_get_915e3 0 = .ok (.iload_n 1, 1) := by decide +kernel
theorem dJx4a65c_get_915e3_1 : decode cJx4a65c_get_915e3 1 = .ok (.aload_n 0, 1) := by decide +kernel
theorem dJx4a65c_get_915e3_2 : decode cJx4a65c_get_915e3 2 = .ok (.getfield 48, 3) := by decide +kernel
theorem dJx4a65c_get_915e3_5 : decode cJx4a65c_get_915e3 5 = .ok (.invokestatic 118, 3) := by decide +kernel
theorem dJx4a65c_get_915e3_8 : decode cJx4a65c_get_915e3 8 = .ok (.pop, 1) := by decide +kernel
theorem dJx4a65c_get_915e3_9 : decode cJx4a65c_get_915e3 9 = .ok (.aload_n 0, 1) := by decide +kernel
theorem dJx4a65c_get_915e3_10 : decode cJx4a65c_get_915e3 10 = .ok (.iload_n 1, 1) := by decide +kernel
theorem dJx4a65c_get_915e3_11 : decode cJx4a65c_get_915e3 11 = .ok (.invokevirtual 123, 3) := by decide +kernel
theorem dJx4a65c_get_915e3_14 : decode cJx4a65c_get_915e3 14 = .ok (.areturn, 1) := by decide +kernel
theorem dJx4a65c_add_72be8_0 : decode cJx4a65c_add_72be8 0 = .ok (.iload_n 3, 1) := by decide +kernel
theorem dJx4a65c_add_72be8_1 : decode cJx4a65c_add_72be8 1 = .ok (.aload_n 2, 1) := by decide +kernel
theorem dJx4a65c_add_72be8_2 : decode cJx4a65c_add_72be8 2 = .ok (.arraylength, 1) := by decide +kernel
theorem dJx4a65c_add_72be8_3 : decode cJx4a65c_add_72be8 3 = .ok (.if_icmp .ne 8, 3) := by decide +kernel
theorem dJx4a65c_add_72be8_6 : decode cJx4a65c_add_72be8 6 = .ok (.aload_n 0, 1) := by decide +kernel
theorem dJx4a65c_add_72be8_7 : decode cJx4a65c_add_72be8 7 = .ok (.invokevirtual 129, 3) := by decide +kernel
theorem dJx4a65c_add_72be8_10 : decode cJx4a65c_add_72be8 10 = .ok (.astore_n 2, 1) := by decide +kernel
theorem dJx4a65c_add_72be8_11 : decode cJx4a65c_add_72be8 11 = .ok (.aload_n 2, 1) := by decide +kernel
theorem dJx4a65c_add_72be8_12 : decode cJx4a65c_add_72be8 12 = .ok (.iload_n 3, 1) := by decide +kernel
theorem dJx4a65c_add_72be8_13 : decode cJx4a65c_add_72be8 13 = .ok (.aload_n 1, 1) := by decide +kernel
theorem dJx4a65c_add_72be8_14 : decode cJx4a65c_add_72be8 14 = .ok (.aastore, 1) := by decide +kernel
theorem dJx4a65c_add_72be8_15 : decode cJx4a65c_add_72be8 15 = .ok (.aload_n 0, 1) := by decide +kernel
theorem dJx4a65c_add_72be8_16 : decode cJx4a65c_add_72be8 16 = .ok (.iload_n 3, 1) := by decide +kernel
theorem dJx4a65c_add_72be8_17 : decode cJx4a65c_add_72be8 17 = .ok (.iconst 1, 1) := by decide +kernel
theorem dJx4a65c_add_72be8_18 : decode cJx4a65c_add_72be8 18 = .ok (.iadd, 1) := by decide +kernel
theorem dJx4a65c_add_72be8_19 : decode cJx4a65c_add_72be8 19 = .ok (.putfield 48, 3) := by decide +kernel
theorem dJx4a65c_add_72be8_22 : decode cJx4a65c_add_72be8 22 = .ok (.return_, 1) := by decide +kernel
theorem dJx4a65c_add_9ea2d_0 : decode cJx4a65c_add_9ea2d 0 = .ok (.aload_n 0, 1) := by decide +kernel
theorem dJx4a65c_add_9ea2d_1 : decode cJx4a65c_add_9ea2d 1 = .ok (.dup, 1) := by decide +kernel
theorem dJx4a65c_add_9ea2d_2 : decode cJx4a65c_add_9ea2d 2 = .ok (.getfield 63, 3) := by decide +kernel
theorem dJx4a65c_add_9ea2d_5 : decode cJx4a65c_add_9ea2d 5 = .ok (.iconst 1, 1) := by decide +kernel
theorem dJx4a65c_add_9ea2d_6 : decode cJx4a65c_add_9ea2d 6 = .ok (.iadd, 1) := by decide +kernel
theorem dJx4a65c_add_9ea2d_7 : decode cJx4a65c_add_9ea2d 7 = .ok (.putfield 63, 3) := by decide +kernel
theorem dJx4a65c_add_9ea2d_10 : decode cJx4a65c_add_9ea2d 10 = .ok (.aload_n 0, 1) := by decide +kernel
theorem dJx4a65c_add_9ea2d_11 : decode cJx4a65c_add_9ea2d 11 = .ok (.aload_n 1, 1) := by decide +kernel
theorem dJx4a65c_add_9ea2d_12 : decode cJx4a65c_add_9ea2d 12 = .ok (.aload_n 0, 1) := by decide +kernel
theorem dJx4a65c_add_9ea2d_13 : decode cJx4a65c_add_9ea2d 13 = .ok (.getfield 9, 3) := by decide +kernel
theorem dJx4a65c_add_9ea2d_16 : decode cJx4a65c_add_9ea2d 16 = .ok (.aload_n 0, 1) := by decide +kernel
theorem dJx4a65c_add_9ea2d_17 : decode cJx4a65c_add_9ea2d 17 = .ok (.getfield 48, 3) := by decide +kernel
theorem dJx4a65c_add_9ea2d_20 : decode cJx4a65c_add_9ea2d 20 = .ok (.invokevirtual 131, 3) := by decide +kernel
theorem dJx4a65c_add_9ea2d_23 : decode cJx4a65c_add_9ea2d 23 = .ok (.iconst 1, 1) := by decide +kernel
theorem dJx4a65c_add_9ea2d_24 : decode cJx4a65c_add_9ea2d 24 = .ok (.ireturn, 1) := by decide +kernel
theorem dJ7_copyOf_1904c_0 : decode cJ7_copyOf_1904c 0 = .ok (.aload_n 0, 1) := by decide +kernel
theorem dJ7_copyOf_1904c_1 : decode cJ7_copyOf_1904c 1 = .ok (.iload_n 1, 1) := by decide +kernel
theorem dJ7_copyOf_1904c_2 : decode cJ7_copyOf_1904c 2 = .ok (.aload_n 0, 1) := by decide +kernel
theorem dJ7_copyOf_1904c_3 : decode cJ7_copyOf_1904c 3 = .ok (.invokevirtual 86, 3) := by decide +kernel
theorem dJ7_copyOf_1904c_6 : decode cJ7_copyOf_1904c 6 = .ok (.invokestatic 300, 3) := by decide +kernel
theorem dJ7_copyOf_1904c_9 : decode cJ7_copyOf_1904c 9 = .ok (.areturn, 1) := by decide +kernel
theorem dJ7_copyOf_6403c_0 : decode cJ7_copyOf_6403c 0 = .ok (.aload_n 2, 1) := by decide +kernel
theorem dJ7_copyOf_6403c_1 : decode cJ7_copyOf_6403c 1 = .ok (.ldc 110, 2) := by decide +kernel
theorem dJ7_copyOf_6403c_3 : decode cJ7_copyOf_6403c 3 = .ok (.if_acmp .ne 10, 3) := by decide +kernel
theorem dJ7_copyOf_6403c_6 : decode cJ7_copyOf_6403c 6 = .ok (.iload_n 1, 1) := by decide +kernel
theorem dJ7_copyOf_6403c_7 : decode cJ7_copyOf_6403c 7 = .ok (.anewarray 2, 3) := by decide +kernel
theorem dJ7_copyOf_6403c_10 : decode cJ7_copyOf_6403c 10 = .ok (.goto 14, 3) := by decide +kernel
theorem dJ7_copyOf_6403c_13 : decode cJ7_copyOf_6403c 13 = .ok (.aload_n 2, 1) := by decide +kernel
theorem dJ7_copyOf_6403c_14 : decode cJ7_copyOf_6403c 14 = .ok (.invokevirtual 90, 3) := by decide +kernel
theorem dJ7_copyOf_6403c_17 : decode cJ7_copyOf_6403c 17 = .ok (.iload_n 1, 1) := by decide +kernel
theorem dJ7_copyOf_6403c_18 : decode cJ7_copyOf_6403c 18 = .ok (.invokestatic 95, 3) := by decide +kernel
theorem dJ7_copyOf_6403c_21 : decode cJ7_copyOf_6403c 21 = .ok (.checkcast 110, 3) := by decide +kernel
theorem dJ7_copyOf_6403c_24 : decode cJ7_copyOf_6403c 24 = .ok (.astore_n 3, 1) := by decide +kernel
theorem dJ7_copyOf_6403c_25 : decode cJ7_copyOf_6403c 25 = .ok (.aload_n 0, 1) := by decide +kernel
theorem dJ7_copyOf_6403c_26 : decode cJ7_copyOf_6403c 26 = .ok (.iconst 0, 1) := by decide +kernel
theorem dJ7_copyOf_6403c_27 : decode cJ7_copyOf_6403c 27 = .ok (.aload_n 3, 1) := by decide +kernel
theorem dJ7_copyOf_6403c_28 : decode cJ7_copyOf_6403c 28 = .ok (.iconst 0, 1) := by decide +kernel
theorem dJ7_copyOf_6403c_29 : decode cJ7_copyOf_6403c 29 = .ok (.aload_n 0, 1) := by decide +kernel
theorem dJ7_copyOf_6403c_30 : decode cJ7_copyOf_6403c 30 = .ok (.arraylength, 1) := by decide +kernel
theorem dJ7_copyOf_6403c_31 : decode cJ7_copyOf_6403c 31 = .ok (.iload_n 1, 1) := by decide +kernel
theorem dJ7_copyOf_6403c_32 : decode cJ7_copyOf_6403c 32 = .ok (.invokestatic 304, 3) := by decide +kernel
theorem dJ7_copyOf_6403c_35 : decode cJ7_copyOf_6403c 35 = .ok (.invokestatic 150, 3) := by decide +kernel
theorem dJ7_copyOf_6403c_38 : decode cJ7_copyOf_6403c 38 = .ok (.aload_n 3, 1) := by decide +kernel
theorem dJ7_copyOf_6403c_39 : decode cJ7_copyOf_6403c 39 = .ok (.areturn, 1) := by decide +kernel
theorem dJ15_checkIndex_7cf53_0 : decode cJ15_checkIndex_7cf53 0 = .ok (.iload_n 0, 1) := by decide +kernel
theorem dJ15_checkIndex_7cf53_1 : decode cJ15_checkIndex_7cf53 1 = .ok (.iload_n 1, 1) := by decide +kernel
theorem dJ15_checkIndex_7cf53_2 : decode cJ15_checkIndex_7cf53 2 = .ok (.aconst_null, 1) := by decide +kernel
theorem dJ15_checkIndex_7cf53_3 : decode cJ15_checkIndex_7cf53 3 = .ok (.invokestatic 105, 3) := by decide +kernel
theorem dJ15_checkIndex_7cf53_6 : decode cJ15_checkIndex_7cf53 6 = .ok (.ireturn, 1) := by decide +kernel
theorem dJ8_newLength_cabcc_0 : decode cJ8_newLength_cabcc 0 = .ok (.iload_n 0, 1) := by decide +kernel
theorem dJ8_newLength_cabcc_1 : decode cJ8_newLength_cabcc 1 = .ok (.iload_n 1, 1) := by decide +kernel
theorem dJ8_newLength_cabcc_2 : decode cJ8_newLength_cabcc 2 = .ok (.iload_n 2, 1) := by decide +kernel
theorem dJ8_newLength_cabcc_3 : decode cJ8_newLength_cabcc 3 = .ok (.invokestatic 194, 3) := by decide +kernel
theorem dJ8_newLength_cabcc_6 : decode cJ8_newLength_cabcc 6 = .ok (.iadd, 1) := by decide +kernel
theorem dJ8_newLength_cabcc_7 : decode cJ8_newLength_cabcc 7 = .ok (.istore_n 3, 1) := by decide +kernel
theorem dJ8_newLength_cabcc_8 : decode cJ8_newLength_cabcc 8 = .ok (.iconst 0, 1) := by decide +kernel
theorem dJ8_newLength_cabcc_9 : decode cJ8_newLength_cabcc 9 = .ok (.iload_n 3, 1) := by decide +kernel
theorem dJ8_newLength_cabcc_10 : decode cJ8_newLength_cabcc 10 = .ok (.if_icmp .ge 11, 3) := by decide +kernel
theorem dJ8_newLength_cabcc_13 : decode cJ8_newLength_cabcc 13 = .ok (.iload_n 3, 1) := by decide +kernel
theorem dJ8_newLength_cabcc_14 : decode cJ8_newLength_cabcc 14 = .ok (.ldc 200, 2) := by decide +kernel
theorem dJ8_newLength_cabcc_16 : decode cJ8_newLength_cabcc 16 = .ok (.if_icmp .gt 5, 3) := by decide +kernel
theorem dJ8_newLength_cabcc_19 : decode cJ8_newLength_cabcc 19 = .ok (.iload_n 3, 1) := by decide +kernel
theorem dJ8_newLength_cabcc_20 : decode cJ8_newLength_cabcc 20 = .ok (.ireturn, 1) := by decide +kernel
theorem dJ8_newLength_cabcc_21 : decode cJ8_newLength_cabcc 21 = .ok (.iload_n 0, 1) := by decide +kernel
theorem dJ8_newLength_cabcc_22 : decode cJ8_newLength_cabcc 22 = .ok (.iload_n 1, 1) := by decide +kernel
theorem dJ8_newLength_cabcc_23 : decode cJ8_newLength_cabcc 23 = .ok (.invokestatic 201, 3) := by decide +kernel
theorem dJ8_newLength_cabcc_26 : decode cJ8_newLength_cabcc 26 = .ok (.ireturn, 1) := by decide +kernel
theorem dJ8_hugeLength_7cf53_0 : decode cJ8_hugeLength_7cf53 0 = .ok (.iload_n 0, 1) := by decide +kernel
theorem dJ8_hugeLength_7cf53_1 : decode cJ8_hugeLength_7cf53 1 = .ok (.iload_n 1, 1) := by decide +kernel
theorem dJ8_hugeLength_7cf53_2 : decode cJ8_hugeLength_7cf53 2 = .ok (.iadd, 1) := by decide +kernel
theorem dJ8_hugeLength_7cf53_3 : decode cJ8_hugeLength_7cf53 3 = .ok (.istore_n 2, 1) := by decide +kernel
theorem dJ8_hugeLength_7cf53_4 : decode cJ8_hugeLength_7cf53 4 = .ok (.iload_n 2, 1) := by decide +kernel
theorem dJ8_hugeLength_7cf53_5 : decode cJ8_hugeLength_7cf53 5 = .ok (.ifCond .ge 44, 3) := by decide +kernel
theorem dJ8_hugeLength_7cf53_8 : decode cJ8_hugeLength_7cf53 8 = .ok (.new 204, 3) := by decide +kernel
theorem dJ8_hugeLength_7cf53_11 : decode cJ8_hugeLength_7cf53 11 = .ok (.dup, 1) := by decide +kernel
theorem dJ8_hugeLength_7cf53_12 : decode cJ8_hugeLength_7cf53 12 = .ok (.new 89, 3) := by decide +kernel
theorem dJ8_hugeLength_7cf53_15 : decode cJ8_hugeLength_7cf53 15 = .ok (.dup, 1) := by decide +kernel
theorem dJ8_hugeLength_7cf53_16 : decode cJ8_hugeLength_7cf53 16 = .ok (.invokespecial 91, 3) := by decide +kernel
theorem dJ8_hugeLength_7cf53_19 : decode cJ8_hugeLength_7cf53 19 = .ok (.ldc 206, 2) := by decide +kernel
theorem dJ8_hugeLength_7cf53_21 : decode cJ8_hugeLength_7cf53 21 = .ok (.invokevirtual 94, 3) := by decide +kernel
theorem dJ8_hugeLength_7cf53_24 : decode cJ8_hugeLength_7cf53 24 = .ok (.iload_n 0, 1) := by decide +kernel
theorem dJ8_hugeLength_7cf53_25 : decode cJ8_hugeLength_7cf53 25 = .ok (.invokevirtual 98, 3) := by decide +kernel
theorem dJ8_hugeLength_7cf53_28 : decode cJ8_hugeLength_7cf53 28 = .ok (.ldc 208, 2) := by decide +kernel
theorem dJ8_hugeLength_7cf53_30 : decode cJ8_hugeLength_7cf53 30 = .ok (.invokevirtual 94, 3) := by decide +kernel
theorem dJ8_hugeLength_7cf53_33 : decode cJ8_hugeLength_7cf53 33 = .ok (.iload_n 1, 1) := by decide +kernel
theorem dJ8_hugeLength_7cf53_34 : decode cJ8_hugeLength_7cf53 34 = .ok (.invokevirtual 98, 3) := by decide +kernel
theorem dJ8_hugeLength_7cf53_37 : decode cJ8_hugeLength_7cf53 37 = .ok (.ldc 210, 2) := by decide +kernel
theorem dJ8_hugeLength_7cf53_39 : decode cJ8_hugeLength_7cf53 39 = .ok (.invokevirtual 94, 3) := by decide +kernel
theorem dJ8_hugeLength_7cf53_42 : decode cJ8_hugeLength_7cf53 42 = .ok (.invokevirtual 101, 3) := by decide +kernel
theorem dJ8_hugeLength_7cf53_45 : decode cJ8_hugeLength_7cf53 45 = .ok (.invokespecial 212, 3) := by decide +kernel
theorem dJ8_hugeLength_7cf53_48 : decode cJ8_hugeLength_7cf53 48 = .ok (.athrow, 1) := by decide +kernel
theorem dJ8_hugeLength_7cf53_49 : decode cJ8_hugeLength_7cf53 49 = .ok (.iload_n 2, 1) := by decide +kernel
theorem dJ8_hugeLength_7cf53_50 : decode cJ8_hugeLength_7cf53 50 = .ok (.ldc 200, 2) := by decide +kernel
theorem dJ8_hugeLength_7cf53_52 : decode cJ8_hugeLength_7cf53 52 = .ok (.if_icmp .gt 6, 3) := by decide +kernel
theorem dJ8_hugeLength_7cf53_55 : decode cJ8_hugeLength_7cf53 55 = .ok (.ldc 200, 2) := by decide +kernel
theorem dJ8_hugeLength_7cf53_57 : decode cJ8_hugeLength_7cf53 57 = .ok (.ireturn, 1) := by decide +kernel
theorem dJ8_hugeLength_7cf53_58 : decode cJ8_hugeLength_7cf53 58 = .ok (.iload_n 2, 1) := by decide +kernel
theorem dJ8_hugeLength_7cf53_59 : decode cJ8_hugeLength_7cf53 59 = .ok (.ireturn, 1) := by decide +kernel
theorem dJ3_checkIndex_8e157_0 : decode cJ3_checkIndex_8e157 0 = .ok (.iload_n 0, 1) := by decide +kernel
theorem dJ3_checkIndex_8e157_1 : decode cJ3_checkIndex_8e157 1 = .ok (.ifCond .lt 8, 3) := by decide +kernel
theorem dJ3_checkIndex_8e157_4 : decode cJ3_checkIndex_8e157 4 = .ok (.iload_n 0, 1) := by decide +kernel
theorem dJ3_checkIndex_8e157_5 : decode cJ3_checkIndex_8e157 5 = .ok (.iload_n 1, 1) := by decide +kernel
theorem dJ3_checkIndex_8e157_6 : decode cJ3_checkIndex_8e157 6 = .ok (.if_icmp .lt 10, 3) := by decide +kernel
theorem dJ3_checkIndex_8e157_9 : decode cJ3_checkIndex_8e157 9 = .ok (.aload_n 2, 1) := by decide +kernel
theorem dJ3_checkIndex_8e157_10 : decode cJ3_checkIndex_8e157 10 = .ok (.iload_n 0, 1) := by decide +kernel
theorem dJ3_checkIndex_8e157_11 : decode cJ3_checkIndex_8e157 11 = .ok (.iload_n 1, 1) := by decide +kernel
theorem dJ3_checkIndex_8e157_12 : decode cJ3_checkIndex_8e157 12 = .ok (.invokestatic 95, 3) := by decide +kernel
theorem dJ3_checkIndex_8e157_15 : decode cJ3_checkIndex_8e157 15 = .ok (.athrow, 1) := by decide +kernel
theorem dJ3_checkIndex_8e157_16 : decode cJ3_checkIndex_8e157 16 = .ok (.iload_n 0, 1) := by decide +kernel
theorem dJ3_checkIndex_8e157_17 : decode cJ3_checkIndex_8e157 17 = .ok (.ireturn, 1) := by decide +kernel
theorem dL_cell_0 : decode cL_cell 0 = .ok (.iload_n 1, 1) := by decide +kernel
theorem dL_cell_1 : decode cL_cell 1 = .ok (.aload_n 0, 1) := by decide +kernel
theorem dL_cell_2 : decode cL_cell 2 = .ok (.arraylength, 1) := by decide +kernel
theorem dL_cell_3 : decode cL_cell 3 = .ok (.if_icmp .ge 9, 3) := by decide +kernel
theorem dL_cell_6 : decode cL_cell 6 = .ok (.aload_n 0, 1) := by decide +kernel
theorem dL_cell_7 : decode cL_cell 7 = .ok (.iload_n 1, 1) := by decide +kernel
theorem dL_cell_8 : decode cL_cell 8 = .ok (.iaload, 1) := by decide +kernel
theorem dL_cell_9 : decode cL_cell 9 = .ok (.goto 10, 3) := by decide +kernel
theorem dL_cell_12 : decode cL_cell 12 = .ok (.ldc 7, 2) := by decide +kernel
theorem dL_cell_14 : decode cL_cell 14 = .ok (.iload_n 1, 1) := by decide +kernel
theorem dL_cell_15 : decode cL_cell 15 = .ok (.bipush 11, 2) := by decide +kernel
theorem dL_cell_17 : decode cL_cell 17 = .ok (.iadd, 1) := by decide +kernel
theorem dL_cell_18 : decode cL_cell 18 = .ok (.imul, 1) := by decide +kernel
theorem dL_cell_19 : decode cL_cell 19 = .ok (.ireturn, 1) := by decide +kernel
theorem dL_low_0 : decode cL_low 0 = .ok (.iload_n 0, 1) := by decide +kernel
theorem dL_low_1 : decode cL_low 1 = .ok (.iconst 1, 1) := by decide +kernel
theorem dL_low_2 : decode cL_low 2 = .ok (.iushr, 1) := by decide +kernel
theorem dL_low_3 : decode cL_low 3 = .ok (.iload_n 1, 1) := by decide +kernel
theorem dL_low_4 : decode cL_low 4 = .ok (.irem, 1) := by decide +kernel
theorem dL_low_5 : decode cL_low 5 = .ok (.ireturn, 1) := by decide +kernel
theorem dL_tide_0 : decode cL_tide 0 = .ok (.aload_n 0, 1) := by decide +kernel
theorem dL_tide_1 : decode cL_tide 1 = .ok (.iload_n 1, 1) := by decide +kernel
theorem dL_tide_2 : decode cL_tide 2 = .ok (.iload_n 2, 1) := by decide +kernel
theorem dL_tide_3 : decode cL_tide 3 = .ok (.invokevirtual 8, 3) := by decide +kernel
theorem dL_tide_6 : decode cL_tide 6 = .ok (.goto 8, 3) := by decide +kernel
theorem dL_tide_9 : decode cL_tide 9 = .ok (.astore_n 3, 1) := by decide +kernel
theorem dL_tide_10 : decode cL_tide 10 = .ok (.sipush (-7200), 3) := by decide +kernel
theorem dL_tide_13 : decode cL_tide 13 = .ok (.ireturn, 1) := by decide +kernel
theorem dL_tide_14 : decode cL_tide 14 = .ok (.iconst 0, 1) := by decide +kernel
theorem dL_tide_15 : decode cL_tide 15 = .ok (.ireturn, 1) := by decide +kernel
theorem dL_tugs_0 : decode cL_tugs 0 = .ok (.aload_n 0, 1) := by decide +kernel
theorem dL_tugs_1 : decode cL_tugs 1 = .ok (.iload_n 1, 1) := by decide +kernel
theorem dL_tugs_2 : decode cL_tugs 2 = .ok (.invokevirtual 16, 3) := by decide +kernel
theorem dL_tugs_5 : decode cL_tugs 5 = .ok (.istore_n 2, 1) := by decide +kernel
theorem dL_tugs_6 : decode cL_tugs 6 = .ok (.goto 8, 3) := by decide +kernel
theorem dL_tugs_9 : decode cL_tugs 9 = .ok (.astore_n 3, 1) := by decide +kernel
theorem dL_tugs_10 : decode cL_tugs 10 = .ok (.sipush (-7200), 3) := by decide +kernel
theorem dL_tugs_13 : decode cL_tugs 13 = .ok (.ireturn, 1) := by decide +kernel
theorem dL_tugs_14 : decode cL_tugs 14 = .ok (.iload_n 2, 1) := by decide +kernel
theorem dL_tugs_15 : decode cL_tugs 15 = .ok (.ireturn, 1) := by decide +kernel
theorem dL_ship_0 : decode cL_ship 0 = .ok (.aload_n 0, 1) := by decide +kernel
theorem dL_ship_1 : decode cL_ship 1 = .ok (.iload_n 1, 1) := by decide +kernel
theorem dL_ship_2 : decode cL_ship 2 = .ok (.iload_n 2, 1) := by decide +kernel
theorem dL_ship_3 : decode cL_ship 3 = .ok (.iload_n 3, 1) := by decide +kernel
theorem dL_ship_4 : decode cL_ship 4 = .ok (.iload 4, 2) := by decide +kernel
theorem dL_ship_6 : decode cL_ship 6 = .ok (.invokevirtual 20, 3) := by decide +kernel
theorem dL_ship_9 : decode cL_ship 9 = .ok (.istore 5, 2) := by decide +kernel
theorem dL_ship_11 : decode cL_ship 11 = .ok (.goto 15, 3) := by decide +kernel
theorem dL_ship_14 : decode cL_ship 14 = .ok (.astore 6, 2) := by decide +kernel
theorem dL_ship_16 : decode cL_ship 16 = .ok (.sipush (-7200), 3) := by decide +kernel
theorem dL_ship_19 : decode cL_ship 19 = .ok (.ireturn, 1) := by decide +kernel
theorem dL_ship_20 : decode cL_ship 20 = .ok (.astore 6, 2) := by decide +kernel
theorem dL_ship_22 : decode cL_ship 22 = .ok (.sipush (-7300), 3) := by decide +kernel
theorem dL_ship_25 : decode cL_ship 25 = .ok (.ireturn, 1) := by decide +kernel
theorem dL_ship_26 : decode cL_ship 26 = .ok (.iload 5, 2) := by decide +kernel
theorem dL_ship_28 : decode cL_ship 28 = .ok (.ireturn, 1) := by decide +kernel
theorem dL_pilot_0 : decode cL_pilot 0 = .ok (.aload_n 0, 1) := by decide +kernel
theorem dL_pilot_1 : decode cL_pilot 1 = .ok (.iload_n 1, 1) := by decide +kernel
theorem dL_pilot_2 : decode cL_pilot 2 = .ok (.iload_n 2, 1) := by decide +kernel
theorem dL_pilot_3 : decode cL_pilot 3 = .ok (.invokevirtual 26, 3) := by decide +kernel
theorem dL_pilot_6 : decode cL_pilot 6 = .ok (.istore_n 3, 1) := by decide +kernel
theorem dL_pilot_7 : decode cL_pilot 7 = .ok (.goto 15, 3) := by decide +kernel
theorem dL_pilot_10 : decode cL_pilot 10 = .ok (.astore 4, 2) := by decide +kernel
theorem dL_pilot_12 : decode cL_pilot 12 = .ok (.sipush (-7200), 3) := by decide +kernel
theorem dL_pilot_15 : decode cL_pilot 15 = .ok (.ireturn, 1) := by decide +kernel
theorem dL_pilot_16 : decode cL_pilot 16 = .ok (.astore 4, 2) := by decide +kernel
theorem dL_pilot_18 : decode cL_pilot 18 = .ok (.sipush (-7300), 3) := by decide +kernel
theorem dL_pilot_21 : decode cL_pilot 21 = .ok (.ireturn, 1) := by decide +kernel
theorem dL_pilot_22 : decode cL_pilot 22 = .ok (.iload_n 3, 1) := by decide +kernel
theorem dL_pilot_23 : decode cL_pilot 23 = .ok (.ireturn, 1) := by decide +kernel
theorem dL_call_0 : decode cL_call 0 = .ok (.aload_n 0, 1) := by decide +kernel
theorem dL_call_1 : decode cL_call 1 = .ok (.iload_n 1, 1) := by decide +kernel
theorem dL_call_2 : decode cL_call 2 = .ok (.iload_n 2, 1) := by decide +kernel
theorem dL_call_3 : decode cL_call 3 = .ok (.invokevirtual 30, 3) := by decide +kernel
theorem dL_call_6 : decode cL_call 6 = .ok (.istore_n 3, 1) := by decide +kernel
theorem dL_call_7 : decode cL_call 7 = .ok (.goto 21, 3) := by decide +kernel
theorem dL_call_10 : decode cL_call 10 = .ok (.astore 4, 2) := by decide +kernel
theorem dL_call_12 : decode cL_call 12 = .ok (.sipush (-7100), 3) := by decide +kernel
theorem dL_call_15 : decode cL_call 15 = .ok (.ireturn, 1) := by decide +kernel
theorem dL_call_16 : decode cL_call 16 = .ok (.astore 4, 2) := by decide +kernel
theorem dL_call_18 : decode cL_call 18 = .ok (.sipush (-7200), 3) := by decide +kernel
theorem dL_call_21 : decode cL_call 21 = .ok (.ireturn, 1) := by decide +kernel
theorem dL_call_22 : decode cL_call 22 = .ok (.astore 4, 2) := by decide +kernel
theorem dL_call_24 : decode cL_call 24 = .ok (.sipush (-7300), 3) := by decide +kernel
theorem dL_call_27 : decode cL_call 27 = .ok (.ireturn, 1) := by decide +kernel
theorem dL_call_28 : decode cL_call 28 = .ok (.iload_n 3, 1) := by decide +kernel
theorem dL_call_29 : decode cL_call 29 = .ok (.ireturn, 1) := by decide +kernel
theorem dL_join_0 : decode cL_join 0 = .ok (.aload_n 0, 1) := by decide +kernel
theorem dL_join_1 : decode cL_join 1 = .ok (.iload_n 1, 1) := by decide +kernel
theorem dL_join_2 : decode cL_join 2 = .ok (.iload_n 2, 1) := by decide +kernel
theorem dL_join_3 : decode cL_join 3 = .ok (.iload_n 3, 1) := by decide +kernel
theorem dL_join_4 : decode cL_join 4 = .ok (.invokevirtual 35, 3) := by decide +kernel
theorem dL_join_7 : decode cL_join 7 = .ok (.istore 4, 2) := by decide +kernel
theorem dL_join_9 : decode cL_join 9 = .ok (.goto 15, 3) := by decide +kernel
theorem dL_join_12 : decode cL_join 12 = .ok (.astore 5, 2) := by decide +kernel
theorem dL_join_14 : decode cL_join 14 = .ok (.sipush (-7100), 3) := by decide +kernel
theorem dL_join_17 : decode cL_join 17 = .ok (.ireturn, 1) := by decide +kernel
theorem dL_join_18 : decode cL_join 18 = .ok (.astore 5, 2) := by decide +kernel
theorem dL_join_20 : decode cL_join 20 = .ok (.sipush (-7300), 3) := by decide +kernel
theorem dL_join_23 : decode cL_join 23 = .ok (.ireturn, 1) := by decide +kernel
theorem dL_join_24 : decode cL_join 24 = .ok (.iload 4, 2) := by decide +kernel
theorem dL_join_26 : decode cL_join 26 = .ok (.ireturn, 1) := by decide +kernel
theorem dL_again_0 : decode cL_again 0 = .ok (.aload_n 0, 1) := by decide +kernel
theorem dL_again_1 : decode cL_again 1 = .ok (.iload_n 1, 1) := by decide +kernel
theorem dL_again_2 : decode cL_again 2 = .ok (.invokevirtual 39, 3) := by decide +kernel
theorem dL_again_5 : decode cL_again 5 = .ok (.istore_n 2, 1) := by decide +kernel
theorem dL_again_6 : decode cL_again 6 = .ok (.goto 13, 3) := by decide +kernel
theorem dL_again_9 : decode cL_again 9 = .ok (.astore_n 3, 1) := by decide +kernel
theorem dL_again_10 : decode cL_again 10 = .ok (.sipush (-7100), 3) := by decide +kernel
theorem dL_again_13 : decode cL_again 13 = .ok (.ireturn, 1) := by decide +kernel
theorem dL_again_14 : decode cL_again 14 = .ok (.astore_n 3, 1) := by decide +kernel
theorem dL_again_15 : decode cL_again 15 = .ok (.sipush (-7300), 3) := by decide +kernel
theorem dL_again_18 : decode cL_again 18 = .ok (.ireturn, 1) := by decide +kernel
theorem dL_again_19 : decode cL_again 19 = .ok (.iload_n 2, 1) := by decide +kernel
theorem dL_again_20 : decode cL_again 20 = .ok (.ireturn, 1) := by decide +kernel
theorem dL_drop_0 : decode cL_drop 0 = .ok (.aload_n 0, 1) := by decide +kernel
theorem dL_drop_1 : decode cL_drop 1 = .ok (.iload_n 1, 1) := by decide +kernel
theorem dL_drop_2 : decode cL_drop 2 = .ok (.iload_n 2, 1) := by decide +kernel
theorem dL_drop_3 : decode cL_drop 3 = .ok (.invokevirtual 42, 3) := by decide +kernel
theorem dL_drop_6 : decode cL_drop 6 = .ok (.istore_n 3, 1) := by decide +kernel
theorem dL_drop_7 : decode cL_drop 7 = .ok (.goto 15, 3) := by decide +kernel
theorem dL_drop_10 : decode cL_drop 10 = .ok (.astore 4, 2) := by decide +kernel
theorem dL_drop_12 : decode cL_drop 12 = .ok (.sipush (-7100), 3) := by decide +kernel
theorem dL_drop_15 : decode cL_drop 15 = .ok (.ireturn, 1) := by decide +kernel
theorem dL_drop_16 : decode cL_drop 16 = .ok (.astore 4, 2) := by decide +kernel
theorem dL_drop_18 : decode cL_drop 18 = .ok (.sipush (-7300), 3) := by decide +kernel
theorem dL_drop_21 : decode cL_drop 21 = .ok (.ireturn, 1) := by decide +kernel
theorem dL_drop_22 : decode cL_drop 22 = .ok (.iload_n 3, 1) := by decide +kernel
theorem dL_drop_23 : decode cL_drop 23 = .ok (.ireturn, 1) := by decide +kernel
theorem dL_pass_0 : decode cL_pass 0 = .ok (.aload_n 0, 1) := by decide +kernel
theorem dL_pass_1 : decode cL_pass 1 = .ok (.iload_n 1, 1) := by decide +kernel
theorem dL_pass_2 : decode cL_pass 2 = .ok (.invokevirtual 45, 3) := by decide +kernel
theorem dL_pass_5 : decode cL_pass 5 = .ok (.istore_n 2, 1) := by decide +kernel
theorem dL_pass_6 : decode cL_pass 6 = .ok (.goto 13, 3) := by decide +kernel
theorem dL_pass_9 : decode cL_pass 9 = .ok (.astore_n 3, 1) := by decide +kernel
theorem dL_pass_10 : decode cL_pass 10 = .ok (.sipush (-7200), 3) := by decide +kernel
theorem dL_pass_13 : decode cL_pass 13 = .ok (.ireturn, 1) := by decide +kernel
theorem dL_pass_14 : decode cL_pass 14 = .ok (.astore_n 3, 1) := by decide +kernel
theorem dL_pass_15 : decode cL_pass 15 = .ok (.sipush (-7300), 3) := by decide +kernel
theorem dL_pass_18 : decode cL_pass 18 = .ok (.ireturn, 1) := by decide +kernel
theorem dL_pass_19 : decode cL_pass 19 = .ok (.iload_n 2, 1) := by decide +kernel
theorem dL_pass_20 : decode cL_pass 20 = .ok (.ireturn, 1) := by decide +kernel
theorem dL_level_0 : decode cL_level 0 = .ok (.aload_n 0, 1) := by decide +kernel
theorem dL_level_1 : decode cL_level 1 = .ok (.iload_n 1, 1) := by decide +kernel
theorem dL_level_2 : decode cL_level 2 = .ok (.invokevirtual 48, 3) := by decide +kernel
theorem dL_level_5 : decode cL_level 5 = .ok (.istore_n 2, 1) := by decide +kernel
theorem dL_level_6 : decode cL_level 6 = .ok (.goto 8, 3) := by decide +kernel
theorem dL_level_9 : decode cL_level 9 = .ok (.astore_n 3, 1) := by decide +kernel
theorem dL_level_10 : decode cL_level 10 = .ok (.sipush (-7200), 3) := by decide +kernel
theorem dL_level_13 : decode cL_level 13 = .ok (.ireturn, 1) := by decide +kernel
theorem dL_level_14 : decode cL_level 14 = .ok (.iload_n 2, 1) := by decide +kernel
theorem dL_level_15 : decode cL_level 15 = .ok (.ireturn, 1) := by decide +kernel
theorem dL_window_0 : decode cL_window 0 = .ok (.aload_n 0, 1) := by decide +kernel
theorem dL_window_1 : decode cL_window 1 = .ok (.iload_n 1, 1) := by decide +kernel
theorem dL_window_2 : decode cL_window 2 = .ok (.iload_n 2, 1) := by decide +kernel
theorem dL_window_3 : decode cL_window 3 = .ok (.invokevirtual 51, 3) := by decide +kernel
theorem dL_window_6 : decode cL_window 6 = .ok (.istore_n 3, 1) := by decide +kernel
theorem dL_window_7 : decode cL_window 7 = .ok (.goto 15, 3) := by decide +kernel
theorem dL_window_10 : decode cL_window 10 = .ok (.astore 4, 2) := by decide +kernel
theorem dL_window_12 : decode cL_window 12 = .ok (.sipush (-7100), 3) := by decide +kernel
theorem dL_window_15 : decode cL_window 15 = .ok (.ireturn, 1) := by decide +kernel
theorem dL_window_16 : decode cL_window 16 = .ok (.astore 4, 2) := by decide +kernel
theorem dL_window_18 : decode cL_window 18 = .ok (.sipush (-7200), 3) := by decide +kernel
theorem dL_window_21 : decode cL_window 21 = .ok (.ireturn, 1) := by decide +kernel
theorem dL_window_22 : decode cL_window 22 = .ok (.iload_n 3, 1) := by decide +kernel
theorem dL_window_23 : decode cL_window 23 = .ok (.ireturn, 1) := by decide +kernel
theorem dL_ofConference_0 : decode cL_ofConference 0 = .ok (.aload_n 0, 1) := by decide +kernel
theorem dL_ofConference_1 : decode cL_ofConference 1 = .ok (.iload_n 1, 1) := by decide +kernel
theorem dL_ofConference_2 : decode cL_ofConference 2 = .ok (.iload_n 2, 1) := by decide +kernel
theorem dL_ofConference_3 : decode cL_ofConference 3 = .ok (.invokevirtual 54, 3) := by decide +kernel
theorem dL_ofConference_6 : decode cL_ofConference 6 = .ok (.istore_n 3, 1) := by decide +kernel
theorem dL_ofConference_7 : decode cL_ofConference 7 = .ok (.goto 9, 3) := by decide +kernel
theorem dL_ofConference_10 : decode cL_ofConference 10 = .ok (.astore 4, 2) := by decide +kernel
theorem dL_ofConference_12 : decode cL_ofConference 12 = .ok (.sipush (-7100), 3) := by decide +kernel
theorem dL_ofConference_15 : decode cL_ofConference 15 = .ok (.ireturn, 1) := by decide +kernel
theorem dL_ofConference_16 : decode cL_ofConference 16 = .ok (.iload_n 3, 1) := by decide +kernel
theorem dL_ofConference_17 : decode cL_ofConference 17 = .ok (.ireturn, 1) := by decide +kernel
theorem dL_why_0 : decode cL_why 0 = .ok (.aload_n 0, 1) := by decide +kernel
theorem dL_why_1 : decode cL_why 1 = .ok (.iload_n 1, 1) := by decide +kernel
theorem dL_why_2 : decode cL_why 2 = .ok (.iload_n 2, 1) := by decide +kernel
theorem dL_why_3 : decode cL_why 3 = .ok (.invokevirtual 57, 3) := by decide +kernel
theorem dL_why_6 : decode cL_why 6 = .ok (.istore_n 3, 1) := by decide +kernel
theorem dL_why_7 : decode cL_why 7 = .ok (.goto 21, 3) := by decide +kernel
theorem dL_why_10 : decode cL_why 10 = .ok (.astore 4, 2) := by decide +kernel
theorem dL_why_12 : decode cL_why 12 = .ok (.sipush (-7100), 3) := by decide +kernel
theorem dL_why_15 : decode cL_why 15 = .ok (.ireturn, 1) := by decide +kernel
theorem dL_why_16 : decode cL_why 16 = .ok (.astore 4, 2) := by decide +kernel
theorem dL_why_18 : decode cL_why 18 = .ok (.sipush (-7200), 3) := by decide +kernel
theorem dL_why_21 : decode cL_why 21 = .ok (.ireturn, 1) := by decide +kernel
theorem dL_why_22 : decode cL_why 22 = .ok (.astore 4, 2) := by decide +kernel
theorem dL_why_24 : decode cL_why 24 = .ok (.sipush (-7300), 3) := by decide +kernel
theorem dL_why_27 : decode cL_why 27 = .ok (.ireturn, 1) := by decide +kernel
theorem dL_why_28 : decode cL_why 28 = .ok (.iload_n 3, 1) := by decide +kernel
theorem dL_why_29 : decode cL_why 29 = .ok (.ireturn, 1) := by decide +kernel
theorem dL_rested_0 : decode cL_rested 0 = .ok (.aload_n 0, 1) := by decide +kernel
theorem dL_rested_1 : decode cL_rested 1 = .ok (.iload_n 1, 1) := by decide +kernel
theorem dL_rested_2 : decode cL_rested 2 = .ok (.invokevirtual 60, 3) := by decide +kernel
theorem dL_rested_5 : decode cL_rested 5 = .ok (.istore_n 2, 1) := by decide +kernel
theorem dL_rested_6 : decode cL_rested 6 = .ok (.goto 8, 3) := by decide +kernel
theorem dL_rested_9 : decode cL_rested 9 = .ok (.astore_n 3, 1) := by decide +kernel
theorem dL_rested_10 : decode cL_rested 10 = .ok (.sipush (-7100), 3) := by decide +kernel
theorem dL_rested_13 : decode cL_rested 13 = .ok (.ireturn, 1) := by decide +kernel
theorem dL_rested_14 : decode cL_rested 14 = .ok (.iload_n 2, 1) := by decide +kernel
theorem dL_rested_15 : decode cL_rested 15 = .ok (.ireturn, 1) := by decide +kernel
theorem dL_restedAnew_0 : decode cL_restedAnew 0 = .ok (.aload_n 0, 1) := by decide +kernel
theorem dL_restedAnew_1 : decode cL_restedAnew 1 = .ok (.iload_n 1, 1) := by decide +kernel
theorem dL_restedAnew_2 : decode cL_restedAnew 2 = .ok (.invokevirtual 63, 3) := by decide +kernel
theorem dL_restedAnew_5 : decode cL_restedAnew 5 = .ok (.istore_n 2, 1) := by decide +kernel
theorem dL_restedAnew_6 : decode cL_restedAnew 6 = .ok (.goto 8, 3) := by decide +kernel
theorem dL_restedAnew_9 : decode cL_restedAnew 9 = .ok (.astore_n 3, 1) := by decide +kernel
theorem dL_restedAnew_10 : decode cL_restedAnew 10 = .ok (.sipush (-7100), 3) := by decide +kernel
theorem dL_restedAnew_13 : decode cL_restedAnew 13 = .ok (.ireturn, 1) := by decide +kernel
theorem dL_restedAnew_14 : decode cL_restedAnew 14 = .ok (.iload_n 2, 1) := by decide +kernel
theorem dL_restedAnew_15 : decode cL_restedAnew 15 = .ok (.ireturn, 1) := by decide +kernel
theorem dL_bill_0 : decode cL_bill 0 = .ok (.aload_n 0, 1) := by decide +kernel
theorem dL_bill_1 : decode cL_bill 1 = .ok (.iload_n 1, 1) := by decide +kernel
theorem dL_bill_2 : decode cL_bill 2 = .ok (.invokevirtual 66, 3) := by decide +kernel
theorem dL_bill_5 : decode cL_bill 5 = .ok (.istore_n 2, 1) := by decide +kernel
theorem dL_bill_6 : decode cL_bill 6 = .ok (.goto 8, 3) := by decide +kernel
theorem dL_bill_9 : decode cL_bill 9 = .ok (.astore_n 3, 1) := by decide +kernel
theorem dL_bill_10 : decode cL_bill 10 = .ok (.sipush (-7100), 3) := by decide +kernel
theorem dL_bill_13 : decode cL_bill 13 = .ok (.ireturn, 1) := by decide +kernel
theorem dL_bill_14 : decode cL_bill 14 = .ok (.iload_n 2, 1) := by decide +kernel
theorem dL_bill_15 : decode cL_bill 15 = .ok (.ireturn, 1) := by decide +kernel
theorem dL_ofPilot_0 : decode cL_ofPilot 0 = .ok (.aload_n 0, 1) := by decide +kernel
theorem dL_ofPilot_1 : decode cL_ofPilot 1 = .ok (.iload_n 1, 1) := by decide +kernel
theorem dL_ofPilot_2 : decode cL_ofPilot 2 = .ok (.iload_n 2, 1) := by decide +kernel
theorem dL_ofPilot_3 : decode cL_ofPilot 3 = .ok (.invokevirtual 69, 3) := by decide +kernel
theorem dL_ofPilot_6 : decode cL_ofPilot 6 = .ok (.istore_n 3, 1) := by decide +kernel
theorem dL_ofPilot_7 : decode cL_ofPilot 7 = .ok (.goto 9, 3) := by decide +kernel
theorem dL_ofPilot_10 : decode cL_ofPilot 10 = .ok (.astore 4, 2) := by decide +kernel
theorem dL_ofPilot_12 : decode cL_ofPilot 12 = .ok (.sipush (-7100), 3) := by decide +kernel
theorem dL_ofPilot_15 : decode cL_ofPilot 15 = .ok (.ireturn, 1) := by decide +kernel
theorem dL_ofPilot_16 : decode cL_ofPilot 16 = .ok (.iload_n 3, 1) := by decide +kernel
theorem dL_ofPilot_17 : decode cL_ofPilot 17 = .ok (.ireturn, 1) := by decide +kernel
theorem dL_count_0 : decode cL_count 0 = .ok (.aload_n 0, 1) := by decide +kernel
theorem dL_count_1 : decode cL_count 1 = .ok (.iload_n 1, 1) := by decide +kernel
theorem dL_count_2 : decode cL_count 2 = .ok (.invokevirtual 72, 3) := by decide +kernel
theorem dL_count_5 : decode cL_count 5 = .ok (.istore_n 2, 1) := by decide +kernel
theorem dL_count_6 : decode cL_count 6 = .ok (.goto 8, 3) := by decide +kernel
theorem dL_count_9 : decode cL_count 9 = .ok (.astore_n 3, 1) := by decide +kernel
theorem dL_count_10 : decode cL_count 10 = .ok (.sipush (-7200), 3) := by decide +kernel
theorem dL_count_13 : decode cL_count 13 = .ok (.ireturn, 1) := by decide +kernel
theorem dL_count_14 : decode cL_count 14 = .ok (.iload_n 2, 1) := by decide +kernel
theorem dL_count_15 : decode cL_count 15 = .ok (.ireturn, 1) := by decide +kernel
theorem dL_shipOf_0 : decode cL_shipOf 0 = .ok (.iload_n 0, 1) := by decide +kernel
theorem dL_shipOf_1 : decode cL_shipOf 1 = .ok (.bipush 7, 2) := by decide +kernel
theorem dL_shipOf_3 : decode cL_shipOf 3 = .ok (.iand, 1) := by decide +kernel
theorem dL_shipOf_4 : decode cL_shipOf 4 = .ok (.ireturn, 1) := by decide +kernel
theorem dL_pilotOf_0 : decode cL_pilotOf 0 = .ok (.iload_n 0, 1) := by decide +kernel
theorem dL_pilotOf_1 : decode cL_pilotOf 1 = .ok (.bipush 6, 2) := by decide +kernel
theorem dL_pilotOf_3 : decode cL_pilotOf 3 = .ok (.ishr, 1) := by decide +kernel
theorem dL_pilotOf_4 : decode cL_pilotOf 4 = .ok (.bipush 15, 2) := by decide +kernel
theorem dL_pilotOf_6 : decode cL_pilotOf 6 = .ok (.iand, 1) := by decide +kernel
theorem dL_pilotOf_7 : decode cL_pilotOf 7 = .ok (.iconst 1, 1) := by decide +kernel
theorem dL_pilotOf_8 : decode cL_pilotOf 8 = .ok (.isub, 1) := by decide +kernel
theorem dL_pilotOf_9 : decode cL_pilotOf 9 = .ok (.ireturn, 1) := by decide +kernel
theorem dL_stateOf_0 : decode cL_stateOf 0 = .ok (.iload_n 0, 1) := by decide +kernel
theorem dL_stateOf_1 : decode cL_stateOf 1 = .ok (.bipush 10, 2) := by decide +kernel
theorem dL_stateOf_3 : decode cL_stateOf 3 = .ok (.ishr, 1) := by decide +kernel
theorem dL_stateOf_4 : decode cL_stateOf 4 = .ok (.ireturn, 1) := by decide +kernel
theorem dL_draught_0 : decode cL_draught 0 = .ok (.iload_n 0, 1) := by decide +kernel
theorem dL_draught_1 : decode cL_draught 1 = .ok (.sipush 511, 3) := by decide +kernel
theorem dL_draught_4 : decode cL_draught 4 = .ok (.iand, 1) := by decide +kernel
theorem dL_draught_5 : decode cL_draught 5 = .ok (.ireturn, 1) := by decide +kernel
theorem dL_takes_0 : decode cL_takes 0 = .ok (.iload_n 0, 1) := by decide +kernel
theorem dL_takes_1 : decode cL_takes 1 = .ok (.bipush 9, 2) := by decide +kernel
theorem dL_takes_3 : decode cL_takes 3 = .ok (.ishr, 1) := by decide +kernel
theorem dL_takes_4 : decode cL_takes 4 = .ok (.bipush 127, 2) := by decide +kernel
theorem dL_takes_6 : decode cL_takes 6 = .ok (.iand, 1) := by decide +kernel
theorem dL_takes_7 : decode cL_takes 7 = .ok (.ireturn, 1) := by decide +kernel
theorem dL_needs_0 : decode cL_needs 0 = .ok (.iload_n 0, 1) := by decide +kernel
theorem dL_needs_1 : decode cL_needs 1 = .ok (.bipush 16, 2) := by decide +kernel
theorem dL_needs_3 : decode cL_needs 3 = .ok (.ishr, 1) := by decide +kernel
theorem dL_needs_4 : decode cL_needs 4 = .ok (.ireturn, 1) := by decide +kernel
theorem dL_tideAt_0 : decode cL_tideAt 0 = .ok (.iload_n 0, 1) := by decide +kernel
theorem dL_tideAt_1 : decode cL_tideAt 1 = .ok (.sipush 720, 3) := by decide +kernel
theorem dL_tideAt_4 : decode cL_tideAt 4 = .ok (.irem, 1) := by decide +kernel
theorem dL_tideAt_5 : decode cL_tideAt 5 = .ok (.istore_n 2, 1) := by decide +kernel
theorem dL_tideAt_6 : decode cL_tideAt 6 = .ok (.iload_n 2, 1) := by decide +kernel
theorem dL_tideAt_7 : decode cL_tideAt 7 = .ok (.sipush 360, 3) := by decide +kernel
theorem dL_tideAt_10 : decode cL_tideAt 10 = .ok (.if_icmp .le 11, 3) := by decide +kernel
theorem dL_tideAt_13 : decode cL_tideAt 13 = .ok (.sipush 720, 3) := by decide +kernel
theorem dL_tideAt_16 : decode cL_tideAt 16 = .ok (.iload_n 2, 1) := by decide +kernel
theorem dL_tideAt_17 : decode cL_tideAt 17 = .ok (.isub, 1) := by decide +kernel
theorem dL_tideAt_18 : decode cL_tideAt 18 = .ok (.goto 4, 3) := by decide +kernel
theorem dL_tideAt_21 : decode cL_tideAt 21 = .ok (.iload_n 2, 1) := by decide +kernel
theorem dL_tideAt_22 : decode cL_tideAt 22 = .ok (.istore_n 3, 1) := by decide +kernel
theorem dL_tideAt_23 : decode cL_tideAt 23 = .ok (.iload_n 3, 1) := by decide +kernel
theorem dL_tideAt_24 : decode cL_tideAt 24 = .ok (.aload_n 1, 1) := by decide +kernel
theorem dL_tideAt_25 : decode cL_tideAt 25 = .ok (.iconst 2, 1) := by decide +kernel
theorem dL_tideAt_26 : decode cL_tideAt 26 = .ok (.iaload, 1) := by decide +kernel
theorem dL_tideAt_27 : decode cL_tideAt 27 = .ok (.imul, 1) := by decide +kernel
theorem dL_tideAt_28 : decode cL_tideAt 28 = .ok (.sipush 360, 3) := by decide +kernel
theorem dL_tideAt_31 : decode cL_tideAt 31 = .ok (.idiv, 1) := by decide +kernel
theorem dL_tideAt_32 : decode cL_tideAt 32 = .ok (.ireturn, 1) := by decide +kernel
