theorem dX0_init_0 : decode cX0_init 0 = .ok (.aload_n 0, 1) := by decide +kernel
theorem dX0_init_1 : decode cX0_init 1 = .ok (.invokespecial 3, 3) := by decide +kernel
theorem dX0_init_4 : decode cX0_init 4 = .ok (.aload_n 0, 1) := by decide +kernel
theorem dX0_init_5 : decode cX0_init 5 = .ok (.iconst 0, 1) := by decide +kernel
theorem dX0_init_6 : decode cX0_init 6 = .ok (.putfield 9, 3) := by decide +kernel
theorem dX0_init_9 : decode cX0_init 9 = .ok (.aload_n 0, 1) := by decide +kernel
theorem dX0_init_10 : decode cX0_init 10 = .ok (.iconst (-1), 1) := by decide +kernel
theorem dX0_init_11 : decode cX0_init 11 = .ok (.putfield 15, 3) := by decide +kernel
theorem dX0_init_14 : decode cX0_init 14 = .ok (.aload_n 0, 1) := by decide +kernel
theorem dX0_init_15 : decode cX0_init 15 = .ok (.aload_n 1, 1) := by decide +kernel
theorem dX0_init_16 : decode cX0_init 16 = .ok (.putfield 18, 3) := by decide +kernel
theorem dX0_init_19 : decode cX0_init 19 = .ok (.aload_n 0, 1) := by decide +kernel
theorem dX0_init_20 : decode cX0_init 20 = .ok (.iload_n 2, 1) := by decide +kernel
theorem dX0_init_21 : decode cX0_init 21 = .ok (.putfield 22, 3) := by decide +kernel
theorem dX0_init_24 : decode cX0_init 24 = .ok (.return_, 1) := by decide +kernel
theorem dX0_hasIn_0 : decode cX0_hasIn 0 = .ok (.iload_n 1, 1) := by decide +kernel
theorem dX0_hasIn_1 : decode cX0_hasIn 1 = .ok (.lookupswitch 37 #[(0, 27), (1, 32)], 27) := by decide +kernel
theorem dX0_hasIn_28 : decode cX0_hasIn 28 = .ok (.aload_n 0, 1) := by decide +kernel
theorem dX0_hasIn_29 : decode cX0_hasIn 29 = .ok (.getfield 25, 3) := by decide +kernel
theorem dX0_hasIn_32 : decode cX0_hasIn 32 = .ok (.ireturn, 1) := by decide +kernel
theorem dX0_hasIn_33 : decode cX0_hasIn 33 = .ok (.aload_n 0, 1) := by decide +kernel
theorem dX0_hasIn_34 : decode cX0_hasIn 34 = .ok (.getfield 29, 3) := by decide +kernel
theorem dX0_hasIn_37 : decode cX0_hasIn 37 = .ok (.ireturn, 1) := by decide +kernel
theorem dX0_hasIn_38 : decode cX0_hasIn 38 = .ok (.aload_n 0, 1) := by decide +kernel
theorem dX0_hasIn_39 : decode cX0_hasIn 39 = .ok (.getfield 32, 3) := by decide +kernel
theorem dX0_hasIn_42 : decode cX0_hasIn 42 = .ok (.ifnull 7, 3) := by decide +kernel
theorem dX0_hasIn_45 : decode cX0_hasIn 45 = .ok (.iconst 1, 1) := by decide +kernel
theorem dX0_hasIn_46 : decode cX0_hasIn 46 = .ok (.goto 4, 3) := by decide +kernel
theorem dX0_hasIn_49 : decode cX0_hasIn 49 = .ok (.iconst 0, 1) := by decide +kernel
theorem dX0_hasIn_50 : decode cX0_hasIn 50 = .ok (.ireturn, 1) := by decide +kernel
theorem dX0_howManyIn_0 : decode cX0_howManyIn 0 = .ok (.aload_n 0, 1) := by decide +kernel
theorem dX0_howManyIn_1 : decode cX0_howManyIn 1 = .ok (.getfield 25, 3) := by decide +kernel
theorem dX0_howManyIn_4 : decode cX0_howManyIn 4 = .ok (.ifCond .eq 7, 3) := by decide +kernel
theorem dX0_howManyIn_7 : decode cX0_howManyIn 7 = .ok (.iconst 1, 1) := by decide +kernel
theorem dX0_howManyIn_8 : decode cX0_howManyIn 8 = .ok (.goto 4, 3) := by decide +kernel
theorem dX0_howManyIn_11 : decode cX0_howManyIn 11 = .ok (.iconst 0, 1) := by decide +kernel
theorem dX0_howManyIn_12 : decode cX0_howManyIn 12 = .ok (.aload_n 0, 1) := by decide +kernel
theorem dX0_howManyIn_13 : decode cX0_howManyIn 13 = .ok (.getfield 29, 3) := by decide +kernel
theorem dX0_howManyIn_16 : decode cX0_howManyIn 16 = .ok (.ifCond .eq 7, 3) := by decide +kernel
theorem dX0_howManyIn_19 : decode cX0_howManyIn 19 = .ok (.iconst 1, 1) := by decide +kernel
theorem dX0_howManyIn_20 : decode cX0_howManyIn 20 = .ok (.goto 4, 3) := by decide +kernel
theorem dX0_howManyIn_23 : decode cX0_howManyIn 23 = .ok (.iconst 0, 1) := by decide +kernel
theorem dX0_howManyIn_24 : decode cX0_howManyIn 24 = .ok (.iadd, 1) := by decide +kernel
theorem dX0_howManyIn_25 : decode cX0_howManyIn 25 = .ok (.aload_n 0, 1) := by decide +kernel
theorem dX0_howManyIn_26 : decode cX0_howManyIn 26 = .ok (.getfield 32, 3) := by decide +kernel
theorem dX0_howManyIn_29 : decode cX0_howManyIn 29 = .ok (.ifnull 7, 3) := by decide +kernel
theorem dX0_howManyIn_32 : decode cX0_howManyIn 32 = .ok (.iconst 1, 1) := by decide +kernel
theorem dX0_howManyIn_33 : decode cX0_howManyIn 33 = .ok (.goto 4, 3) := by decide +kernel
theorem dX0_howManyIn_36 : decode cX0_howManyIn 36 = .ok (.iconst 0, 1) := by decide +kernel
theorem dX0_howManyIn_37 : decode cX0_howManyIn 37 = .ok (.iadd, 1) := by decide +kernel
theorem dX0_howManyIn_38 : decode cX0_howManyIn 38 = .ok (.ireturn, 1) := by decide +kernel
theorem dX0_letIn_0 : decode cX0_letIn 0 = .ok (.iload_n 1, 1) := by decide +kernel
theorem dX0_letIn_1 : decode cX0_letIn 1 = .ok (.lookupswitch 43 #[(0, 27), (1, 35)], 27) := by decide +kernel
theorem dX0_letIn_28 : decode cX0_letIn 28 = .ok (.aload_n 0, 1) := by decide +kernel
theorem dX0_letIn_29 : decode cX0_letIn 29 = .ok (.iconst 1, 1) := by decide +kernel
theorem dX0_letIn_30 : decode cX0_letIn 30 = .ok (.putfield 25, 3) := by decide +kernel
theorem dX0_letIn_33 : decode cX0_letIn 33 = .ok (.goto 16, 3) := by decide +kernel
theorem dX0_letIn_36 : decode cX0_letIn 36 = .ok (.aload_n 0, 1) := by decide +kernel
theorem dX0_letIn_37 : decode cX0_letIn 37 = .ok (.iconst 1, 1) := by decide +kernel
theorem dX0_letIn_38 : decode cX0_letIn 38 = .ok (.putfield 29, 3) := by decide +kernel
theorem dX0_letIn_41 : decode cX0_letIn 41 = .ok (.goto 8, 3) := by decide +kernel
theorem dX0_letIn_44 : decode cX0_letIn 44 = .ok (.aload_n 0, 1) := by decide +kernel
theorem dX0_letIn_45 : decode cX0_letIn 45 = .ok (.aload_n 2, 1) := by decide +kernel
theorem dX0_letIn_46 : decode cX0_letIn 46 = .ok (.putfield 32, 3) := by decide +kernel
theorem dX0_letIn_49 : decode cX0_letIn 49 = .ok (.return_, 1) := by decide +kernel
theorem dX0_letOut_0 : decode cX0_letOut 0 = .ok (.iload_n 1, 1) := by decide +kernel
theorem dX0_letOut_1 : decode cX0_letOut 1 = .ok (.lookupswitch 43 #[(0, 27), (1, 35)], 27) := by decide +kernel
theorem dX0_letOut_28 : decode cX0_letOut 28 = .ok (.aload_n 0, 1) := by decide +kernel
theorem dX0_letOut_29 : decode cX0_letOut 29 = .ok (.iconst 0, 1) := by decide +kernel
theorem dX0_letOut_30 : decode cX0_letOut 30 = .ok (.putfield 25, 3) := by decide +kernel
theorem dX0_letOut_33 : decode cX0_letOut 33 = .ok (.goto 16, 3) := by decide +kernel
theorem dX0_letOut_36 : decode cX0_letOut 36 = .ok (.aload_n 0, 1) := by decide +kernel
theorem dX0_letOut_37 : decode cX0_letOut 37 = .ok (.iconst 0, 1) := by decide +kernel
theorem dX0_letOut_38 : decode cX0_letOut 38 = .ok (.putfield 29, 3) := by decide +kernel
theorem dX0_letOut_41 : decode cX0_letOut 41 = .ok (.goto 8, 3) := by decide +kernel
theorem dX0_letOut_44 : decode cX0_letOut 44 = .ok (.aload_n 0, 1) := by decide +kernel
theorem dX0_letOut_45 : decode cX0_letOut 45 = .ok (.aconst_null, 1) := by decide +kernel
theorem dX0_letOut_46 : decode cX0_letOut 46 = .ok (.putfield 32, 3) := by decide +kernel
theorem dX0_letOut_49 : decode cX0_letOut 49 = .ok (.aload_n 0, 1) := by decide +kernel
theorem dX0_letOut_50 : decode cX0_letOut 50 = .ok (.iconst 0, 1) := by decide +kernel
theorem dX0_letOut_51 : decode cX0_letOut 51 = .ok (.putfield 9, 3) := by decide +kernel
theorem dX0_letOut_54 : decode cX0_letOut 54 = .ok (.aload_n 0, 1) := by decide +kernel
theorem dX0_letOut_55 : decode cX0_letOut 55 = .ok (.iconst (-1), 1) := by decide +kernel
theorem dX0_letOut_56 : decode cX0_letOut 56 = .ok (.putfield 15, 3) := by decide +kernel
theorem dX0_letOut_59 : decode cX0_letOut 59 = .ok (.return_, 1) := by decide +kernel
theorem dX1_init_0 : decode cX1_init 0 = .ok (.aload_n 0, 1) := by decide +kernel
theorem dX1_init_1 : decode cX1_init 1 = .ok (.invokespecial 1, 3) := by decide +kernel
theorem dX1_init_4 : decode cX1_init 4 = .ok (.aload_n 0, 1) := by decide +kernel
theorem dX1_init_5 : decode cX1_init 5 = .ok (.iload_n 1, 1) := by decide +kernel
theorem dX1_init_6 : decode cX1_init 6 = .ok (.putfield 7, 3) := by decide +kernel
theorem dX1_init_9 : decode cX1_init 9 = .ok (.aload_n 0, 1) := by decide +kernel
theorem dX1_init_10 : decode cX1_init 10 = .ok (.iload_n 2, 1) := by decide +kernel
theorem dX1_init_11 : decode cX1_init 11 = .ok (.putfield 13, 3) := by decide +kernel
theorem dX1_init_14 : decode cX1_init 14 = .ok (.aload_n 0, 1) := by decide +kernel
theorem dX1_init_15 : decode cX1_init 15 = .ok (.iload_n 3, 1) := by decide +kernel
theorem dX1_init_16 : decode cX1_init 16 = .ok (.putfield 16, 3) := by decide +kernel
theorem dX1_init_19 : decode cX1_init 19 = .ok (.return_, 1) := by decide +kernel
theorem dX2_init_0 : decode cX2_init 0 = .ok (.aload_n 0, 1) := by decide +kernel
theorem dX2_init_1 : decode cX2_init 1 = .ok (.invokespecial 1, 3) := by decide +kernel
theorem dX2_init_4 : decode cX2_init 4 = .ok (.aload_n 0, 1) := by decide +kernel
theorem dX2_init_5 : decode cX2_init 5 = .ok (.iload_n 1, 1) := by decide +kernel
theorem dX2_init_6 : decode cX2_init 6 = .ok (.putfield 7, 3) := by decide +kernel
theorem dX2_init_9 : decode cX2_init 9 = .ok (.aload_n 0, 1) := by decide +kernel
theorem dX2_init_10 : decode cX2_init 10 = .ok (.iload_n 2, 1) := by decide +kernel
theorem dX2_init_11 : decode cX2_init 11 = .ok (.putfield 13, 3) := by decide +kernel
theorem dX2_init_14 : decode cX2_init 14 = .ok (.aload_n 0, 1) := by decide +kernel
theorem dX2_init_15 : decode cX2_init 15 = .ok (.iload_n 3, 1) := by decide +kernel
theorem dX2_init_16 : decode cX2_init 16 = .ok (.putfield 16, 3) := by decide +kernel
theorem dX2_init_19 : decode cX2_init 19 = .ok (.aload_n 0, 1) := by decide +kernel
theorem dX2_init_20 : decode cX2_init 20 = .ok (.iload 4, 2) := by decide +kernel
theorem dX2_init_22 : decode cX2_init 22 = .ok (.putfield 19, 3) := by decide +kernel
theorem dX2_init_25 : decode cX2_init 25 = .ok (.aload_n 0, 1) := by decide +kernel
theorem dX2_init_26 : decode cX2_init 26 = .ok (.iload 5, 2) := by decide +kernel
theorem dX2_init_28 : decode cX2_init 28 = .ok (.putfield 22, 3) := by decide +kernel
theorem dX2_init_31 : decode cX2_init 31 = .ok (.return_, 1) := by decide +kernel
theorem dX2_minutesWithRest_0 : decode cX2_minutesWithRest 0 = .ok (.aload_n 0, 1) := by decide +kernel
theorem dX2_minutesWithRest_1 : decode cX2_minutesWithRest 1 = .ok (.getfield 19, 3) := by decide +kernel
theorem dX2_minutesWithRest_4 : decode cX2_minutesWithRest 4 = .ok (.bipush 60, 2) := by decide +kernel
theorem dX2_minutesWithRest_6 : decode cX2_minutesWithRest 6 = .ok (.aload_n 0, 1) := by decide +kernel
theorem dX2_minutesWithRest_7 : decode cX2_minutesWithRest 7 = .ok (.getfield 19, 3) := by decide +kernel
theorem dX2_minutesWithRest_10 : decode cX2_minutesWithRest 10 = .ok (.invokestatic 25, 3) := by decide +kernel
theorem dX2_minutesWithRest_13 : decode cX2_minutesWithRest 13 = .ok (.iadd, 1) := by decide +kernel
theorem dX2_minutesWithRest_14 : decode cX2_minutesWithRest 14 = .ok (.ireturn, 1) := by decide +kernel
theorem dX3_init_0 : decode cX3_init 0 = .ok (.aload_n 0, 1) := by decide +kernel
theorem dX3_init_1 : decode cX3_init 1 = .ok (.invokespecial 1, 3) := by decide +kernel
theorem dX3_init_4 : decode cX3_init 4 = .ok (.aload_n 0, 1) := by decide +kernel
theorem dX3_init_5 : decode cX3_init 5 = .ok (.bipush 100, 2) := by decide +kernel
theorem dX3_init_7 : decode cX3_init 7 = .ok (.putfield 7, 3) := by decide +kernel
theorem dX3_init_10 : decode cX3_init 10 = .ok (.aload_n 0, 1) := by decide +kernel
theorem dX3_init_11 : decode cX3_init 11 = .ok (.bipush 40, 2) := by decide +kernel
theorem dX3_init_13 : decode cX3_init 13 = .ok (.putfield 13, 3) := by decide +kernel
theorem dX3_init_16 : decode cX3_init 16 = .ok (.return_, 1) := by decide +kernel
theorem dX3_aboveDepth_0 : decode cX3_aboveDepth 0 = .ok (.iload_n 1, 1) := by decide +kernel
theorem dX3_aboveDepth_1 : decode cX3_aboveDepth 1 = .ok (.sipush 720, 3) := by decide +kernel
theorem dX3_aboveDepth_4 : decode cX3_aboveDepth 4 = .ok (.irem, 1) := by decide +kernel
theorem dX3_aboveDepth_5 : decode cX3_aboveDepth 5 = .ok (.istore_n 2, 1) := by decide +kernel
theorem dX3_aboveDepth_6 : decode cX3_aboveDepth 6 = .ok (.iload_n 2, 1) := by decide +kernel
theorem dX3_aboveDepth_7 : decode cX3_aboveDepth 7 = .ok (.sipush 720, 3) := by decide +kernel
theorem dX3_aboveDepth_10 : decode cX3_aboveDepth 10 = .ok (.iload_n 2, 1) := by decide +kernel
theorem dX3_aboveDepth_11 : decode cX3_aboveDepth 11 = .ok (.isub, 1) := by decide +kernel
theorem dX3_aboveDepth_12 : decode cX3_aboveDepth 12 = .ok (.invokestatic 16, 3) := by decide +kernel
theorem dX3_aboveDepth_15 : decode cX3_aboveDepth 15 = .ok (.aload_n 0, 1) := by decide +kernel
theorem dX3_aboveDepth_16 : decode cX3_aboveDepth 16 = .ok (.getfield 13, 3) := by decide +kernel
theorem dX3_aboveDepth_19 : decode cX3_aboveDepth 19 = .ok (.imul, 1) := by decide +kernel
theorem dX3_aboveDepth_20 : decode cX3_aboveDepth 20 = .ok (.sipush 360, 3) := by decide +kernel
theorem dX3_aboveDepth_23 : decode cX3_aboveDepth 23 = .ok (.idiv, 1) := by decide +kernel
theorem dX3_aboveDepth_24 : decode cX3_aboveDepth 24 = .ok (.ireturn, 1) := by decide +kernel
theorem dX3_pastShallows_0 : decode cX3_pastShallows 0 = .ok (.aload_n 1, 1) := by decide +kernel
theorem dX3_pastShallows_1 : decode cX3_pastShallows 1 = .ok (.getfield 22, 3) := by decide +kernel
theorem dX3_pastShallows_4 : decode cX3_pastShallows 4 = .ok (.bipush 10, 2) := by decide +kernel
theorem dX3_pastShallows_6 : decode cX3_pastShallows 6 = .ok (.iadd, 1) := by decide +kernel
theorem dX3_pastShallows_7 : decode cX3_pastShallows 7 = .ok (.istore_n 3, 1) := by decide +kernel
theorem dX3_pastShallows_8 : decode cX3_pastShallows 8 = .ok (.iload_n 2, 1) := by decide +kernel
theorem dX3_pastShallows_9 : decode cX3_pastShallows 9 = .ok (.aload_n 1, 1) := by decide +kernel
theorem dX3_pastShallows_10 : decode cX3_pastShallows 10 = .ok (.getfield 27, 3) := by decide +kernel
theorem dX3_pastShallows_13 : decode cX3_pastShallows 13 = .ok (.iadd, 1) := by decide +kernel
theorem dX3_pastShallows_14 : decode cX3_pastShallows 14 = .ok (.iconst 1, 1) := by decide +kernel
theorem dX3_pastShallows_15 : decode cX3_pastShallows 15 = .ok (.isub, 1) := by decide +kernel
theorem dX3_pastShallows_16 : decode cX3_pastShallows 16 = .ok (.istore 4, 2) := by decide +kernel
theorem dX3_pastShallows_18 : decode cX3_pastShallows 18 = .ok (.iload 4, 2) := by decide +kernel
theorem dX3_pastShallows_20 : decode cX3_pastShallows 20 = .ok (.iload_n 2, 1) := by decide +kernel
theorem dX3_pastShallows_21 : decode cX3_pastShallows 21 = .ok (.if_icmp .lt 29, 3) := by decide +kernel
theorem dX3_pastShallows_24 : decode cX3_pastShallows 24 = .ok (.aload_n 0, 1) := by decide +kernel
theorem dX3_pastShallows_25 : decode cX3_pastShallows 25 = .ok (.getfield 7, 3) := by decide +kernel
theorem dX3_pastShallows_28 : decode cX3_pastShallows 28 = .ok (.aload_n 0, 1) := by decide +kernel
theorem dX3_pastShallows_29 : decode cX3_pastShallows 29 = .ok (.iload 4, 2) := by decide +kernel
theorem dX3_pastShallows_31 : decode cX3_pastShallows 31 = .ok (.invokevirtual 30, 3) := by decide +kernel
theorem dX3_pastShallows_34 : decode cX3_pastShallows 34 = .ok (.iadd, 1) := by decide +kernel
theorem dX3_pastShallows_35 : decode cX3_pastShallows 35 = .ok (.iload_n 3, 1) := by decide +kernel
theorem dX3_pastShallows_36 : decode cX3_pastShallows 36 = .ok (.if_icmp .ge 8, 3) := by decide +kernel
theorem dX3_pastShallows_39 : decode cX3_pastShallows 39 = .ok (.iload 4, 2) := by decide +kernel
theorem dX3_pastShallows_41 : decode cX3_pastShallows 41 = .ok (.iconst 1, 1) := by decide +kernel
theorem dX3_pastShallows_42 : decode cX3_pastShallows 42 = .ok (.iadd, 1) := by decide +kernel
theorem dX3_pastShallows_43 : decode cX3_pastShallows 43 = .ok (.ireturn, 1) := by decide +kernel
theorem dX3_pastShallows_44 : decode cX3_pastShallows 44 = .ok (.iinc 4 (-1), 3) := by decide +kernel
theorem dX3_pastShallows_47 : decode cX3_pastShallows 47 = .ok (.goto (-29), 3) := by decide +kernel
theorem dX3_pastShallows_50 : decode cX3_pastShallows 50 = .ok (.iload_n 2, 1) := by decide +kernel
theorem dX3_pastShallows_51 : decode cX3_pastShallows 51 = .ok (.ireturn, 1) := by decide +kernel
theorem dX4_init_0 : decode cX4_init 0 = .ok (.aload_n 0, 1) := by decide +kernel
theorem dX4_init_1 : decode cX4_init 1 = .ok (.invokespecial 1, 3) := by decide +kernel
theorem dX4_init_4 : decode cX4_init 4 = .ok (.aload_n 0, 1) := by decide +kernel
theorem dX4_init_5 : decode cX4_init 5 = .ok (.new 7, 3) := by decide +kernel
theorem dX4_init_8 : decode cX4_init 8 = .ok (.dup, 1) := by decide +kernel
theorem dX4_init_9 : decode cX4_init 9 = .ok (.invokespecial 9, 3) := by decide +kernel
theorem dX4_init_12 : decode cX4_init 12 = .ok (.putfield 10, 3) := by decide +kernel
theorem dX4_init_15 : decode cX4_init 15 = .ok (.aload_n 0, 1) := by decide +kernel
theorem dX4_init_16 : decode cX4_init 16 = .ok (.new 16, 3) := by decide +kernel
theorem dX4_init_19 : decode cX4_init 19 = .ok (.dup, 1) := by decide +kernel
theorem dX4_init_20 : decode cX4_init 20 = .ok (.invokespecial 18, 3) := by decide +kernel
theorem dX4_init_23 : decode cX4_init 23 = .ok (.putfield 19, 3) := by decide +kernel
theorem dX4_init_26 : decode cX4_init 26 = .ok (.aload_n 0, 1) := by decide +kernel
theorem dX4_init_27 : decode cX4_init 27 = .ok (.new 16, 3) := by decide +kernel
theorem dX4_init_30 : decode cX4_init 30 = .ok (.dup, 1) := by decide +kernel
theorem dX4_init_31 : decode cX4_init 31 = .ok (.invokespecial 18, 3) := by decide +kernel
theorem dX4_init_34 : decode cX4_init 34 = .ok (.putfield 23, 3) := by decide +kernel
theorem dX4_init_37 : decode cX4_init 37 = .ok (.aload_n 0, 1) := by decide +kernel
theorem dX4_init_38 : decode cX4_init 38 = .ok (.new 16, 3) := by decide +kernel
theorem dX4_init_41 : decode cX4_init 41 = .ok (.dup, 1) := by decide +kernel
theorem dX4_init_42 : decode cX4_init 42 = .ok (.invokespecial 18, 3) := by decide +kernel
theorem dX4_init_45 : decode cX4_init 45 = .ok (.putfield 26, 3) := by decide +kernel
theorem dX4_init_48 : decode cX4_init 48 = .ok (.aload_n 0, 1) := by decide +kernel
theorem dX4_init_49 : decode cX4_init 49 = .ok (.iconst 2, 1) := by decide +kernel
theorem dX4_init_50 : decode cX4_init 50 = .ok (.putfield 29, 3) := by decide +kernel
theorem dX4_init_53 : decode cX4_init 53 = .ok (.return_, 1) := by decide +kernel
theorem dX4_tide_0 : decode cX4_tide 0 = .ok (.iload_n 1, 1) := by decide +kernel
theorem dX4_tide_1 : decode cX4_tide 1 = .ok (.bipush 10, 2) := by decide +kernel
theorem dX4_tide_3 : decode cX4_tide 3 = .ok (.sipush 300, 3) := by decide +kernel
theorem dX4_tide_6 : decode cX4_tide 6 = .ok (.invokestatic 33, 3) := by decide +kernel
theorem dX4_tide_9 : decode cX4_tide 9 = .ok (.iload_n 2, 1) := by decide +kernel
theorem dX4_tide_10 : decode cX4_tide 10 = .ok (.iconst 0, 1) := by decide +kernel
theorem dX4_tide_11 : decode cX4_tide 11 = .ok (.sipush 200, 3) := by decide +kernel
theorem dX4_tide_14 : decode cX4_tide 14 = .ok (.invokestatic 33, 3) := by decide +kernel
theorem dX4_tide_17 : decode cX4_tide 17 = .ok (.aload_n 0, 1) := by decide +kernel
theorem dX4_tide_18 : decode cX4_tide 18 = .ok (.getfield 10, 3) := by decide +kernel
theorem dX4_tide_21 : decode cX4_tide 21 = .ok (.iload_n 1, 1) := by decide +kernel
theorem dX4_tide_22 : decode cX4_tide 22 = .ok (.putfield 37, 3) := by decide +kernel
theorem dX4_tide_25 : decode cX4_tide 25 = .ok (.aload_n 0, 1) := by decide +kernel
theorem dX4_tide_26 : decode cX4_tide 26 = .ok (.getfield 10, 3) := by decide +kernel
theorem dX4_tide_29 : decode cX4_tide 29 = .ok (.iload_n 2, 1) := by decide +kernel
theorem dX4_tide_30 : decode cX4_tide 30 = .ok (.putfield 40, 3) := by decide +kernel
theorem dX4_tide_33 : decode cX4_tide 33 = .ok (.return_, 1) := by decide +kernel
theorem dX4_tugs_0 : decode cX4_tugs 0 = .ok (.iload_n 1, 1) := by decide +kernel
theorem dX4_tugs_1 : decode cX4_tugs 1 = .ok (.iconst 0, 1) := by decide +kernel
theorem dX4_tugs_2 : decode cX4_tugs 2 = .ok (.bipush 6, 2) := by decide +kernel
theorem dX4_tugs_4 : decode cX4_tugs 4 = .ok (.invokestatic 33, 3) := by decide +kernel
theorem dX4_tugs_7 : decode cX4_tugs 7 = .ok (.aload_n 0, 1) := by decide +kernel
theorem dX4_tugs_8 : decode cX4_tugs 8 = .ok (.getfield 29, 3) := by decide +kernel
theorem dX4_tugs_11 : decode cX4_tugs 11 = .ok (.istore_n 2, 1) := by decide +kernel
theorem dX4_tugs_12 : decode cX4_tugs 12 = .ok (.aload_n 0, 1) := by decide +kernel
theorem dX4_tugs_13 : decode cX4_tugs 13 = .ok (.iload_n 1, 1) := by decide +kernel
theorem dX4_tugs_14 : decode cX4_tugs 14 = .ok (.putfield 29, 3) := by decide +kernel
theorem dX4_tugs_17 : decode cX4_tugs 17 = .ok (.iload_n 2, 1) := by decide +kernel
theorem dX4_tugs_18 : decode cX4_tugs 18 = .ok (.ireturn, 1) := by decide +kernel
theorem dX4_ship_0 : decode cX4_ship 0 = .ok (.iload_n 1, 1) := by decide +kernel
theorem dX4_ship_1 : decode cX4_ship 1 = .ok (.iconst 1, 1) := by decide +kernel
theorem dX4_ship_2 : decode cX4_ship 2 = .ok (.sipush 400, 3) := by decide +kernel
theorem dX4_ship_5 : decode cX4_ship 5 = .ok (.invokestatic 33, 3) := by decide +kernel
theorem dX4_ship_8 : decode cX4_ship 8 = .ok (.iload_n 2, 1) := by decide +kernel
theorem dX4_ship_9 : decode cX4_ship 9 = .ok (.iconst 1, 1) := by decide +kernel
theorem dX4_ship_10 : decode cX4_ship 10 = .ok (.sipush 9999, 3) := by decide +kernel
theorem dX4_ship_13 : decode cX4_ship 13 = .ok (.invokestatic 33, 3) := by decide +kernel
theorem dX4_ship_16 : decode cX4_ship 16 = .ok (.iload_n 3, 1) := by decide +kernel
theorem dX4_ship_17 : decode cX4_ship 17 = .ok (.bipush 10, 2) := by decide +kernel
theorem dX4_ship_19 : decode cX4_ship 19 = .ok (.bipush 120, 2) := by decide +kernel
theorem dX4_ship_21 : decode cX4_ship 21 = .ok (.invokestatic 33, 3) := by decide +kernel
theorem dX4_ship_24 : decode cX4_ship 24 = .ok (.iload 4, 2) := by decide +kernel
theorem dX4_ship_26 : decode cX4_ship 26 = .ok (.iconst 0, 1) := by decide +kernel
theorem dX4_ship_27 : decode cX4_ship 27 = .ok (.iconst 3, 1) := by decide +kernel
theorem dX4_ship_28 : decode cX4_ship 28 = .ok (.invokestatic 33, 3) := by decide +kernel
theorem dX4_ship_31 : decode cX4_ship 31 = .ok (.aload_n 0, 1) := by decide +kernel
theorem dX4_ship_32 : decode cX4_ship 32 = .ok (.getfield 19, 3) := by decide +kernel
theorem dX4_ship_35 : decode cX4_ship 35 = .ok (.invokevirtual 43, 3) := by decide +kernel
theorem dX4_ship_38 : decode cX4_ship 38 = .ok (.istore 5, 2) := by decide +kernel
theorem dX4_ship_40 : decode cX4_ship 40 = .ok (.iload 5, 2) := by decide +kernel
theorem dX4_ship_42 : decode cX4_ship 42 = .ok (.bipush 12, 2) := by decide +kernel
theorem dX4_ship_44 : decode cX4_ship 44 = .ok (.invokestatic 47, 3) := by decide +kernel
theorem dX4_ship_47 : decode cX4_ship 47 = .ok (.aload_n 0, 1) := by decide +kernel
theorem dX4_ship_48 : decode cX4_ship 48 = .ok (.getfield 19, 3) := by decide +kernel
theorem dX4_ship_51 : decode cX4_ship 51 = .ok (.new 51, 3) := by decide +kernel
theorem dX4_ship_54 : decode cX4_ship 54 = .ok (.dup, 1) := by decide +kernel
theorem dX4_ship_55 : decode cX4_ship 55 = .ok (.iload 5, 2) := by decide +kernel
theorem dX4_ship_57 : decode cX4_ship 57 = .ok (.iload_n 1, 1) := by decide +kernel
theorem dX4_ship_58 : decode cX4_ship 58 = .ok (.iload_n 2, 1) := by decide +kernel
theorem dX4_ship_59 : decode cX4_ship 59 = .ok (.iload_n 3, 1) := by decide +kernel
theorem dX4_ship_60 : decode cX4_ship 60 = .ok (.iload 4, 2) := by decide +kernel
theorem dX4_ship_62 : decode cX4_ship 62 = .ok (.invokespecial 53, 3) := by decide +kernel
theorem dX4_ship_65 : decode cX4_ship 65 = .ok (.invokevirtual 56, 3) := by decide +kernel
theorem dX4_ship_68 : decode cX4_ship 68 = .ok (.pop, 1) := by decide +kernel
theorem dX4_ship_69 : decode cX4_ship 69 = .ok (.iload 5, 2) := by decide +kernel
theorem dX4_ship_71 : decode cX4_ship 71 = .ok (.ireturn, 1) := by decide +kernel
theorem dX4_pilot_0 : decode cX4_pilot 0 = .ok (.iload_n 1, 1) := by decide +kernel
theorem dX4_pilot_1 : decode cX4_pilot 1 = .ok (.iconst 1, 1) := by decide +kernel
theorem dX4_pilot_2 : decode cX4_pilot 2 = .ok (.sipush 9999, 3) := by decide +kernel
theorem dX4_pilot_5 : decode cX4_pilot 5 = .ok (.invokestatic 33, 3) := by decide +kernel
theorem dX4_pilot_8 : decode cX4_pilot 8 = .ok (.iload_n 2, 1) := by decide +kernel
theorem dX4_pilot_9 : decode cX4_pilot 9 = .ok (.iconst 1, 1) := by decide +kernel
theorem dX4_pilot_10 : decode cX4_pilot 10 = .ok (.bipush 50, 2) := by decide +kernel
theorem dX4_pilot_12 : decode cX4_pilot 12 = .ok (.invokestatic 33, 3) := by decide +kernel
theorem dX4_pilot_15 : decode cX4_pilot 15 = .ok (.aload_n 0, 1) := by decide +kernel
theorem dX4_pilot_16 : decode cX4_pilot 16 = .ok (.getfield 23, 3) := by decide +kernel
theorem dX4_pilot_19 : decode cX4_pilot 19 = .ok (.invokevirtual 43, 3) := by decide +kernel
theorem dX4_pilot_22 : decode cX4_pilot 22 = .ok (.istore_n 3, 1) := by decide +kernel
theorem dX4_pilot_23 : decode cX4_pilot 23 = .ok (.iload_n 3, 1) := by decide +kernel
theorem dX4_pilot_24 : decode cX4_pilot 24 = .ok (.bipush 8, 2) := by decide +kernel
theorem dX4_pilot_26 : decode cX4_pilot 26 = .ok (.invokestatic 47, 3) := by decide +kernel
theorem dX4_pilot_29 : decode cX4_pilot 29 = .ok (.aload_n 0, 1) := by decide +kernel
theorem dX4_pilot_30 : decode cX4_pilot 30 = .ok (.getfield 23, 3) := by decide +kernel
theorem dX4_pilot_33 : decode cX4_pilot 33 = .ok (.new 60, 3) := by decide +kernel
theorem dX4_pilot_36 : decode cX4_pilot 36 = .ok (.dup, 1) := by decide +kernel
theorem dX4_pilot_37 : decode cX4_pilot 37 = .ok (.iload_n 3, 1) := by decide +kernel
theorem dX4_pilot_38 : decode cX4_pilot 38 = .ok (.iload_n 1, 1) := by decide +kernel
theorem dX4_pilot_39 : decode cX4_pilot 39 = .ok (.iload_n 2, 1) := by decide +kernel
theorem dX4_pilot_40 : decode cX4_pilot 40 = .ok (.invokespecial 62, 3) := by decide +kernel
theorem dX4_pilot_43 : decode cX4_pilot 43 = .ok (.invokevirtual 56, 3) := by decide +kernel
theorem dX4_pilot_46 : decode cX4_pilot 46 = .ok (.pop, 1) := by decide +kernel
theorem dX4_pilot_47 : decode cX4_pilot 47 = .ok (.iload_n 3, 1) := by decide +kernel
theorem dX4_pilot_48 : decode cX4_pilot 48 = .ok (.ireturn, 1) := by decide +kernel
theorem dX4_call_0 : decode cX4_call 0 = .ok (.aload_n 0, 1) := by decide +kernel
theorem dX4_call_1 : decode cX4_call 1 = .ok (.iload_n 1, 1) := by decide +kernel
theorem dX4_call_2 : decode cX4_call 2 = .ok (.invokevirtual 64, 3) := by decide +kernel
theorem dX4_call_5 : decode cX4_call 5 = .ok (.astore_n 3, 1) := by decide +kernel
theorem dX4_call_6 : decode cX4_call 6 = .ok (.iload_n 2, 1) := by decide +kernel
theorem dX4_call_7 : decode cX4_call 7 = .ok (.aload_n 0, 1) := by decide +kernel
theorem dX4_call_8 : decode cX4_call 8 = .ok (.getfield 68, 3) := by decide +kernel
theorem dX4_call_11 : decode cX4_call 11 = .ok (.sipush 20000, 3) := by decide +kernel
theorem dX4_call_14 : decode cX4_call 14 = .ok (.invokestatic 33, 3) := by decide +kernel
theorem dX4_call_17 : decode cX4_call 17 = .ok (.aload_n 0, 1) := by decide +kernel
theorem dX4_call_18 : decode cX4_call 18 = .ok (.getfield 26, 3) := by decide +kernel
theorem dX4_call_21 : decode cX4_call 21 = .ok (.invokevirtual 43, 3) := by decide +kernel
theorem dX4_call_24 : decode cX4_call 24 = .ok (.istore 4, 2) := by decide +kernel
theorem dX4_call_26 : decode cX4_call 26 = .ok (.iload 4, 2) := by decide +kernel
theorem dX4_call_28 : decode cX4_call 28 = .ok (.bipush 40, 2) := by decide +kernel
theorem dX4_call_30 : decode cX4_call 30 = .ok (.invokestatic 47, 3) := by decide +kernel
theorem dX4_call_33 : decode cX4_call 33 = .ok (.aload_n 0, 1) := by decide +kernel
theorem dX4_call_34 : decode cX4_call 34 = .ok (.getfield 26, 3) := by decide +kernel
theorem dX4_call_37 : decode cX4_call 37 = .ok (.new 71, 3) := by decide +kernel
theorem dX4_call_40 : decode cX4_call 40 = .ok (.dup, 1) := by decide +kernel
theorem dX4_call_41 : decode cX4_call 41 = .ok (.aload_n 3, 1) := by decide +kernel
theorem dX4_call_42 : decode cX4_call 42 = .ok (.iload_n 2, 1) := by decide +kernel
theorem dX4_call_43 : decode cX4_call 43 = .ok (.invokespecial 73, 3) := by decide +kernel
theorem dX4_call_46 : decode cX4_call 46 = .ok (.invokevirtual 56, 3) := by decide +kernel
theorem dX4_call_49 : decode cX4_call 49 = .ok (.pop, 1) := by decide +kernel
theorem dX4_call_50 : decode cX4_call 50 = .ok (.iload 4, 2) := by decide +kernel
theorem dX4_call_52 : decode cX4_call 52 = .ok (.ireturn, 1) := by decide +kernel
theorem dX4_join_0 : decode cX4_join 0 = .ok (.aload_n 0, 1) := by decide +kernel
theorem dX4_join_1 : decode cX4_join 1 = .ok (.iload_n 1, 1) := by decide +kernel
theorem dX4_join_2 : decode cX4_join 2 = .ok (.invokevirtual 76, 3) := by decide +kernel
theorem dX4_join_5 : decode cX4_join 5 = .ok (.astore 4, 2) := by decide +kernel
theorem dX4_join_7 : decode cX4_join 7 = .ok (.iload_n 2, 1) := by decide +kernel
theorem dX4_join_8 : decode cX4_join 8 = .ok (.invokestatic 80, 3) := by decide +kernel
theorem dX4_join_11 : decode cX4_join 11 = .ok (.iload_n 2, 1) := by decide +kernel
theorem dX4_join_12 : decode cX4_join 12 = .ok (.iconst 2, 1) := by decide +kernel
theorem dX4_join_13 : decode cX4_join 13 = .ok (.if_icmp .ne 11, 3) := by decide +kernel
theorem dX4_join_16 : decode cX4_join 16 = .ok (.aload_n 0, 1) := by decide +kernel
theorem dX4_join_17 : decode cX4_join 17 = .ok (.iload_n 3, 1) := by decide +kernel
theorem dX4_join_18 : decode cX4_join 18 = .ok (.invokevirtual 84, 3) := by decide +kernel
theorem dX4_join_21 : decode cX4_join 21 = .ok (.goto 4, 3) := by decide +kernel
theorem dX4_join_24 : decode cX4_join 24 = .ok (.aconst_null, 1) := by decide +kernel
theorem dX4_join_25 : decode cX4_join 25 = .ok (.astore 5, 2) := by decide +kernel
theorem dX4_join_27 : decode cX4_join 27 = .ok (.aload 4, 2) := by decide +kernel
theorem dX4_join_29 : decode cX4_join 29 = .ok (.iload_n 2, 1) := by decide +kernel
theorem dX4_join_30 : decode cX4_join 30 = .ok (.invokevirtual 88, 3) := by decide +kernel
theorem dX4_join_33 : decode cX4_join 33 = .ok (.ifCond .eq 13, 3) := by decide +kernel
theorem dX4_join_36 : decode cX4_join 36 = .ok (.new 92, 3) := by decide +kernel
theorem dX4_join_39 : decode cX4_join 39 = .ok (.dup, 1) := by decide +kernel
theorem dX4_join_40 : decode cX4_join 40 = .ok (.ldc 94, 2) := by decide +kernel
theorem dX4_join_42 : decode cX4_join 42 = .ok (.invokespecial 96, 3) := by decide +kernel
theorem dX4_join_45 : decode cX4_join 45 = .ok (.athrow, 1) := by decide +kernel
theorem dX4_join_46 : decode cX4_join 46 = .ok (.aload 5, 2) := by decide +kernel
theorem dX4_join_48 : decode cX4_join 48 = .ok (.ifnull 29, 3) := by decide +kernel
theorem dX4_join_51 : decode cX4_join 51 = .ok (.aload 5, 2) := by decide +kernel
theorem dX4_join_53 : decode cX4_join 53 = .ok (.getfield 99, 3) := by decide +kernel
theorem dX4_join_56 : decode cX4_join 56 = .ok (.aload 4, 2) := by decide +kernel
theorem dX4_join_58 : decode cX4_join 58 = .ok (.getfield 102, 3) := by decide +kernel
theorem dX4_join_61 : decode cX4_join 61 = .ok (.getfield 106, 3) := by decide +kernel
theorem dX4_join_64 : decode cX4_join 64 = .ok (.if_icmp .ge 13, 3) := by decide +kernel
theorem dX4_join_67 : decode cX4_join 67 = .ok (.new 92, 3) := by decide +kernel
theorem dX4_join_70 : decode cX4_join 70 = .ok (.dup, 1) := by decide +kernel
theorem dX4_join_71 : decode cX4_join 71 = .ok (.ldc 109, 2) := by decide +kernel
theorem dX4_join_73 : decode cX4_join 73 = .ok (.invokespecial 96, 3) := by decide +kernel
theorem dX4_join_76 : decode cX4_join 76 = .ok (.athrow, 1) := by decide +kernel
theorem dX4_join_77 : decode cX4_join 77 = .ok (.aload 4, 2) := by decide +kernel
theorem dX4_join_79 : decode cX4_join 79 = .ok (.iload_n 2, 1) := by decide +kernel
theorem dX4_join_80 : decode cX4_join 80 = .ok (.aload 5, 2) := by decide +kernel
theorem dX4_join_82 : decode cX4_join 82 = .ok (.invokevirtual 111, 3) := by decide +kernel
theorem dX4_join_85 : decode cX4_join 85 = .ok (.aload 4, 2) := by decide +kernel
theorem dX4_join_87 : decode cX4_join 87 = .ok (.invokevirtual 115, 3) := by decide +kernel
theorem dX4_join_90 : decode cX4_join 90 = .ok (.iconst 3, 1) := by decide +kernel
theorem dX4_join_91 : decode cX4_join 91 = .ok (.if_icmp .ne 9, 3) := by decide +kernel
theorem dX4_join_94 : decode cX4_join 94 = .ok (.aload_n 0, 1) := by decide +kernel
theorem dX4_join_95 : decode cX4_join 95 = .ok (.aload 4, 2) := by decide +kernel
theorem dX4_join_97 : decode cX4_join 97 = .ok (.invokevirtual 118, 3) := by decide +kernel
theorem dX4_join_100 : decode cX4_join 100 = .ok (.aload 4, 2) := by decide +kernel
theorem dX4_join_102 : decode cX4_join 102 = .ok (.getfield 122, 3) := by decide +kernel
theorem dX4_join_105 : decode cX4_join 105 = .ok (.ireturn, 1) := by decide +kernel
theorem dX4_again_0 : decode cX4_again 0 = .ok (.aload_n 0, 1) := by decide +kernel
theorem dX4_again_1 : decode cX4_again 1 = .ok (.iload_n 1, 1) := by decide +kernel
theorem dX4_again_2 : decode cX4_again 2 = .ok (.invokevirtual 76, 3) := by decide +kernel
theorem dX4_again_5 : decode cX4_again 5 = .ok (.astore_n 2, 1) := by decide +kernel
theorem dX4_again_6 : decode cX4_again 6 = .ok (.aload_n 2, 1) := by decide +kernel
theorem dX4_again_7 : decode cX4_again 7 = .ok (.getfield 125, 3) := by decide +kernel
theorem dX4_again_10 : decode cX4_again 10 = .ok (.iconst 1, 1) := by decide +kernel
theorem dX4_again_11 : decode cX4_again 11 = .ok (.if_icmp .eq 13, 3) := by decide +kernel
theorem dX4_again_14 : decode cX4_again 14 = .ok (.new 92, 3) := by decide +kernel
theorem dX4_again_17 : decode cX4_again 17 = .ok (.dup, 1) := by decide +kernel
theorem dX4_again_18 : decode cX4_again 18 = .ok (.ldc 128, 2) := by decide +kernel
theorem dX4_again_20 : decode cX4_again 20 = .ok (.invokespecial 96, 3) := by decide +kernel
theorem dX4_again_23 : decode cX4_again 23 = .ok (.athrow, 1) := by decide +kernel
theorem dX4_again_24 : decode cX4_again 24 = .ok (.aload_n 0, 1) := by decide +kernel
theorem dX4_again_25 : decode cX4_again 25 = .ok (.aload_n 2, 1) := by decide +kernel
theorem dX4_again_26 : decode cX4_again 26 = .ok (.invokevirtual 118, 3) := by decide +kernel
theorem dX4_again_29 : decode cX4_again 29 = .ok (.aload_n 2, 1) := by decide +kernel
theorem dX4_again_30 : decode cX4_again 30 = .ok (.getfield 122, 3) := by decide +kernel
theorem dX4_again_33 : decode cX4_again 33 = .ok (.ireturn, 1) := by decide +kernel
theorem dX4_drop_0 : decode cX4_drop 0 = .ok (.aload_n 0, 1) := by decide +kernel
theorem dX4_drop_1 : decode cX4_drop 1 = .ok (.iload_n 1, 1) := by decide +kernel
theorem dX4_drop_2 : decode cX4_drop 2 = .ok (.invokevirtual 76, 3) := by decide +kernel
theorem dX4_drop_5 : decode cX4_drop 5 = .ok (.astore_n 3, 1) := by decide +kernel
theorem dX4_drop_6 : decode cX4_drop 6 = .ok (.iload_n 2, 1) := by decide +kernel
theorem dX4_drop_7 : decode cX4_drop 7 = .ok (.invokestatic 80, 3) := by decide +kernel
theorem dX4_drop_10 : decode cX4_drop 10 = .ok (.aload_n 3, 1) := by decide +kernel
theorem dX4_drop_11 : decode cX4_drop 11 = .ok (.iload_n 2, 1) := by decide +kernel
theorem dX4_drop_12 : decode cX4_drop 12 = .ok (.invokevirtual 88, 3) := by decide +kernel
theorem dX4_drop_15 : decode cX4_drop 15 = .ok (.ifCond .ne 13, 3) := by decide +kernel
theorem dX4_drop_18 : decode cX4_drop 18 = .ok (.new 92, 3) := by decide +kernel
theorem dX4_drop_21 : decode cX4_drop 21 = .ok (.dup, 1) := by decide +kernel
theorem dX4_drop_22 : decode cX4_drop 22 = .ok (.ldc 130, 2) := by decide +kernel
theorem dX4_drop_24 : decode cX4_drop 24 = .ok (.invokespecial 96, 3) := by decide +kernel
theorem dX4_drop_27 : decode cX4_drop 27 = .ok (.athrow, 1) := by decide +kernel
theorem dX4_drop_28 : decode cX4_drop 28 = .ok (.aload_n 3, 1) := by decide +kernel
theorem dX4_drop_29 : decode cX4_drop 29 = .ok (.getfield 125, 3) := by decide +kernel
theorem dX4_drop_32 : decode cX4_drop 32 = .ok (.iconst 3, 1) := by decide +kernel
theorem dX4_drop_33 : decode cX4_drop 33 = .ok (.if_icmp .eq 11, 3) := by decide +kernel
theorem dX4_drop_36 : decode cX4_drop 36 = .ok (.aload_n 3, 1) := by decide +kernel
theorem dX4_drop_37 : decode cX4_drop 37 = .ok (.getfield 125, 3) := by decide +kernel
theorem dX4_drop_40 : decode cX4_drop 40 = .ok (.iconst 4, 1) := by decide +kernel
theorem dX4_drop_41 : decode cX4_drop 41 = .ok (.if_icmp .ne 13, 3) := by decide +kernel
theorem dX4_drop_44 : decode cX4_drop 44 = .ok (.new 92, 3) := by decide +kernel
theorem dX4_drop_47 : decode cX4_drop 47 = .ok (.dup, 1) := by decide +kernel
theorem dX4_drop_48 : decode cX4_drop 48 = .ok (.ldc 132, 2) := by decide +kernel
theorem dX4_drop_50 : decode cX4_drop 50 = .ok (.invokespecial 96, 3) := by decide +kernel
theorem dX4_drop_53 : decode cX4_drop 53 = .ok (.athrow, 1) := by decide +kernel
theorem dX4_drop_54 : decode cX4_drop 54 = .ok (.aload_n 3, 1) := by decide +kernel
theorem dX4_drop_55 : decode cX4_drop 55 = .ok (.getfield 122, 3) := by decide +kernel
theorem dX4_drop_58 : decode cX4_drop 58 = .ok (.iconst (-1), 1) := by decide +kernel
theorem dX4_drop_59 : decode cX4_drop 59 = .ok (.if_icmp .eq 7, 3) := by decide +kernel
theorem dX4_drop_62 : decode cX4_drop 62 = .ok (.iconst 1, 1) := by decide +kernel
theorem dX4_drop_63 : decode cX4_drop 63 = .ok (.goto 4, 3) := by decide +kernel
theorem dX4_drop_66 : decode cX4_drop 66 = .ok (.iconst 0, 1) := by decide +kernel
theorem dX4_drop_67 : decode cX4_drop 67 = .ok (.istore 4, 2) := by decide +kernel
theorem dX4_drop_69 : decode cX4_drop 69 = .ok (.aload_n 3, 1) := by decide +kernel
theorem dX4_drop_70 : decode cX4_drop 70 = .ok (.iload_n 2, 1) := by decide +kernel
theorem dX4_drop_71 : decode cX4_drop 71 = .ok (.invokevirtual 134, 3) := by decide +kernel
theorem dX4_drop_74 : decode cX4_drop 74 = .ok (.iload 4, 2) := by decide +kernel
theorem dX4_drop_76 : decode cX4_drop 76 = .ok (.ifCond .eq 10, 3) := by decide +kernel
theorem dX4_drop_79 : decode cX4_drop 79 = .ok (.aload_n 0, 1) := by decide +kernel
theorem dX4_drop_80 : decode cX4_drop 80 = .ok (.invokevirtual 137, 3) := by decide +kernel
theorem dX4_drop_83 : decode cX4_drop 83 = .ok (.goto 4, 3) := by decide +kernel
theorem dX4_drop_86 : decode cX4_drop 86 = .ok (.iconst 0, 1) := by decide +kernel
theorem dX4_drop_87 : decode cX4_drop 87 = .ok (.istore 5, 2) := by decide +kernel
theorem dX4_drop_89 : decode cX4_drop 89 = .ok (.aload_n 0, 1) := by decide +kernel
theorem dX4_drop_90 : decode cX4_drop 90 = .ok (.dup, 1) := by decide +kernel
theorem dX4_drop_91 : decode cX4_drop 91 = .ok (.getfield 140, 3) := by decide +kernel
theorem dX4_drop_94 : decode cX4_drop 94 = .ok (.iload 5, 2) := by decide +kernel
theorem dX4_drop_96 : decode cX4_drop 96 = .ok (.iadd, 1) := by decide +kernel
theorem dX4_drop_97 : decode cX4_drop 97 = .ok (.putfield 140, 3) := by decide +kernel
theorem dX4_drop_100 : decode cX4_drop 100 = .ok (.iload 5, 2) := by decide +kernel
theorem dX4_drop_102 : decode cX4_drop 102 = .ok (.ireturn, 1) := by decide +kernel
theorem dX4_pass_0 : decode cX4_pass 0 = .ok (.iload_n 1, 1) := by decide +kernel
theorem dX4_pass_1 : decode cX4_pass 1 = .ok (.iconst 1, 1) := by decide +kernel
theorem dX4_pass_2 : decode cX4_pass 2 = .ok (.sipush 2000, 3) := by decide +kernel
theorem dX4_pass_5 : decode cX4_pass 5 = .ok (.invokestatic 33, 3) := by decide +kernel
theorem dX4_pass_8 : decode cX4_pass 8 = .ok (.aload_n 0, 1) := by decide +kernel
theorem dX4_pass_9 : decode cX4_pass 9 = .ok (.getfield 68, 3) := by decide +kernel
theorem dX4_pass_12 : decode cX4_pass 12 = .ok (.iload_n 1, 1) := by decide +kernel
theorem dX4_pass_13 : decode cX4_pass 13 = .ok (.iadd, 1) := by decide +kernel
theorem dX4_pass_14 : decode cX4_pass 14 = .ok (.sipush 20000, 3) := by decide +kernel
theorem dX4_pass_17 : decode cX4_pass 17 = .ok (.if_icmp .le 13, 3) := by decide +kernel
theorem dX4_pass_20 : decode cX4_pass 20 = .ok (.new 92, 3) := by decide +kernel
theorem dX4_pass_23 : decode cX4_pass 23 = .ok (.dup, 1) := by decide +kernel
theorem dX4_pass_24 : decode cX4_pass 24 = .ok (.ldc 143, 2) := by decide +kernel
theorem dX4_pass_26 : decode cX4_pass 26 = .ok (.invokespecial 96, 3) := by decide +kernel
theorem dX4_pass_29 : decode cX4_pass 29 = .ok (.athrow, 1) := by decide +kernel
theorem dX4_pass_30 : decode cX4_pass 30 = .ok (.aload_n 0, 1) := by decide +kernel
theorem dX4_pass_31 : decode cX4_pass 31 = .ok (.dup, 1) := by decide +kernel
theorem dX4_pass_32 : decode cX4_pass 32 = .ok (.getfield 68, 3) := by decide +kernel
theorem dX4_pass_35 : decode cX4_pass 35 = .ok (.iload_n 1, 1) := by decide +kernel
theorem dX4_pass_36 : decode cX4_pass 36 = .ok (.iadd, 1) := by decide +kernel
theorem dX4_pass_37 : decode cX4_pass 37 = .ok (.putfield 68, 3) := by decide +kernel
theorem dX4_pass_40 : decode cX4_pass 40 = .ok (.iconst 0, 1) := by decide +kernel
theorem dX4_pass_41 : decode cX4_pass 41 = .ok (.istore_n 2, 1) := by decide +kernel
theorem dX4_pass_42 : decode cX4_pass 42 = .ok (.iconst 0, 1) := by decide +kernel
theorem dX4_pass_43 : decode cX4_pass 43 = .ok (.istore_n 3, 1) := by decide +kernel
theorem dX4_pass_44 : decode cX4_pass 44 = .ok (.iload_n 3, 1) := by decide +kernel
theorem dX4_pass_45 : decode cX4_pass 45 = .ok (.aload_n 0, 1) := by decide +kernel
theorem dX4_pass_46 : decode cX4_pass 46 = .ok (.getfield 26, 3) := by decide +kernel
theorem dX4_pass_49 : decode cX4_pass 49 = .ok (.invokevirtual 43, 3) := by decide +kernel
theorem dX4_pass_52 : decode cX4_pass 52 = .ok (.if_icmp .ge 30, 3) := by decide +kernel
theorem dX4_pass_55 : decode cX4_pass 55 = .ok (.aload_n 0, 1) := by decide +kernel
theorem dX4_pass_56 : decode cX4_pass 56 = .ok (.aload_n 0, 1) := by decide +kernel
theorem dX4_pass_57 : decode cX4_pass 57 = .ok (.getfield 26, 3) := by decide +kernel
theorem dX4_pass_60 : decode cX4_pass 60 = .ok (.iload_n 3, 1) := by decide +kernel
theorem dX4_pass_61 : decode cX4_pass 61 = .ok (.invokevirtual 145, 3) := by decide +kernel
theorem dX4_pass_64 : decode cX4_pass 64 = .ok (.checkcast 71, 3) := by decide +kernel
theorem dX4_pass_67 : decode cX4_pass 67 = .ok (.invokevirtual 149, 3) := by decide +kernel
theorem dX4_pass_70 : decode cX4_pass 70 = .ok (.ifCond .eq 6, 3) := by decide +kernel
theorem dX4_pass_73 : decode cX4_pass 73 = .ok (.iinc 2 1, 3) := by decide +kernel
theorem dX4_pass_76 : decode cX4_pass 76 = .ok (.iinc 3 1, 3) := by decide +kernel
theorem dX4_pass_79 : decode cX4_pass 79 = .ok (.goto (-35), 3) := by decide +kernel
theorem dX4_pass_82 : decode cX4_pass 82 = .ok (.iload_n 2, 1) := by decide +kernel
theorem dX4_pass_83 : decode cX4_pass 83 = .ok (.ireturn, 1) := by decide +kernel
theorem dX4_minute_0 : decode cX4_minute 0 = .ok (.aload_n 0, 1) := by decide +kernel
theorem dX4_minute_1 : decode cX4_minute 1 = .ok (.getfield 68, 3) := by decide +kernel
theorem dX4_minute_4 : decode cX4_minute 4 = .ok (.ireturn, 1) := by decide +kernel
theorem dX4_level_0 : decode cX4_level 0 = .ok (.iload_n 1, 1) := by decide +kernel
theorem dX4_level_1 : decode cX4_level 1 = .ok (.iconst 0, 1) := by decide +kernel
theorem dX4_level_2 : decode cX4_level 2 = .ok (.sipush 30000, 3) := by decide +kernel
theorem dX4_level_5 : decode cX4_level 5 = .ok (.invokestatic 33, 3) := by decide +kernel
theorem dX4_level_8 : decode cX4_level 8 = .ok (.aload_n 0, 1) := by decide +kernel
theorem dX4_level_9 : decode cX4_level 9 = .ok (.getfield 10, 3) := by decide +kernel
theorem dX4_level_12 : decode cX4_level 12 = .ok (.iload_n 1, 1) := by decide +kernel
theorem dX4_level_13 : decode cX4_level 13 = .ok (.invokevirtual 153, 3) := by decide +kernel
theorem dX4_level_16 : decode cX4_level 16 = .ok (.ireturn, 1) := by decide +kernel
theorem dX4_window_0 : decode cX4_window 0 = .ok (.aload_n 0, 1) := by decide +kernel
theorem dX4_window_1 : decode cX4_window 1 = .ok (.iload_n 1, 1) := by decide +kernel
theorem dX4_window_2 : decode cX4_window 2 = .ok (.invokevirtual 64, 3) := by decide +kernel
theorem dX4_window_5 : decode cX4_window 5 = .ok (.astore_n 3, 1) := by decide +kernel
theorem dX4_window_6 : decode cX4_window 6 = .ok (.iload_n 2, 1) := by decide +kernel
theorem dX4_window_7 : decode cX4_window 7 = .ok (.iconst 0, 1) := by decide +kernel
theorem dX4_window_8 : decode cX4_window 8 = .ok (.sipush 20000, 3) := by decide +kernel
theorem dX4_window_11 : decode cX4_window 11 = .ok (.invokestatic 33, 3) := by decide +kernel
theorem dX4_window_14 : decode cX4_window 14 = .ok (.iload_n 2, 1) := by decide +kernel
theorem dX4_window_15 : decode cX4_window 15 = .ok (.sipush 1440, 3) := by decide +kernel
theorem dX4_window_18 : decode cX4_window 18 = .ok (.iadd, 1) := by decide +kernel
theorem dX4_window_19 : decode cX4_window 19 = .ok (.istore 4, 2) := by decide +kernel
theorem dX4_window_21 : decode cX4_window 21 = .ok (.iload_n 2, 1) := by decide +kernel
theorem dX4_window_22 : decode cX4_window 22 = .ok (.istore 5, 2) := by decide +kernel
theorem dX4_window_24 : decode cX4_window 24 = .ok (.iload 5, 2) := by decide +kernel
theorem dX4_window_26 : decode cX4_window 26 = .ok (.iload 4, 2) := by decide +kernel
theorem dX4_window_28 : decode cX4_window 28 = .ok (.if_icmp .gt 39, 3) := by decide +kernel
theorem dX4_window_31 : decode cX4_window 31 = .ok (.aload_n 0, 1) := by decide +kernel
theorem dX4_window_32 : decode cX4_window 32 = .ok (.getfield 10, 3) := by decide +kernel
theorem dX4_window_35 : decode cX4_window 35 = .ok (.aload_n 3, 1) := by decide +kernel
theorem dX4_window_36 : decode cX4_window 36 = .ok (.iload 5, 2) := by decide +kernel
theorem dX4_window_38 : decode cX4_window 38 = .ok (.invokevirtual 157, 3) := by decide +kernel
theorem dX4_window_41 : decode cX4_window 41 = .ok (.istore 6, 2) := by decide +kernel
theorem dX4_window_43 : decode cX4_window 43 = .ok (.iload 6, 2) := by decide +kernel
theorem dX4_window_45 : decode cX4_window 45 = .ok (.iload 5, 2) := by decide +kernel
theorem dX4_window_47 : decode cX4_window 47 = .ok (.if_icmp .ne 6, 3) := by decide +kernel
theorem dX4_window_50 : decode cX4_window 50 = .ok (.iload 5, 2) := by decide +kernel
theorem dX4_window_52 : decode cX4_window 52 = .ok (.ireturn, 1) := by decide +kernel
theorem dX4_window_53 : decode cX4_window 53 = .ok (.iload 5, 2) := by decide +kernel
theorem dX4_window_55 : decode cX4_window 55 = .ok (.iconst 1, 1) := by decide +kernel
theorem dX4_window_56 : decode cX4_window 56 = .ok (.iadd, 1) := by decide +kernel
theorem dX4_window_57 : decode cX4_window 57 = .ok (.iload 6, 2) := by decide +kernel
theorem dX4_window_59 : decode cX4_window 59 = .ok (.invokestatic 161, 3) := by decide +kernel
theorem dX4_window_62 : decode cX4_window 62 = .ok (.istore 5, 2) := by decide +kernel
theorem dX4_window_64 : decode cX4_window 64 = .ok (.goto (-40), 3) := by decide +kernel
theorem dX4_window_67 : decode cX4_window 67 = .ok (.iconst (-1), 1) := by decide +kernel
theorem dX4_window_68 : decode cX4_window 68 = .ok (.ireturn, 1) := by decide +kernel
theorem dX4_ofConference_0 : decode cX4_ofConference 0 = .ok (.aload_n 0, 1) := by decide +kernel
theorem dX4_ofConference_1 : decode cX4_ofConference 1 = .ok (.iload_n 1, 1) := by decide +kernel
theorem dX4_ofConference_2 : decode cX4_ofConference 2 = .ok (.invokevirtual 76, 3) := by decide +kernel
theorem dX4_ofConference_5 : decode cX4_ofConference 5 = .ok (.astore_n 3, 1) := by decide +kernel
theorem dX4_ofConference_6 : decode cX4_ofConference 6 = .ok (.iload_n 2, 1) := by decide +kernel
theorem dX4_ofConference_7 : decode cX4_ofConference 7 = .ok (.tableswitch 75 0 4 #[33, 38, 43, 62, 67], 33) := by decide +kernel
theorem dX4_ofConference_40 : decode cX4_ofConference 40 = .ok (.aload_n 3, 1) := by decide +kernel
theorem dX4_ofConference_41 : decode cX4_ofConference 41 = .ok (.getfield 125, 3) := by decide +kernel
theorem dX4_ofConference_44 : decode cX4_ofConference 44 = .ok (.ireturn, 1) := by decide +kernel
theorem dX4_ofConference_45 : decode cX4_ofConference 45 = .ok (.aload_n 3, 1) := by decide +kernel
theorem dX4_ofConference_46 : decode cX4_ofConference 46 = .ok (.getfield 122, 3) := by decide +kernel
theorem dX4_ofConference_49 : decode cX4_ofConference 49 = .ok (.ireturn, 1) := by decide +kernel
theorem dX4_ofConference_50 : decode cX4_ofConference 50 = .ok (.aload_n 3, 1) := by decide +kernel
theorem dX4_ofConference_51 : decode cX4_ofConference 51 = .ok (.getfield 167, 3) := by decide +kernel
theorem dX4_ofConference_54 : decode cX4_ofConference 54 = .ok (.ifnonnull 7, 3) := by decide +kernel
theorem dX4_ofConference_57 : decode cX4_ofConference 57 = .ok (.iconst (-1), 1) := by decide +kernel
theorem dX4_ofConference_58 : decode cX4_ofConference 58 = .ok (.goto 10, 3) := by decide +kernel
theorem dX4_ofConference_61 : decode cX4_ofConference 61 = .ok (.aload_n 3, 1) := by decide +kernel
theorem dX4_ofConference_62 : decode cX4_ofConference 62 = .ok (.getfield 167, 3) := by decide +kernel
theorem dX4_ofConference_65 : decode cX4_ofConference 65 = .ok (.getfield 171, 3) := by decide +kernel
theorem dX4_ofConference_68 : decode cX4_ofConference 68 = .ok (.ireturn, 1) := by decide +kernel
theorem dX4_ofConference_69 : decode cX4_ofConference 69 = .ok (.aload_n 3, 1) := by decide +kernel
theorem dX4_ofConference_70 : decode cX4_ofConference 70 = .ok (.invokevirtual 115, 3) := by decide +kernel
theorem dX4_ofConference_73 : decode cX4_ofConference 73 = .ok (.ireturn, 1) := by decide +kernel
theorem dX4_ofConference_74 : decode cX4_ofConference 74 = .ok (.aload_n 3, 1) := by decide +kernel
theorem dX4_ofConference_75 : decode cX4_ofConference 75 = .ok (.getfield 102, 3) := by decide +kernel
theorem dX4_ofConference_78 : decode cX4_ofConference 78 = .ok (.getfield 174, 3) := by decide +kernel
theorem dX4_ofConference_81 : decode cX4_ofConference 81 = .ok (.ireturn, 1) := by decide +kernel
theorem dX4_ofConference_82 : decode cX4_ofConference 82 = .ok (.new 175, 3) := by decide +kernel
theorem dX4_ofConference_85 : decode cX4_ofConference 85 = .ok (.dup, 1) := by decide +kernel
theorem dX4_ofConference_86 : decode cX4_ofConference 86 = .ok (.ldc 177, 2) := by decide +kernel
theorem dX4_ofConference_88 : decode cX4_ofConference 88 = .ok (.invokespecial 179, 3) := by decide +kernel
theorem dX4_ofConference_91 : decode cX4_ofConference 91 = .ok (.athrow, 1) := by decide +kernel
theorem dX4_why_0 : decode cX4_why 0 = .ok (.aload_n 0, 1) := by decide +kernel
theorem dX4_why_1 : decode cX4_why 1 = .ok (.iload_n 1, 1) := by decide +kernel
theorem dX4_why_2 : decode cX4_why 2 = .ok (.invokevirtual 76, 3) := by decide +kernel
theorem dX4_why_5 : decode cX4_why 5 = .ok (.astore_n 3, 1) := by decide +kernel
theorem dX4_why_6 : decode cX4_why 6 = .ok (.iload_n 2, 1) := by decide +kernel
theorem dX4_why_7 : decode cX4_why 7 = .ok (.aload_n 0, 1) := by decide +kernel
theorem dX4_why_8 : decode cX4_why 8 = .ok (.getfield 68, 3) := by decide +kernel
theorem dX4_why_11 : decode cX4_why 11 = .ok (.sipush 21440, 3) := by decide +kernel
theorem dX4_why_14 : decode cX4_why 14 = .ok (.invokestatic 33, 3) := by decide +kernel
theorem dX4_why_17 : decode cX4_why 17 = .ok (.aload_n 3, 1) := by decide +kernel
theorem dX4_why_18 : decode cX4_why 18 = .ok (.getfield 167, 3) := by decide +kernel
theorem dX4_why_21 : decode cX4_why 21 = .ok (.ifnonnull 13, 3) := by decide +kernel
theorem dX4_why_24 : decode cX4_why 24 = .ok (.new 92, 3) := by decide +kernel
theorem dX4_why_27 : decode cX4_why 27 = .ok (.dup, 1) := by decide +kernel
theorem dX4_why_28 : decode cX4_why 28 = .ok (.ldc 180, 2) := by decide +kernel
theorem dX4_why_30 : decode cX4_why 30 = .ok (.invokespecial 96, 3) := by decide +kernel
theorem dX4_why_33 : decode cX4_why 33 = .ok (.athrow, 1) := by decide +kernel
theorem dX4_why_34 : decode cX4_why 34 = .ok (.aload_n 0, 1) := by decide +kernel
theorem dX4_why_35 : decode cX4_why 35 = .ok (.getfield 10, 3) := by decide +kernel
theorem dX4_why_38 : decode cX4_why 38 = .ok (.aload_n 3, 1) := by decide +kernel
theorem dX4_why_39 : decode cX4_why 39 = .ok (.getfield 102, 3) := by decide +kernel
theorem dX4_why_42 : decode cX4_why 42 = .ok (.iload_n 2, 1) := by decide +kernel
theorem dX4_why_43 : decode cX4_why 43 = .ok (.invokevirtual 157, 3) := by decide +kernel
theorem dX4_why_46 : decode cX4_why 46 = .ok (.iload_n 2, 1) := by decide +kernel
theorem dX4_why_47 : decode cX4_why 47 = .ok (.if_icmp .eq 5, 3) := by decide +kernel
theorem dX4_why_50 : decode cX4_why 50 = .ok (.iconst 1, 1) := by decide +kernel
theorem dX4_why_51 : decode cX4_why 51 = .ok (.ireturn, 1) := by decide +kernel
theorem dX4_why_52 : decode cX4_why 52 = .ok (.aload_n 0, 1) := by decide +kernel
theorem dX4_why_53 : decode cX4_why 53 = .ok (.aload_n 3, 1) := by decide +kernel
theorem dX4_why_54 : decode cX4_why 54 = .ok (.iload_n 2, 1) := by decide +kernel
theorem dX4_why_55 : decode cX4_why 55 = .ok (.invokevirtual 182, 3) := by decide +kernel
theorem dX4_why_58 : decode cX4_why 58 = .ok (.iload_n 2, 1) := by decide +kernel
theorem dX4_why_59 : decode cX4_why 59 = .ok (.if_icmp .eq 5, 3) := by decide +kernel
theorem dX4_why_62 : decode cX4_why 62 = .ok (.iconst 2, 1) := by decide +kernel
theorem dX4_why_63 : decode cX4_why 63 = .ok (.ireturn, 1) := by decide +kernel
theorem dX4_why_64 : decode cX4_why 64 = .ok (.aload_n 0, 1) := by decide +kernel
theorem dX4_why_65 : decode cX4_why 65 = .ok (.aload_n 3, 1) := by decide +kernel
theorem dX4_why_66 : decode cX4_why 66 = .ok (.iload_n 2, 1) := by decide +kernel
theorem dX4_why_67 : decode cX4_why 67 = .ok (.invokevirtual 186, 3) := by decide +kernel
theorem dX4_why_70 : decode cX4_why 70 = .ok (.iload_n 2, 1) := by decide +kernel
theorem dX4_why_71 : decode cX4_why 71 = .ok (.if_icmp .eq 5, 3) := by decide +kernel
theorem dX4_why_74 : decode cX4_why 74 = .ok (.iconst 3, 1) := by decide +kernel
theorem dX4_why_75 : decode cX4_why 75 = .ok (.ireturn, 1) := by decide +kernel
theorem dX4_why_76 : decode cX4_why 76 = .ok (.aload_n 0, 1) := by decide +kernel
theorem dX4_why_77 : decode cX4_why 77 = .ok (.aload_n 3, 1) := by decide +kernel
theorem dX4_why_78 : decode cX4_why 78 = .ok (.iload_n 2, 1) := by decide +kernel
theorem dX4_why_79 : decode cX4_why 79 = .ok (.invokevirtual 189, 3) := by decide +kernel
theorem dX4_why_82 : decode cX4_why 82 = .ok (.iload_n 2, 1) := by decide +kernel
theorem dX4_why_83 : decode cX4_why 83 = .ok (.if_icmp .eq 7, 3) := by decide +kernel
theorem dX4_why_86 : decode cX4_why 86 = .ok (.iconst 4, 1) := by decide +kernel
theorem dX4_why_87 : decode cX4_why 87 = .ok (.goto 4, 3) := by decide +kernel
theorem dX4_why_90 : decode cX4_why 90 = .ok (.iconst 0, 1) := by decide +kernel
theorem dX4_why_91 : decode cX4_why 91 = .ok (.ireturn, 1) := by decide +kernel
theorem dX4_rested_0 : decode cX4_rested 0 = .ok (.aload_n 0, 1) := by decide +kernel
theorem dX4_rested_1 : decode cX4_rested 1 = .ok (.aload_n 0, 1) := by decide +kernel
theorem dX4_rested_2 : decode cX4_rested 2 = .ok (.iload_n 1, 1) := by decide +kernel
theorem dX4_rested_3 : decode cX4_rested 3 = .ok (.invokevirtual 84, 3) := by decide +kernel
theorem dX4_rested_6 : decode cX4_rested 6 = .ok (.invokevirtual 192, 3) := by decide +kernel
theorem dX4_rested_9 : decode cX4_rested 9 = .ok (.ireturn, 1) := by decide +kernel
theorem dX4_restedAnew_0 : decode cX4_restedAnew 0 = .ok (.aload_n 0, 1) := by decide +kernel
theorem dX4_restedAnew_1 : decode cX4_restedAnew 1 = .ok (.aload_n 0, 1) := by decide +kernel
theorem dX4_restedAnew_2 : decode cX4_restedAnew 2 = .ok (.iload_n 1, 1) := by decide +kernel
theorem dX4_restedAnew_3 : decode cX4_restedAnew 3 = .ok (.invokevirtual 84, 3) := by decide +kernel
theorem dX4_restedAnew_6 : decode cX4_restedAnew 6 = .ok (.invokevirtual 192, 3) := by decide +kernel
theorem dX4_restedAnew_9 : decode cX4_restedAnew 9 = .ok (.ireturn, 1) := by decide +kernel
theorem dX4_bill_0 : decode cX4_bill 0 = .ok (.aload_n 0, 1) := by decide +kernel
theorem dX4_bill_1 : decode cX4_bill 1 = .ok (.iload_n 1, 1) := by decide +kernel
theorem dX4_bill_2 : decode cX4_bill 2 = .ok (.invokevirtual 64, 3) := by decide +kernel
theorem dX4_bill_5 : decode cX4_bill 5 = .ok (.getfield 196, 3) := by decide +kernel
theorem dX4_bill_8 : decode cX4_bill 8 = .ok (.ireturn, 1) := by decide +kernel
theorem dX4_ofPilot_0 : decode cX4_ofPilot 0 = .ok (.aload_n 0, 1) := by decide +kernel
theorem dX4_ofPilot_1 : decode cX4_ofPilot 1 = .ok (.iload_n 1, 1) := by decide +kernel
theorem dX4_ofPilot_2 : decode cX4_ofPilot 2 = .ok (.invokevirtual 84, 3) := by decide +kernel
theorem dX4_ofPilot_5 : decode cX4_ofPilot 5 = .ok (.astore_n 3, 1) := by decide +kernel
theorem dX4_ofPilot_6 : decode cX4_ofPilot 6 = .ok (.iload_n 2, 1) := by decide +kernel
theorem dX4_ofPilot_7 : decode cX4_ofPilot 7 = .ok (.tableswitch 63 0 3 #[29, 34, 39, 53], 29) := by decide +kernel
theorem dX4_ofPilot_36 : decode cX4_ofPilot 36 = .ok (.aload_n 3, 1) := by decide +kernel
theorem dX4_ofPilot_37 : decode cX4_ofPilot 37 = .ok (.getfield 199, 3) := by decide +kernel
theorem dX4_ofPilot_40 : decode cX4_ofPilot 40 = .ok (.ireturn, 1) := by decide +kernel
theorem dX4_ofPilot_41 : decode cX4_ofPilot 41 = .ok (.aload_n 3, 1) := by decide +kernel
theorem dX4_ofPilot_42 : decode cX4_ofPilot 42 = .ok (.getfield 202, 3) := by decide +kernel
theorem dX4_ofPilot_45 : decode cX4_ofPilot 45 = .ok (.ireturn, 1) := by decide +kernel
theorem dX4_ofPilot_46 : decode cX4_ofPilot 46 = .ok (.aload_n 0, 1) := by decide +kernel
theorem dX4_ofPilot_47 : decode cX4_ofPilot 47 = .ok (.aload_n 3, 1) := by decide +kernel
theorem dX4_ofPilot_48 : decode cX4_ofPilot 48 = .ok (.invokevirtual 205, 3) := by decide +kernel
theorem dX4_ofPilot_51 : decode cX4_ofPilot 51 = .ok (.ifCond .eq 7, 3) := by decide +kernel
theorem dX4_ofPilot_54 : decode cX4_ofPilot 54 = .ok (.iconst 1, 1) := by decide +kernel
theorem dX4_ofPilot_55 : decode cX4_ofPilot 55 = .ok (.goto 4, 3) := by decide +kernel
theorem dX4_ofPilot_58 : decode cX4_ofPilot 58 = .ok (.iconst 0, 1) := by decide +kernel
theorem dX4_ofPilot_59 : decode cX4_ofPilot 59 = .ok (.ireturn, 1) := by decide +kernel
theorem dX4_ofPilot_60 : decode cX4_ofPilot 60 = .ok (.aload_n 3, 1) := by decide +kernel
theorem dX4_ofPilot_61 : decode cX4_ofPilot 61 = .ok (.getfield 202, 3) := by decide +kernel
theorem dX4_ofPilot_64 : decode cX4_ofPilot 64 = .ok (.aload_n 3, 1) := by decide +kernel
theorem dX4_ofPilot_65 : decode cX4_ofPilot 65 = .ok (.getfield 209, 3) := by decide +kernel
theorem dX4_ofPilot_68 : decode cX4_ofPilot 68 = .ok (.imul, 1) := by decide +kernel
theorem dX4_ofPilot_69 : decode cX4_ofPilot 69 = .ok (.ireturn, 1) := by decide +kernel
theorem dX4_ofPilot_70 : decode cX4_ofPilot 70 = .ok (.new 175, 3) := by decide +kernel
theorem dX4_ofPilot_73 : decode cX4_ofPilot 73 = .ok (.dup, 1) := by decide +kernel
theorem dX4_ofPilot_74 : decode cX4_ofPilot 74 = .ok (.ldc 177, 2) := by decide +kernel
theorem dX4_ofPilot_76 : decode cX4_ofPilot 76 = .ok (.invokespecial 179, 3) := by decide +kernel
theorem dX4_ofPilot_79 : decode cX4_ofPilot 79 = .ok (.athrow, 1) := by decide +kernel
theorem dX4_count_0 : decode cX4_count 0 = .ok (.iload_n 1, 1) := by decide +kernel
theorem dX4_count_1 : decode cX4_count 1 = .ok (.iconst 0, 1) := by decide +kernel
theorem dX4_count_2 : decode cX4_count 2 = .ok (.bipush 7, 2) := by decide +kernel
theorem dX4_count_4 : decode cX4_count 4 = .ok (.invokestatic 33, 3) := by decide +kernel
theorem dX4_count_7 : decode cX4_count 7 = .ok (.iload_n 1, 1) := by decide +kernel
theorem dX4_count_8 : decode cX4_count 8 = .ok (.tableswitch 52 5 7 #[28, 42, 47], 28) := by decide +kernel
theorem dX4_count_36 : decode cX4_count 36 = .ok (.aload_n 0, 1) := by decide +kernel
theorem dX4_count_37 : decode cX4_count 37 = .ok (.aconst_null, 1) := by decide +kernel
theorem dX4_count_38 : decode cX4_count 38 = .ok (.aload_n 0, 1) := by decide +kernel
theorem dX4_count_39 : decode cX4_count 39 = .ok (.getfield 68, 3) := by decide +kernel
theorem dX4_count_42 : decode cX4_count 42 = .ok (.aload_n 0, 1) := by decide +kernel
theorem dX4_count_43 : decode cX4_count 43 = .ok (.getfield 68, 3) := by decide +kernel
theorem dX4_count_46 : decode cX4_count 46 = .ok (.invokevirtual 212, 3) := by decide +kernel
theorem dX4_count_49 : decode cX4_count 49 = .ok (.ireturn, 1) := by decide +kernel
theorem dX4_count_50 : decode cX4_count 50 = .ok (.aload_n 0, 1) := by decide +kernel
theorem dX4_count_51 : decode cX4_count 51 = .ok (.invokevirtual 216, 3) := by decide +kernel
theorem dX4_count_54 : decode cX4_count 54 = .ok (.ireturn, 1) := by decide +kernel
theorem dX4_count_55 : decode cX4_count 55 = .ok (.aload_n 0, 1) := by decide +kernel
theorem dX4_count_56 : decode cX4_count 56 = .ok (.getfield 140, 3) := by decide +kernel
theorem dX4_count_59 : decode cX4_count 59 = .ok (.ireturn, 1) := by decide +kernel
theorem dX4_count_60 : decode cX4_count 60 = .ok (.aload_n 0, 1) := by decide +kernel
theorem dX4_count_61 : decode cX4_count 61 = .ok (.iload_n 1, 1) := by decide +kernel
theorem dX4_count_62 : decode cX4_count 62 = .ok (.invokevirtual 219, 3) := by decide +kernel
theorem dX4_count_65 : decode cX4_count 65 = .ok (.ireturn, 1) := by decide +kernel
theorem dX4_demandWithin_0 : decode cX4_demandWithin 0 = .ok (.iload_n 0, 1) := by decide +kernel
theorem dX4_demandWithin_1 : decode cX4_demandWithin 1 = .ok (.iload_n 1, 1) := by decide +kernel
theorem dX4_demandWithin_2 : decode cX4_demandWithin 2 = .ok (.if_icmp .lt 8, 3) := by decide +kernel
theorem dX4_demandWithin_5 : decode cX4_demandWithin 5 = .ok (.iload_n 0, 1) := by decide +kernel
theorem dX4_demandWithin_6 : decode cX4_demandWithin 6 = .ok (.iload_n 2, 1) := by decide +kernel
theorem dX4_demandWithin_7 : decode cX4_demandWithin 7 = .ok (.if_icmp .le 13, 3) := by decide +kernel
theorem dX4_demandWithin_10 : decode cX4_demandWithin 10 = .ok (.new 222, 3) := by decide +kernel
theorem dX4_demandWithin_13 : decode cX4_demandWithin 13 = .ok (.dup, 1) := by decide +kernel
theorem dX4_demandWithin_14 : decode cX4_demandWithin 14 = .ok (.ldc 224, 2) := by decide +kernel
theorem dX4_demandWithin_16 : decode cX4_demandWithin 16 = .ok (.invokespecial 226, 3) := by decide +kernel
theorem dX4_demandWithin_19 : decode cX4_demandWithin 19 = .ok (.athrow, 1) := by decide +kernel
theorem dX4_demandWithin_20 : decode cX4_demandWithin 20 = .ok (.return_, 1) := by decide +kernel
theorem dX4_demandRoom_0 : decode cX4_demandRoom 0 = .ok (.iload_n 0, 1) := by decide +kernel
theorem dX4_demandRoom_1 : decode cX4_demandRoom 1 = .ok (.iload_n 1, 1) := by decide +kernel
theorem dX4_demandRoom_2 : decode cX4_demandRoom 2 = .ok (.if_icmp .lt 13, 3) := by decide +kernel
theorem dX4_demandRoom_5 : decode cX4_demandRoom 5 = .ok (.new 92, 3) := by decide +kernel
theorem dX4_demandRoom_8 : decode cX4_demandRoom 8 = .ok (.dup, 1) := by decide +kernel
theorem dX4_demandRoom_9 : decode cX4_demandRoom 9 = .ok (.ldc 227, 2) := by decide +kernel
theorem dX4_demandRoom_11 : decode cX4_demandRoom 11 = .ok (.invokespecial 96, 3) := by decide +kernel
theorem dX4_demandRoom_14 : decode cX4_demandRoom 14 = .ok (.athrow, 1) := by decide +kernel
theorem dX4_demandRoom_15 : decode cX4_demandRoom 15 = .ok (.return_, 1) := by decide +kernel
theorem dX4_demandWho_0 : decode cX4_demandWho 0 = .ok (.iload_n 0, 1) := by decide +kernel
theorem dX4_demandWho_1 : decode cX4_demandWho 1 = .ok (.ifCond .lt 8, 3) := by decide +kernel
theorem dX4_demandWho_4 : decode cX4_demandWho 4 = .ok (.iload_n 0, 1) := by decide +kernel
theorem dX4_demandWho_5 : decode cX4_demandWho 5 = .ok (.iconst 2, 1) := by decide +kernel
theorem dX4_demandWho_6 : decode cX4_demandWho 6 = .ok (.if_icmp .le 13, 3) := by decide +kernel
theorem dX4_demandWho_9 : decode cX4_demandWho 9 = .ok (.new 175, 3) := by decide +kernel
theorem dX4_demandWho_12 : decode cX4_demandWho 12 = .ok (.dup, 1) := by decide +kernel
theorem dX4_demandWho_13 : decode cX4_demandWho 13 = .ok (.ldc 229, 2) := by decide +kernel
theorem dX4_demandWho_15 : decode cX4_demandWho 15 = .ok (.invokespecial 179, 3) := by decide +kernel
theorem dX4_demandWho_18 : decode cX4_demandWho 18 = .ok (.athrow, 1) := by decide +kernel
theorem dX4_demandWho_19 : decode cX4_demandWho 19 = .ok (.return_, 1) := by decide +kernel
theorem dX4_shipAt_0 : decode cX4_shipAt 0 = .ok (.iload_n 1, 1) := by decide +kernel
theorem dX4_shipAt_1 : decode cX4_shipAt 1 = .ok (.ifCond .lt 14, 3) := by decide +kernel
theorem dX4_shipAt_4 : decode cX4_shipAt 4 = .ok (.iload_n 1, 1) := by decide +kernel
theorem dX4_shipAt_5 : decode cX4_shipAt 5 = .ok (.aload_n 0, 1) := by decide +kernel
theorem dX4_shipAt_6 : decode cX4_shipAt 6 = .ok (.getfield 19, 3) := by decide +kernel
theorem dX4_shipAt_9 : decode cX4_shipAt 9 = .ok (.invokevirtual 43, 3) := by decide +kernel
theorem dX4_shipAt_12 : decode cX4_shipAt 12 = .ok (.if_icmp .lt 13, 3) := by decide +kernel
theorem dX4_shipAt_15 : decode cX4_shipAt 15 = .ok (.new 175, 3) := by decide +kernel
theorem dX4_shipAt_18 : decode cX4_shipAt 18 = .ok (.dup, 1) := by decide +kernel
theorem dX4_shipAt_19 : decode cX4_shipAt 19 = .ok (.ldc 231, 2) := by decide +kernel
theorem dX4_shipAt_21 : decode cX4_shipAt 21 = .ok (.invokespecial 179, 3) := by decide +kernel
theorem dX4_shipAt_24 : decode cX4_shipAt 24 = .ok (.athrow, 1) := by decide +kernel
theorem dX4_shipAt_25 : decode cX4_shipAt 25 = .ok (.aload_n 0, 1) := by decide +kernel
theorem dX4_shipAt_26 : decode cX4_shipAt 26 = .ok (.getfield 19, 3) := by decide +kernel
theorem dX4_shipAt_29 : decode cX4_shipAt 29 = .ok (.iload_n 1, 1) := by decide +kernel
theorem dX4_shipAt_30 : decode cX4_shipAt 30 = .ok (.invokevirtual 145, 3) := by decide +kernel
theorem dX4_shipAt_33 : decode cX4_shipAt 33 = .ok (.checkcast 51, 3) := by decide +kernel
theorem dX4_shipAt_36 : decode cX4_shipAt 36 = .ok (.areturn, 1) := by decide +kernel
theorem dX4_pilotAt_0 : decode cX4_pilotAt 0 = .ok (.iload_n 1, 1) := by decide +kernel
theorem dX4_pilotAt_1 : decode cX4_pilotAt 1 = .ok (.ifCond .lt 14, 3) := by decide +kernel
theorem dX4_pilotAt_4 : decode cX4_pilotAt 4 = .ok (.iload_n 1, 1) := by decide +kernel
theorem dX4_pilotAt_5 : decode cX4_pilotAt 5 = .ok (.aload_n 0, 1) := by decide +kernel
theorem dX4_pilotAt_6 : decode cX4_pilotAt 6 = .ok (.getfield 23, 3) := by decide +kernel
theorem dX4_pilotAt_9 : decode cX4_pilotAt 9 = .ok (.invokevirtual 43, 3) := by decide +kernel
theorem dX4_pilotAt_12 : decode cX4_pilotAt 12 = .ok (.if_icmp .lt 13, 3) := by decide +kernel
theorem dX4_pilotAt_15 : decode cX4_pilotAt 15 = .ok (.new 175, 3) := by decide +kernel
theorem dX4_pilotAt_18 : decode cX4_pilotAt 18 = .ok (.dup, 1) := by decide +kernel
theorem dX4_pilotAt_19 : decode cX4_pilotAt 19 = .ok (.ldc 233, 2) := by decide +kernel
theorem dX4_pilotAt_21 : decode cX4_pilotAt 21 = .ok (.invokespecial 179, 3) := by decide +kernel
theorem dX4_pilotAt_24 : decode cX4_pilotAt 24 = .ok (.athrow, 1) := by decide +kernel
theorem dX4_pilotAt_25 : decode cX4_pilotAt 25 = .ok (.aload_n 0, 1) := by decide +kernel
theorem dX4_pilotAt_26 : decode cX4_pilotAt 26 = .ok (.getfield 23, 3) := by decide +kernel
theorem dX4_pilotAt_29 : decode cX4_pilotAt 29 = .ok (.iload_n 1, 1) := by decide +kernel
theorem dX4_pilotAt_30 : decode cX4_pilotAt 30 = .ok (.invokevirtual 145, 3) := by decide +kernel
theorem dX4_pilotAt_33 : decode cX4_pilotAt 33 = .ok (.checkcast 60, 3) := by decide +kernel
theorem dX4_pilotAt_36 : decode cX4_pilotAt 36 = .ok (.areturn, 1) := by decide +kernel
theorem dX4_conferenceAt_0 : decode cX4_conferenceAt 0 = .ok (.iload_n 1, 1) := by decide +kernel
theorem dX4_conferenceAt_1 : decode cX4_conferenceAt 1 = .ok (.ifCond .lt 14, 3) := by decide +kernel
theorem dX4_conferenceAt_4 : decode cX4_conferenceAt 4 = .ok (.iload_n 1, 1) := by decide +kernel
theorem dX4_conferenceAt_5 : decode cX4_conferenceAt 5 = .ok (.aload_n 0, 1) := by decide +kernel
theorem dX4_conferenceAt_6 : decode cX4_conferenceAt 6 = .ok (.getfield 26, 3) := by decide +kernel
theorem dX4_conferenceAt_9 : decode cX4_conferenceAt 9 = .ok (.invokevirtual 43, 3) := by decide +kernel
theorem dX4_conferenceAt_12 : decode cX4_conferenceAt 12 = .ok (.if_icmp .lt 13, 3) := by decide +kernel
theorem dX4_conferenceAt_15 : decode cX4_conferenceAt 15 = .ok (.new 175, 3) := by decide +kernel
theorem dX4_conferenceAt_18 : decode cX4_conferenceAt 18 = .ok (.dup, 1) := by decide +kernel
theorem dX4_conferenceAt_19 : decode cX4_conferenceAt 19 = .ok (.ldc 235, 2) := by decide +kernel
theorem dX4_conferenceAt_21 : decode cX4_conferenceAt 21 = .ok (.invokespecial 179, 3) := by decide +kernel
theorem dX4_conferenceAt_24 : decode cX4_conferenceAt 24 = .ok (.athrow, 1) := by decide +kernel
theorem dX4_conferenceAt_25 : decode cX4_conferenceAt 25 = .ok (.aload_n 0, 1) := by decide +kernel
theorem dX4_conferenceAt_26 : decode cX4_conferenceAt 26 = .ok (.getfield 26, 3) := by decide +kernel
theorem dX4_conferenceAt_29 : decode cX4_conferenceAt 29 = .ok (.iload_n 1, 1) := by decide +kernel
theorem dX4_conferenceAt_30 : decode cX4_conferenceAt 30 = .ok (.invokevirtual 145, 3) := by decide +kernel
theorem dX4_conferenceAt_33 : decode cX4_conferenceAt 33 = .ok (.checkcast 71, 3) := by decide +kernel
theorem dX4_conferenceAt_36 : decode cX4_conferenceAt 36 = .ok (.areturn, 1) := by decide +kernel
theorem dX4_lookAnew_0 : decode cX4_lookAnew 0 = .ok (.iconst 0, 1) := by decide +kernel
theorem dX4_lookAnew_1 : decode cX4_lookAnew 1 = .ok (.istore_n 1, 1) := by decide +kernel
theorem dX4_lookAnew_2 : decode cX4_lookAnew 2 = .ok (.iconst 0, 1) := by decide +kernel
theorem dX4_lookAnew_3 : decode cX4_lookAnew 3 = .ok (.istore_n 2, 1) := by decide +kernel
theorem dX4_lookAnew_4 : decode cX4_lookAnew 4 = .ok (.iload_n 2, 1) := by decide +kernel
theorem dX4_lookAnew_5 : decode cX4_lookAnew 5 = .ok (.aload_n 0, 1) := by decide +kernel
theorem dX4_lookAnew_6 : decode cX4_lookAnew 6 = .ok (.getfield 26, 3) := by decide +kernel
theorem dX4_lookAnew_9 : decode cX4_lookAnew 9 = .ok (.invokevirtual 43, 3) := by decide +kernel
theorem dX4_lookAnew_12 : decode cX4_lookAnew 12 = .ok (.if_icmp .ge 60, 3) := by decide +kernel
theorem dX4_lookAnew_15 : decode cX4_lookAnew 15 = .ok (.aload_n 0, 1) := by decide +kernel
theorem dX4_lookAnew_16 : decode cX4_lookAnew 16 = .ok (.getfield 26, 3) := by decide +kernel
theorem dX4_lookAnew_19 : decode cX4_lookAnew 19 = .ok (.iload_n 2, 1) := by decide +kernel
theorem dX4_lookAnew_20 : decode cX4_lookAnew 20 = .ok (.invokevirtual 145, 3) := by decide +kernel
theorem dX4_lookAnew_23 : decode cX4_lookAnew 23 = .ok (.checkcast 71, 3) := by decide +kernel
theorem dX4_lookAnew_26 : decode cX4_lookAnew 26 = .ok (.astore_n 3, 1) := by decide +kernel
theorem dX4_lookAnew_27 : decode cX4_lookAnew 27 = .ok (.aload_n 3, 1) := by decide +kernel
theorem dX4_lookAnew_28 : decode cX4_lookAnew 28 = .ok (.getfield 125, 3) := by decide +kernel
theorem dX4_lookAnew_31 : decode cX4_lookAnew 31 = .ok (.iconst 2, 1) := by decide +kernel
theorem dX4_lookAnew_32 : decode cX4_lookAnew 32 = .ok (.if_icmp .eq 11, 3) := by decide +kernel
theorem dX4_lookAnew_35 : decode cX4_lookAnew 35 = .ok (.aload_n 3, 1) := by decide +kernel
theorem dX4_lookAnew_36 : decode cX4_lookAnew 36 = .ok (.getfield 125, 3) := by decide +kernel
theorem dX4_lookAnew_39 : decode cX4_lookAnew 39 = .ok (.iconst 1, 1) := by decide +kernel
theorem dX4_lookAnew_40 : decode cX4_lookAnew 40 = .ok (.if_icmp .ne 26, 3) := by decide +kernel
theorem dX4_lookAnew_43 : decode cX4_lookAnew 43 = .ok (.aload_n 3, 1) := by decide +kernel
theorem dX4_lookAnew_44 : decode cX4_lookAnew 44 = .ok (.getfield 122, 3) := by decide +kernel
theorem dX4_lookAnew_47 : decode cX4_lookAnew 47 = .ok (.istore 4, 2) := by decide +kernel
theorem dX4_lookAnew_49 : decode cX4_lookAnew 49 = .ok (.aload_n 0, 1) := by decide +kernel
theorem dX4_lookAnew_50 : decode cX4_lookAnew 50 = .ok (.aload_n 3, 1) := by decide +kernel
theorem dX4_lookAnew_51 : decode cX4_lookAnew 51 = .ok (.invokevirtual 118, 3) := by decide +kernel
theorem dX4_lookAnew_54 : decode cX4_lookAnew 54 = .ok (.aload_n 3, 1) := by decide +kernel
theorem dX4_lookAnew_55 : decode cX4_lookAnew 55 = .ok (.getfield 122, 3) := by decide +kernel
theorem dX4_lookAnew_58 : decode cX4_lookAnew 58 = .ok (.iload 4, 2) := by decide +kernel
theorem dX4_lookAnew_60 : decode cX4_lookAnew 60 = .ok (.if_icmp .eq 6, 3) := by decide +kernel
theorem dX4_lookAnew_63 : decode cX4_lookAnew 63 = .ok (.iinc 1 1, 3) := by decide +kernel
theorem dX4_lookAnew_66 : decode cX4_lookAnew 66 = .ok (.iinc 2 1, 3) := by decide +kernel
theorem dX4_lookAnew_69 : decode cX4_lookAnew 69 = .ok (.goto (-65), 3) := by decide +kernel
theorem dX4_lookAnew_72 : decode cX4_lookAnew 72 = .ok (.iload_n 1, 1) := by decide +kernel
theorem dX4_lookAnew_73 : decode cX4_lookAnew 73 = .ok (.ireturn, 1) := by decide +kernel
theorem dX4_lookForSlot_0 : decode cX4_lookForSlot 0 = .ok (.aload_n 1, 1) := by decide +kernel
theorem dX4_lookForSlot_1 : decode cX4_lookForSlot 1 = .ok (.aload_n 0, 1) := by decide +kernel
theorem dX4_lookForSlot_2 : decode cX4_lookForSlot 2 = .ok (.aload_n 1, 1) := by decide +kernel
theorem dX4_lookForSlot_3 : decode cX4_lookForSlot 3 = .ok (.invokevirtual 237, 3) := by decide +kernel
theorem dX4_lookForSlot_6 : decode cX4_lookForSlot 6 = .ok (.putfield 122, 3) := by decide +kernel
theorem dX4_lookForSlot_9 : decode cX4_lookForSlot 9 = .ok (.aload_n 1, 1) := by decide +kernel
theorem dX4_lookForSlot_10 : decode cX4_lookForSlot 10 = .ok (.getfield 122, 3) := by decide +kernel
theorem dX4_lookForSlot_13 : decode cX4_lookForSlot 13 = .ok (.iconst (-1), 1) := by decide +kernel
theorem dX4_lookForSlot_14 : decode cX4_lookForSlot 14 = .ok (.if_icmp .ne 11, 3) := by decide +kernel
theorem dX4_lookForSlot_17 : decode cX4_lookForSlot 17 = .ok (.aload_n 1, 1) := by decide +kernel
theorem dX4_lookForSlot_18 : decode cX4_lookForSlot 18 = .ok (.iconst 1, 1) := by decide +kernel
theorem dX4_lookForSlot_19 : decode cX4_lookForSlot 19 = .ok (.putfield 125, 3) := by decide +kernel
theorem dX4_lookForSlot_22 : decode cX4_lookForSlot 22 = .ok (.goto 23, 3) := by decide +kernel
theorem dX4_lookForSlot_25 : decode cX4_lookForSlot 25 = .ok (.aload_n 1, 1) := by decide +kernel
theorem dX4_lookForSlot_26 : decode cX4_lookForSlot 26 = .ok (.aload_n 1, 1) := by decide +kernel
theorem dX4_lookForSlot_27 : decode cX4_lookForSlot 27 = .ok (.getfield 122, 3) := by decide +kernel
theorem dX4_lookForSlot_30 : decode cX4_lookForSlot 30 = .ok (.aload_n 0, 1) := by decide +kernel
theorem dX4_lookForSlot_31 : decode cX4_lookForSlot 31 = .ok (.getfield 68, 3) := by decide +kernel
theorem dX4_lookForSlot_34 : decode cX4_lookForSlot 34 = .ok (.if_icmp .ne 7, 3) := by decide +kernel
theorem dX4_lookForSlot_37 : decode cX4_lookForSlot 37 = .ok (.iconst 3, 1) := by decide +kernel
theorem dX4_lookForSlot_38 : decode cX4_lookForSlot 38 = .ok (.goto 4, 3) := by decide +kernel
theorem dX4_lookForSlot_41 : decode cX4_lookForSlot 41 = .ok (.iconst 2, 1) := by decide +kernel
theorem dX4_lookForSlot_42 : decode cX4_lookForSlot 42 = .ok (.putfield 125, 3) := by decide +kernel
theorem dX4_lookForSlot_45 : decode cX4_lookForSlot 45 = .ok (.return_, 1) := by decide +kernel
theorem dX4_earliestSlot_0 : decode cX4_earliestSlot 0 = .ok (.aload_n 1, 1) := by decide +kernel
theorem dX4_earliestSlot_1 : decode cX4_earliestSlot 1 = .ok (.getfield 241, 3) := by decide +kernel
theorem dX4_earliestSlot_4 : decode cX4_earliestSlot 4 = .ok (.aload_n 0, 1) := by decide +kernel
theorem dX4_earliestSlot_5 : decode cX4_earliestSlot 5 = .ok (.getfield 68, 3) := by decide +kernel
theorem dX4_earliestSlot_8 : decode cX4_earliestSlot 8 = .ok (.invokestatic 161, 3) := by decide +kernel
theorem dX4_earliestSlot_11 : decode cX4_earliestSlot 11 = .ok (.istore_n 2, 1) := by decide +kernel
theorem dX4_earliestSlot_12 : decode cX4_earliestSlot 12 = .ok (.iload_n 2, 1) := by decide +kernel
theorem dX4_earliestSlot_13 : decode cX4_earliestSlot 13 = .ok (.sipush 1440, 3) := by decide +kernel
theorem dX4_earliestSlot_16 : decode cX4_earliestSlot 16 = .ok (.iadd, 1) := by decide +kernel
theorem dX4_earliestSlot_17 : decode cX4_earliestSlot 17 = .ok (.istore_n 3, 1) := by decide +kernel
theorem dX4_earliestSlot_18 : decode cX4_earliestSlot 18 = .ok (.iload_n 2, 1) := by decide +kernel
theorem dX4_earliestSlot_19 : decode cX4_earliestSlot 19 = .ok (.istore 4, 2) := by decide +kernel
theorem dX4_earliestSlot_21 : decode cX4_earliestSlot 21 = .ok (.iload 4, 2) := by decide +kernel
theorem dX4_earliestSlot_23 : decode cX4_earliestSlot 23 = .ok (.iload_n 3, 1) := by decide +kernel
theorem dX4_earliestSlot_24 : decode cX4_earliestSlot 24 = .ok (.if_icmp .gt 69, 3) := by decide +kernel
theorem dX4_earliestSlot_27 : decode cX4_earliestSlot 27 = .ok (.aload_n 0, 1) := by decide +kernel
theorem dX4_earliestSlot_28 : decode cX4_earliestSlot 28 = .ok (.getfield 10, 3) := by decide +kernel
theorem dX4_earliestSlot_31 : decode cX4_earliestSlot 31 = .ok (.aload_n 1, 1) := by decide +kernel
theorem dX4_earliestSlot_32 : decode cX4_earliestSlot 32 = .ok (.getfield 102, 3) := by decide +kernel
theorem dX4_earliestSlot_35 : decode cX4_earliestSlot 35 = .ok (.iload 4, 2) := by decide +kernel
theorem dX4_earliestSlot_37 : decode cX4_earliestSlot 37 = .ok (.invokevirtual 157, 3) := by decide +kernel
theorem dX4_earliestSlot_40 : decode cX4_earliestSlot 40 = .ok (.istore 5, 2) := by decide +kernel
theorem dX4_earliestSlot_42 : decode cX4_earliestSlot 42 = .ok (.aload_n 0, 1) := by decide +kernel
theorem dX4_earliestSlot_43 : decode cX4_earliestSlot 43 = .ok (.aload_n 1, 1) := by decide +kernel
theorem dX4_earliestSlot_44 : decode cX4_earliestSlot 44 = .ok (.iload 5, 2) := by decide +kernel
theorem dX4_earliestSlot_46 : decode cX4_earliestSlot 46 = .ok (.invokevirtual 182, 3) := by decide +kernel
theorem dX4_earliestSlot_49 : decode cX4_earliestSlot 49 = .ok (.istore 5, 2) := by decide +kernel
theorem dX4_earliestSlot_51 : decode cX4_earliestSlot 51 = .ok (.aload_n 0, 1) := by decide +kernel
theorem dX4_earliestSlot_52 : decode cX4_earliestSlot 52 = .ok (.aload_n 1, 1) := by decide +kernel
theorem dX4_earliestSlot_53 : decode cX4_earliestSlot 53 = .ok (.iload 5, 2) := by decide +kernel
theorem dX4_earliestSlot_55 : decode cX4_earliestSlot 55 = .ok (.invokevirtual 189, 3) := by decide +kernel
theorem dX4_earliestSlot_58 : decode cX4_earliestSlot 58 = .ok (.istore 5, 2) := by decide +kernel
theorem dX4_earliestSlot_60 : decode cX4_earliestSlot 60 = .ok (.aload_n 0, 1) := by decide +kernel
theorem dX4_earliestSlot_61 : decode cX4_earliestSlot 61 = .ok (.aload_n 1, 1) := by decide +kernel
theorem dX4_earliestSlot_62 : decode cX4_earliestSlot 62 = .ok (.iload 5, 2) := by decide +kernel
theorem dX4_earliestSlot_64 : decode cX4_earliestSlot 64 = .ok (.invokevirtual 186, 3) := by decide +kernel
theorem dX4_earliestSlot_67 : decode cX4_earliestSlot 67 = .ok (.istore 5, 2) := by decide +kernel
theorem dX4_earliestSlot_69 : decode cX4_earliestSlot 69 = .ok (.iload 5, 2) := by decide +kernel
theorem dX4_earliestSlot_71 : decode cX4_earliestSlot 71 = .ok (.iload 4, 2) := by decide +kernel
theorem dX4_earliestSlot_73 : decode cX4_earliestSlot 73 = .ok (.if_icmp .ne 6, 3) := by decide +kernel
theorem dX4_earliestSlot_76 : decode cX4_earliestSlot 76 = .ok (.iload 4, 2) := by decide +kernel
theorem dX4_earliestSlot_78 : decode cX4_earliestSlot 78 = .ok (.ireturn, 1) := by decide +kernel
theorem dX4_earliestSlot_79 : decode cX4_earliestSlot 79 = .ok (.iload 4, 2) := by decide +kernel
theorem dX4_earliestSlot_81 : decode cX4_earliestSlot 81 = .ok (.iconst 1, 1) := by decide +kernel
theorem dX4_earliestSlot_82 : decode cX4_earliestSlot 82 = .ok (.iadd, 1) := by decide +kernel
theorem dX4_earliestSlot_83 : decode cX4_earliestSlot 83 = .ok (.iload 5, 2) := by decide +kernel
theorem dX4_earliestSlot_85 : decode cX4_earliestSlot 85 = .ok (.invokestatic 161, 3) := by decide +kernel
theorem dX4_earliestSlot_88 : decode cX4_earliestSlot 88 = .ok (.istore 4, 2) := by decide +kernel
theorem dX4_earliestSlot_90 : decode cX4_earliestSlot 90 = .ok (.goto (-69), 3) := by decide +kernel
theorem dX4_earliestSlot_93 : decode cX4_earliestSlot 93 = .ok (.iconst (-1), 1) := by decide +kernel
theorem dX4_earliestSlot_94 : decode cX4_earliestSlot 94 = .ok (.ireturn, 1) := by decide +kernel
theorem dX4_pastRests_0 : decode cX4_pastRests 0 = .ok (.iload_n 2, 1) := by decide +kernel
theorem dX4_pastRests_1 : decode cX4_pastRests 1 = .ok (.istore_n 3, 1) := by decide +kernel
theorem dX4_pastRests_2 : decode cX4_pastRests 2 = .ok (.iconst 0, 1) := by decide +kernel
theorem dX4_pastRests_3 : decode cX4_pastRests 3 = .ok (.istore 4, 2) := by decide +kernel
theorem dX4_pastRests_5 : decode cX4_pastRests 5 = .ok (.iload 4, 2) := by decide +kernel
theorem dX4_pastRests_7 : decode cX4_pastRests 7 = .ok (.aload_n 0, 1) := by decide +kernel
theorem dX4_pastRests_8 : decode cX4_pastRests 8 = .ok (.getfield 26, 3) := by decide +kernel
theorem dX4_pastRests_11 : decode cX4_pastRests 11 = .ok (.invokevirtual 43, 3) := by decide +kernel
theorem dX4_pastRests_14 : decode cX4_pastRests 14 = .ok (.if_icmp .ge 96, 3) := by decide +kernel
theorem dX4_pastRests_17 : decode cX4_pastRests 17 = .ok (.aload_n 0, 1) := by decide +kernel
theorem dX4_pastRests_18 : decode cX4_pastRests 18 = .ok (.getfield 26, 3) := by decide +kernel
theorem dX4_pastRests_21 : decode cX4_pastRests 21 = .ok (.iload 4, 2) := by decide +kernel
theorem dX4_pastRests_23 : decode cX4_pastRests 23 = .ok (.invokevirtual 145, 3) := by decide +kernel
theorem dX4_pastRests_26 : decode cX4_pastRests 26 = .ok (.checkcast 71, 3) := by decide +kernel
theorem dX4_pastRests_29 : decode cX4_pastRests 29 = .ok (.astore 5, 2) := by decide +kernel
theorem dX4_pastRests_31 : decode cX4_pastRests 31 = .ok (.aload 5, 2) := by decide +kernel
theorem dX4_pastRests_33 : decode cX4_pastRests 33 = .ok (.aload_n 1, 1) := by decide +kernel
theorem dX4_pastRests_34 : decode cX4_pastRests 34 = .ok (.if_acmp .eq 70, 3) := by decide +kernel
theorem dX4_pastRests_37 : decode cX4_pastRests 37 = .ok (.aload 5, 2) := by decide +kernel
theorem dX4_pastRests_39 : decode cX4_pastRests 39 = .ok (.getfield 122, 3) := by decide +kernel
theorem dX4_pastRests_42 : decode cX4_pastRests 42 = .ok (.iconst (-1), 1) := by decide +kernel
theorem dX4_pastRests_43 : decode cX4_pastRests 43 = .ok (.if_icmp .eq 61, 3) := by decide +kernel
theorem dX4_pastRests_46 : decode cX4_pastRests 46 = .ok (.aload 5, 2) := by decide +kernel
theorem dX4_pastRests_48 : decode cX4_pastRests 48 = .ok (.getfield 167, 3) := by decide +kernel
theorem dX4_pastRests_51 : decode cX4_pastRests 51 = .ok (.aload_n 1, 1) := by decide +kernel
theorem dX4_pastRests_52 : decode cX4_pastRests 52 = .ok (.getfield 167, 3) := by decide +kernel
theorem dX4_pastRests_55 : decode cX4_pastRests 55 = .ok (.if_acmp .ne 49, 3) := by decide +kernel
theorem dX4_pastRests_58 : decode cX4_pastRests 58 = .ok (.aload 5, 2) := by decide +kernel
theorem dX4_pastRests_60 : decode cX4_pastRests 60 = .ok (.getfield 122, 3) := by decide +kernel
theorem dX4_pastRests_63 : decode cX4_pastRests 63 = .ok (.aload 5, 2) := by decide +kernel
theorem dX4_pastRests_65 : decode cX4_pastRests 65 = .ok (.getfield 102, 3) := by decide +kernel
theorem dX4_pastRests_68 : decode cX4_pastRests 68 = .ok (.invokevirtual 244, 3) := by decide +kernel
theorem dX4_pastRests_71 : decode cX4_pastRests 71 = .ok (.iadd, 1) := by decide +kernel
theorem dX4_pastRests_72 : decode cX4_pastRests 72 = .ok (.istore 6, 2) := by decide +kernel
theorem dX4_pastRests_74 : decode cX4_pastRests 74 = .ok (.iload_n 2, 1) := by decide +kernel
theorem dX4_pastRests_75 : decode cX4_pastRests 75 = .ok (.iload 6, 2) := by decide +kernel
theorem dX4_pastRests_77 : decode cX4_pastRests 77 = .ok (.if_icmp .ge 27, 3) := by decide +kernel
theorem dX4_pastRests_80 : decode cX4_pastRests 80 = .ok (.aload 5, 2) := by decide +kernel
theorem dX4_pastRests_82 : decode cX4_pastRests 82 = .ok (.getfield 122, 3) := by decide +kernel
theorem dX4_pastRests_85 : decode cX4_pastRests 85 = .ok (.iload_n 2, 1) := by decide +kernel
theorem dX4_pastRests_86 : decode cX4_pastRests 86 = .ok (.aload_n 1, 1) := by decide +kernel
theorem dX4_pastRests_87 : decode cX4_pastRests 87 = .ok (.getfield 102, 3) := by decide +kernel
theorem dX4_pastRests_90 : decode cX4_pastRests 90 = .ok (.invokevirtual 244, 3) := by decide +kernel
theorem dX4_pastRests_93 : decode cX4_pastRests 93 = .ok (.iadd, 1) := by decide +kernel
theorem dX4_pastRests_94 : decode cX4_pastRests 94 = .ok (.if_icmp .ge 10, 3) := by decide +kernel
theorem dX4_pastRests_97 : decode cX4_pastRests 97 = .ok (.iload_n 3, 1) := by decide +kernel
theorem dX4_pastRests_98 : decode cX4_pastRests 98 = .ok (.iload 6, 2) := by decide +kernel
theorem dX4_pastRests_100 : decode cX4_pastRests 100 = .ok (.invokestatic 161, 3) := by decide +kernel
theorem dX4_pastRests_103 : decode cX4_pastRests 103 = .ok (.istore_n 3, 1) := by decide +kernel
theorem dX4_pastRests_104 : decode cX4_pastRests 104 = .ok (.iinc 4 1, 3) := by decide +kernel
theorem dX4_pastRests_107 : decode cX4_pastRests 107 = .ok (.goto (-102), 3) := by decide +kernel
theorem dX4_pastRests_110 : decode cX4_pastRests 110 = .ok (.iload_n 3, 1) := by decide +kernel
theorem dX4_pastRests_111 : decode cX4_pastRests 111 = .ok (.ireturn, 1) := by decide +kernel
theorem dX4_pastTugs_0 : decode cX4_pastTugs 0 = .ok (.iload_n 2, 1) := by decide +kernel
theorem dX4_pastTugs_1 : decode cX4_pastTugs 1 = .ok (.aload_n 1, 1) := by decide +kernel
theorem dX4_pastTugs_2 : decode cX4_pastTugs 2 = .ok (.getfield 102, 3) := by decide +kernel
theorem dX4_pastTugs_5 : decode cX4_pastTugs 5 = .ok (.getfield 247, 3) := by decide +kernel
theorem dX4_pastTugs_8 : decode cX4_pastTugs 8 = .ok (.iadd, 1) := by decide +kernel
theorem dX4_pastTugs_9 : decode cX4_pastTugs 9 = .ok (.iconst 1, 1) := by decide +kernel
theorem dX4_pastTugs_10 : decode cX4_pastTugs 10 = .ok (.isub, 1) := by decide +kernel
theorem dX4_pastTugs_11 : decode cX4_pastTugs 11 = .ok (.istore_n 3, 1) := by decide +kernel
theorem dX4_pastTugs_12 : decode cX4_pastTugs 12 = .ok (.aload_n 0, 1) := by decide +kernel
theorem dX4_pastTugs_13 : decode cX4_pastTugs 13 = .ok (.getfield 29, 3) := by decide +kernel
theorem dX4_pastTugs_16 : decode cX4_pastTugs 16 = .ok (.aload_n 1, 1) := by decide +kernel
theorem dX4_pastTugs_17 : decode cX4_pastTugs 17 = .ok (.getfield 102, 3) := by decide +kernel
theorem dX4_pastTugs_20 : decode cX4_pastTugs 20 = .ok (.getfield 250, 3) := by decide +kernel
theorem dX4_pastTugs_23 : decode cX4_pastTugs 23 = .ok (.isub, 1) := by decide +kernel
theorem dX4_pastTugs_24 : decode cX4_pastTugs 24 = .ok (.istore 4, 2) := by decide +kernel
theorem dX4_pastTugs_26 : decode cX4_pastTugs 26 = .ok (.aload_n 0, 1) := by decide +kernel
theorem dX4_pastTugs_27 : decode cX4_pastTugs 27 = .ok (.aload_n 1, 1) := by decide +kernel
theorem dX4_pastTugs_28 : decode cX4_pastTugs 28 = .ok (.iload_n 2, 1) := by decide +kernel
theorem dX4_pastTugs_29 : decode cX4_pastTugs 29 = .ok (.iload_n 3, 1) := by decide +kernel
theorem dX4_pastTugs_30 : decode cX4_pastTugs 30 = .ok (.invokevirtual 212, 3) := by decide +kernel
theorem dX4_pastTugs_33 : decode cX4_pastTugs 33 = .ok (.iload 4, 2) := by decide +kernel
theorem dX4_pastTugs_35 : decode cX4_pastTugs 35 = .ok (.if_icmp .gt 5, 3) := by decide +kernel
theorem dX4_pastTugs_38 : decode cX4_pastTugs 38 = .ok (.iload_n 2, 1) := by decide +kernel
theorem dX4_pastTugs_39 : decode cX4_pastTugs 39 = .ok (.ireturn, 1) := by decide +kernel
theorem dX4_pastTugs_40 : decode cX4_pastTugs 40 = .ok (.iload_n 3, 1) := by decide +kernel
theorem dX4_pastTugs_41 : decode cX4_pastTugs 41 = .ok (.istore 5, 2) := by decide +kernel
theorem dX4_pastTugs_43 : decode cX4_pastTugs 43 = .ok (.iload 5, 2) := by decide +kernel
theorem dX4_pastTugs_45 : decode cX4_pastTugs 45 = .ok (.iload_n 2, 1) := by decide +kernel
theorem dX4_pastTugs_46 : decode cX4_pastTugs 46 = .ok (.if_icmp .lt 28, 3) := by decide +kernel
theorem dX4_pastTugs_49 : decode cX4_pastTugs 49 = .ok (.aload_n 0, 1) := by decide +kernel
theorem dX4_pastTugs_50 : decode cX4_pastTugs 50 = .ok (.aload_n 1, 1) := by decide +kernel
theorem dX4_pastTugs_51 : decode cX4_pastTugs 51 = .ok (.iload 5, 2) := by decide +kernel
theorem dX4_pastTugs_53 : decode cX4_pastTugs 53 = .ok (.iload 5, 2) := by decide +kernel
theorem dX4_pastTugs_55 : decode cX4_pastTugs 55 = .ok (.invokevirtual 212, 3) := by decide +kernel
theorem dX4_pastTugs_58 : decode cX4_pastTugs 58 = .ok (.iload 4, 2) := by decide +kernel
theorem dX4_pastTugs_60 : decode cX4_pastTugs 60 = .ok (.if_icmp .le 8, 3) := by decide +kernel
theorem dX4_pastTugs_63 : decode cX4_pastTugs 63 = .ok (.iload 5, 2) := by decide +kernel
theorem dX4_pastTugs_65 : decode cX4_pastTugs 65 = .ok (.iconst 1, 1) := by decide +kernel
theorem dX4_pastTugs_66 : decode cX4_pastTugs 66 = .ok (.iadd, 1) := by decide +kernel
theorem dX4_pastTugs_67 : decode cX4_pastTugs 67 = .ok (.ireturn, 1) := by decide +kernel
theorem dX4_pastTugs_68 : decode cX4_pastTugs 68 = .ok (.iinc 5 (-1), 3) := by decide +kernel
theorem dX4_pastTugs_71 : decode cX4_pastTugs 71 = .ok (.goto (-28), 3) := by decide +kernel
theorem dX4_pastTugs_74 : decode cX4_pastTugs 74 = .ok (.iload_n 2, 1) := by decide +kernel
theorem dX4_pastTugs_75 : decode cX4_pastTugs 75 = .ok (.ireturn, 1) := by decide +kernel
theorem dX4_pastChannel_0 : decode cX4_pastChannel 0 = .ok (.iload_n 2, 1) := by decide +kernel
theorem dX4_pastChannel_1 : decode cX4_pastChannel 1 = .ok (.istore_n 3, 1) := by decide +kernel
theorem dX4_pastChannel_2 : decode cX4_pastChannel 2 = .ok (.iconst 0, 1) := by decide +kernel
theorem dX4_pastChannel_3 : decode cX4_pastChannel 3 = .ok (.istore 4, 2) := by decide +kernel
theorem dX4_pastChannel_5 : decode cX4_pastChannel 5 = .ok (.iload 4, 2) := by decide +kernel
theorem dX4_pastChannel_7 : decode cX4_pastChannel 7 = .ok (.aload_n 0, 1) := by decide +kernel
theorem dX4_pastChannel_8 : decode cX4_pastChannel 8 = .ok (.getfield 26, 3) := by decide +kernel
theorem dX4_pastChannel_11 : decode cX4_pastChannel 11 = .ok (.invokevirtual 43, 3) := by decide +kernel
theorem dX4_pastChannel_14 : decode cX4_pastChannel 14 = .ok (.if_icmp .ge 66, 3) := by decide +kernel
theorem dX4_pastChannel_17 : decode cX4_pastChannel 17 = .ok (.aload_n 0, 1) := by decide +kernel
theorem dX4_pastChannel_18 : decode cX4_pastChannel 18 = .ok (.getfield 26, 3) := by decide +kernel
theorem dX4_pastChannel_21 : decode cX4_pastChannel 21 = .ok (.iload 4, 2) := by decide +kernel
theorem dX4_pastChannel_23 : decode cX4_pastChannel 23 = .ok (.invokevirtual 145, 3) := by decide +kernel
theorem dX4_pastChannel_26 : decode cX4_pastChannel 26 = .ok (.checkcast 71, 3) := by decide +kernel
theorem dX4_pastChannel_29 : decode cX4_pastChannel 29 = .ok (.astore 5, 2) := by decide +kernel
theorem dX4_pastChannel_31 : decode cX4_pastChannel 31 = .ok (.aload 5, 2) := by decide +kernel
theorem dX4_pastChannel_33 : decode cX4_pastChannel 33 = .ok (.aload_n 1, 1) := by decide +kernel
theorem dX4_pastChannel_34 : decode cX4_pastChannel 34 = .ok (.if_acmp .eq 40, 3) := by decide +kernel
theorem dX4_pastChannel_37 : decode cX4_pastChannel 37 = .ok (.aload 5, 2) := by decide +kernel
theorem dX4_pastChannel_39 : decode cX4_pastChannel 39 = .ok (.getfield 122, 3) := by decide +kernel
theorem dX4_pastChannel_42 : decode cX4_pastChannel 42 = .ok (.iconst (-1), 1) := by decide +kernel
theorem dX4_pastChannel_43 : decode cX4_pastChannel 43 = .ok (.if_icmp .eq 31, 3) := by decide +kernel
theorem dX4_pastChannel_46 : decode cX4_pastChannel 46 = .ok (.aload 5, 2) := by decide +kernel
theorem dX4_pastChannel_48 : decode cX4_pastChannel 48 = .ok (.getfield 122, 3) := by decide +kernel
theorem dX4_pastChannel_51 : decode cX4_pastChannel 51 = .ok (.iload_n 2, 1) := by decide +kernel
theorem dX4_pastChannel_52 : decode cX4_pastChannel 52 = .ok (.isub, 1) := by decide +kernel
theorem dX4_pastChannel_53 : decode cX4_pastChannel 53 = .ok (.invokestatic 251, 3) := by decide +kernel
theorem dX4_pastChannel_56 : decode cX4_pastChannel 56 = .ok (.bipush 15, 2) := by decide +kernel
theorem dX4_pastChannel_58 : decode cX4_pastChannel 58 = .ok (.if_icmp .ge 16, 3) := by decide +kernel
theorem dX4_pastChannel_61 : decode cX4_pastChannel 61 = .ok (.iload_n 3, 1) := by decide +kernel
theorem dX4_pastChannel_62 : decode cX4_pastChannel 62 = .ok (.aload 5, 2) := by decide +kernel
theorem dX4_pastChannel_64 : decode cX4_pastChannel 64 = .ok (.getfield 122, 3) := by decide +kernel
theorem dX4_pastChannel_67 : decode cX4_pastChannel 67 = .ok (.bipush 15, 2) := by decide +kernel
theorem dX4_pastChannel_69 : decode cX4_pastChannel 69 = .ok (.iadd, 1) := by decide +kernel
theorem dX4_pastChannel_70 : decode cX4_pastChannel 70 = .ok (.invokestatic 161, 3) := by decide +kernel
theorem dX4_pastChannel_73 : decode cX4_pastChannel 73 = .ok (.istore_n 3, 1) := by decide +kernel
theorem dX4_pastChannel_74 : decode cX4_pastChannel 74 = .ok (.iinc 4 1, 3) := by decide +kernel
theorem dX4_pastChannel_77 : decode cX4_pastChannel 77 = .ok (.goto (-72), 3) := by decide +kernel
theorem dX4_pastChannel_80 : decode cX4_pastChannel 80 = .ok (.iload_n 3, 1) := by decide +kernel
theorem dX4_pastChannel_81 : decode cX4_pastChannel 81 = .ok (.ireturn, 1) := by decide +kernel
theorem dX4_tugsOfOthers_0 : decode cX4_tugsOfOthers 0 = .ok (.iconst 0, 1) := by decide +kernel
theorem dX4_tugsOfOthers_1 : decode cX4_tugsOfOthers 1 = .ok (.istore 4, 2) := by decide +kernel
theorem dX4_tugsOfOthers_3 : decode cX4_tugsOfOthers 3 = .ok (.iconst 0, 1) := by decide +kernel
theorem dX4_tugsOfOthers_4 : decode cX4_tugsOfOthers 4 = .ok (.istore 5, 2) := by decide +kernel
theorem dX4_tugsOfOthers_6 : decode cX4_tugsOfOthers 6 = .ok (.iload 5, 2) := by decide +kernel
theorem dX4_tugsOfOthers_8 : decode cX4_tugsOfOthers 8 = .ok (.aload_n 0, 1) := by decide +kernel
theorem dX4_tugsOfOthers_9 : decode cX4_tugsOfOthers 9 = .ok (.getfield 26, 3) := by decide +kernel
theorem dX4_tugsOfOthers_12 : decode cX4_tugsOfOthers 12 = .ok (.invokevirtual 43, 3) := by decide +kernel
theorem dX4_tugsOfOthers_15 : decode cX4_tugsOfOthers 15 = .ok (.if_icmp .ge 78, 3) := by decide +kernel
theorem dX4_tugsOfOthers_18 : decode cX4_tugsOfOthers 18 = .ok (.aload_n 0, 1) := by decide +kernel
theorem dX4_tugsOfOthers_19 : decode cX4_tugsOfOthers 19 = .ok (.getfield 26, 3) := by decide +kernel
theorem dX4_tugsOfOthers_22 : decode cX4_tugsOfOthers 22 = .ok (.iload 5, 2) := by decide +kernel
theorem dX4_tugsOfOthers_24 : decode cX4_tugsOfOthers 24 = .ok (.invokevirtual 145, 3) := by decide +kernel
theorem dX4_tugsOfOthers_27 : decode cX4_tugsOfOthers 27 = .ok (.checkcast 71, 3) := by decide +kernel
theorem dX4_tugsOfOthers_30 : decode cX4_tugsOfOthers 30 = .ok (.astore 6, 2) := by decide +kernel
theorem dX4_tugsOfOthers_32 : decode cX4_tugsOfOthers 32 = .ok (.aload 6, 2) := by decide +kernel
theorem dX4_tugsOfOthers_34 : decode cX4_tugsOfOthers 34 = .ok (.aload_n 1, 1) := by decide +kernel
theorem dX4_tugsOfOthers_35 : decode cX4_tugsOfOthers 35 = .ok (.if_acmp .eq 52, 3) := by decide +kernel
theorem dX4_tugsOfOthers_38 : decode cX4_tugsOfOthers 38 = .ok (.aload 6, 2) := by decide +kernel
theorem dX4_tugsOfOthers_40 : decode cX4_tugsOfOthers 40 = .ok (.getfield 122, 3) := by decide +kernel
theorem dX4_tugsOfOthers_43 : decode cX4_tugsOfOthers 43 = .ok (.iconst (-1), 1) := by decide +kernel
theorem dX4_tugsOfOthers_44 : decode cX4_tugsOfOthers 44 = .ok (.if_icmp .eq 43, 3) := by decide +kernel
theorem dX4_tugsOfOthers_47 : decode cX4_tugsOfOthers 47 = .ok (.aload 6, 2) := by decide +kernel
theorem dX4_tugsOfOthers_49 : decode cX4_tugsOfOthers 49 = .ok (.getfield 122, 3) := by decide +kernel
theorem dX4_tugsOfOthers_52 : decode cX4_tugsOfOthers 52 = .ok (.iload_n 3, 1) := by decide +kernel
theorem dX4_tugsOfOthers_53 : decode cX4_tugsOfOthers 53 = .ok (.if_icmp .gt 34, 3) := by decide +kernel
theorem dX4_tugsOfOthers_56 : decode cX4_tugsOfOthers 56 = .ok (.aload 6, 2) := by decide +kernel
theorem dX4_tugsOfOthers_58 : decode cX4_tugsOfOthers 58 = .ok (.getfield 122, 3) := by decide +kernel
theorem dX4_tugsOfOthers_61 : decode cX4_tugsOfOthers 61 = .ok (.aload 6, 2) := by decide +kernel
theorem dX4_tugsOfOthers_63 : decode cX4_tugsOfOthers 63 = .ok (.getfield 102, 3) := by decide +kernel
theorem dX4_tugsOfOthers_66 : decode cX4_tugsOfOthers 66 = .ok (.getfield 247, 3) := by decide +kernel
theorem dX4_tugsOfOthers_69 : decode cX4_tugsOfOthers 69 = .ok (.iadd, 1) := by decide +kernel
theorem dX4_tugsOfOthers_70 : decode cX4_tugsOfOthers 70 = .ok (.iload_n 2, 1) := by decide +kernel
theorem dX4_tugsOfOthers_71 : decode cX4_tugsOfOthers 71 = .ok (.if_icmp .le 16, 3) := by decide +kernel
theorem dX4_tugsOfOthers_74 : decode cX4_tugsOfOthers 74 = .ok (.iload 4, 2) := by decide +kernel
theorem dX4_tugsOfOthers_76 : decode cX4_tugsOfOthers 76 = .ok (.aload 6, 2) := by decide +kernel
theorem dX4_tugsOfOthers_78 : decode cX4_tugsOfOthers 78 = .ok (.getfield 102, 3) := by decide +kernel
theorem dX4_tugsOfOthers_81 : decode cX4_tugsOfOthers 81 = .ok (.getfield 250, 3) := by decide +kernel
theorem dX4_tugsOfOthers_84 : decode cX4_tugsOfOthers 84 = .ok (.iadd, 1) := by decide +kernel
theorem dX4_tugsOfOthers_85 : decode cX4_tugsOfOthers 85 = .ok (.istore 4, 2) := by decide +kernel
theorem dX4_tugsOfOthers_87 : decode cX4_tugsOfOthers 87 = .ok (.iinc 5 1, 3) := by decide +kernel
theorem dX4_tugsOfOthers_90 : decode cX4_tugsOfOthers 90 = .ok (.goto (-84), 3) := by decide +kernel
theorem dX4_tugsOfOthers_93 : decode cX4_tugsOfOthers 93 = .ok (.iload 4, 2) := by decide +kernel
theorem dX4_tugsOfOthers_95 : decode cX4_tugsOfOthers 95 = .ok (.ireturn, 1) := by decide +kernel
theorem dX4_becomesDone_0 : decode cX4_becomesDone 0 = .ok (.aload_n 1, 1) := by decide +kernel
theorem dX4_becomesDone_1 : decode cX4_becomesDone 1 = .ok (.getfield 125, 3) := by decide +kernel
theorem dX4_becomesDone_4 : decode cX4_becomesDone 4 = .ok (.iconst 2, 1) := by decide +kernel
theorem dX4_becomesDone_5 : decode cX4_becomesDone 5 = .ok (.if_icmp .ne 19, 3) := by decide +kernel
theorem dX4_becomesDone_8 : decode cX4_becomesDone 8 = .ok (.aload_n 1, 1) := by decide +kernel
theorem dX4_becomesDone_9 : decode cX4_becomesDone 9 = .ok (.getfield 122, 3) := by decide +kernel
theorem dX4_becomesDone_12 : decode cX4_becomesDone 12 = .ok (.aload_n 0, 1) := by decide +kernel
theorem dX4_becomesDone_13 : decode cX4_becomesDone 13 = .ok (.getfield 68, 3) := by decide +kernel
theorem dX4_becomesDone_16 : decode cX4_becomesDone 16 = .ok (.if_icmp .gt 8, 3) := by decide +kernel
theorem dX4_becomesDone_19 : decode cX4_becomesDone 19 = .ok (.aload_n 1, 1) := by decide +kernel
theorem dX4_becomesDone_20 : decode cX4_becomesDone 20 = .ok (.iconst 3, 1) := by decide +kernel
theorem dX4_becomesDone_21 : decode cX4_becomesDone 21 = .ok (.putfield 125, 3) := by decide +kernel
theorem dX4_becomesDone_24 : decode cX4_becomesDone 24 = .ok (.aload_n 1, 1) := by decide +kernel
theorem dX4_becomesDone_25 : decode cX4_becomesDone 25 = .ok (.getfield 167, 3) := by decide +kernel
theorem dX4_becomesDone_28 : decode cX4_becomesDone 28 = .ok (.astore_n 2, 1) := by decide +kernel
theorem dX4_becomesDone_29 : decode cX4_becomesDone 29 = .ok (.aload_n 1, 1) := by decide +kernel
theorem dX4_becomesDone_30 : decode cX4_becomesDone 30 = .ok (.getfield 125, 3) := by decide +kernel
theorem dX4_becomesDone_33 : decode cX4_becomesDone 33 = .ok (.iconst 3, 1) := by decide +kernel
theorem dX4_becomesDone_34 : decode cX4_becomesDone 34 = .ok (.if_icmp .ne 26, 3) := by decide +kernel
theorem dX4_becomesDone_37 : decode cX4_becomesDone 37 = .ok (.aload_n 2, 1) := by decide +kernel
theorem dX4_becomesDone_38 : decode cX4_becomesDone 38 = .ok (.ifnull 22, 3) := by decide +kernel
theorem dX4_becomesDone_41 : decode cX4_becomesDone 41 = .ok (.aload_n 1, 1) := by decide +kernel
theorem dX4_becomesDone_42 : decode cX4_becomesDone 42 = .ok (.getfield 122, 3) := by decide +kernel
theorem dX4_becomesDone_45 : decode cX4_becomesDone 45 = .ok (.aload_n 1, 1) := by decide +kernel
theorem dX4_becomesDone_46 : decode cX4_becomesDone 46 = .ok (.getfield 102, 3) := by decide +kernel
theorem dX4_becomesDone_49 : decode cX4_becomesDone 49 = .ok (.getfield 247, 3) := by decide +kernel
theorem dX4_becomesDone_52 : decode cX4_becomesDone 52 = .ok (.iadd, 1) := by decide +kernel
theorem dX4_becomesDone_53 : decode cX4_becomesDone 53 = .ok (.aload_n 0, 1) := by decide +kernel
theorem dX4_becomesDone_54 : decode cX4_becomesDone 54 = .ok (.getfield 68, 3) := by decide +kernel
theorem dX4_becomesDone_57 : decode cX4_becomesDone 57 = .ok (.if_icmp .le 5, 3) := by decide +kernel
theorem dX4_becomesDone_60 : decode cX4_becomesDone 60 = .ok (.iconst 0, 1) := by decide +kernel
theorem dX4_becomesDone_61 : decode cX4_becomesDone 61 = .ok (.ireturn, 1) := by decide +kernel
theorem dX4_becomesDone_62 : decode cX4_becomesDone 62 = .ok (.aload_n 1, 1) := by decide +kernel
theorem dX4_becomesDone_63 : decode cX4_becomesDone 63 = .ok (.iconst 4, 1) := by decide +kernel
theorem dX4_becomesDone_64 : decode cX4_becomesDone 64 = .ok (.putfield 125, 3) := by decide +kernel
theorem dX4_becomesDone_67 : decode cX4_becomesDone 67 = .ok (.aload_n 1, 1) := by decide +kernel
theorem dX4_becomesDone_68 : decode cX4_becomesDone 68 = .ok (.getfield 102, 3) := by decide +kernel
theorem dX4_becomesDone_71 : decode cX4_becomesDone 71 = .ok (.dup, 1) := by decide +kernel
theorem dX4_becomesDone_72 : decode cX4_becomesDone 72 = .ok (.getfield 196, 3) := by decide +kernel
theorem dX4_becomesDone_75 : decode cX4_becomesDone 75 = .ok (.aload_n 1, 1) := by decide +kernel
theorem dX4_becomesDone_76 : decode cX4_becomesDone 76 = .ok (.getfield 102, 3) := by decide +kernel
theorem dX4_becomesDone_79 : decode cX4_becomesDone 79 = .ok (.getfield 247, 3) := by decide +kernel
theorem dX4_becomesDone_82 : decode cX4_becomesDone 82 = .ok (.aload_n 2, 1) := by decide +kernel
theorem dX4_becomesDone_83 : decode cX4_becomesDone 83 = .ok (.getfield 209, 3) := by decide +kernel
theorem dX4_becomesDone_86 : decode cX4_becomesDone 86 = .ok (.imul, 1) := by decide +kernel
theorem dX4_becomesDone_87 : decode cX4_becomesDone 87 = .ok (.aload_n 1, 1) := by decide +kernel
theorem dX4_becomesDone_88 : decode cX4_becomesDone 88 = .ok (.getfield 102, 3) := by decide +kernel
theorem dX4_becomesDone_91 : decode cX4_becomesDone 91 = .ok (.getfield 250, 3) := by decide +kernel
theorem dX4_becomesDone_94 : decode cX4_becomesDone 94 = .ok (.bipush 100, 2) := by decide +kernel
theorem dX4_becomesDone_96 : decode cX4_becomesDone 96 = .ok (.imul, 1) := by decide +kernel
theorem dX4_becomesDone_97 : decode cX4_becomesDone 97 = .ok (.iadd, 1) := by decide +kernel
theorem dX4_becomesDone_98 : decode cX4_becomesDone 98 = .ok (.iadd, 1) := by decide +kernel
theorem dX4_becomesDone_99 : decode cX4_becomesDone 99 = .ok (.putfield 196, 3) := by decide +kernel
theorem dX4_becomesDone_102 : decode cX4_becomesDone 102 = .ok (.aload_n 2, 1) := by decide +kernel
theorem dX4_becomesDone_103 : decode cX4_becomesDone 103 = .ok (.dup, 1) := by decide +kernel
theorem dX4_becomesDone_104 : decode cX4_becomesDone 104 = .ok (.getfield 199, 3) := by decide +kernel
theorem dX4_becomesDone_107 : decode cX4_becomesDone 107 = .ok (.iconst 1, 1) := by decide +kernel
theorem dX4_becomesDone_108 : decode cX4_becomesDone 108 = .ok (.iadd, 1) := by decide +kernel
theorem dX4_becomesDone_109 : decode cX4_becomesDone 109 = .ok (.putfield 199, 3) := by decide +kernel
theorem dX4_becomesDone_112 : decode cX4_becomesDone 112 = .ok (.aload_n 2, 1) := by decide +kernel
theorem dX4_becomesDone_113 : decode cX4_becomesDone 113 = .ok (.dup, 1) := by decide +kernel
theorem dX4_becomesDone_114 : decode cX4_becomesDone 114 = .ok (.getfield 202, 3) := by decide +kernel
theorem dX4_becomesDone_117 : decode cX4_becomesDone 117 = .ok (.aload_n 1, 1) := by decide +kernel
theorem dX4_becomesDone_118 : decode cX4_becomesDone 118 = .ok (.getfield 102, 3) := by decide +kernel
theorem dX4_becomesDone_121 : decode cX4_becomesDone 121 = .ok (.getfield 247, 3) := by decide +kernel
theorem dX4_becomesDone_124 : decode cX4_becomesDone 124 = .ok (.iadd, 1) := by decide +kernel
theorem dX4_becomesDone_125 : decode cX4_becomesDone 125 = .ok (.putfield 202, 3) := by decide +kernel
theorem dX4_becomesDone_128 : decode cX4_becomesDone 128 = .ok (.iconst 1, 1) := by decide +kernel
theorem dX4_becomesDone_129 : decode cX4_becomesDone 129 = .ok (.ireturn, 1) := by decide +kernel
theorem dX4_restedBehindSlots_0 : decode cX4_restedBehindSlots 0 = .ok (.aload_n 0, 1) := by decide +kernel
theorem dX4_restedBehindSlots_1 : decode cX4_restedBehindSlots 1 = .ok (.getfield 68, 3) := by decide +kernel
theorem dX4_restedBehindSlots_4 : decode cX4_restedBehindSlots 4 = .ok (.istore_n 2, 1) := by decide +kernel
theorem dX4_restedBehindSlots_5 : decode cX4_restedBehindSlots 5 = .ok (.iconst 0, 1) := by decide +kernel
theorem dX4_restedBehindSlots_6 : decode cX4_restedBehindSlots 6 = .ok (.istore_n 3, 1) := by decide +kernel
theorem dX4_restedBehindSlots_7 : decode cX4_restedBehindSlots 7 = .ok (.iload_n 3, 1) := by decide +kernel
theorem dX4_restedBehindSlots_8 : decode cX4_restedBehindSlots 8 = .ok (.aload_n 0, 1) := by decide +kernel
theorem dX4_restedBehindSlots_9 : decode cX4_restedBehindSlots 9 = .ok (.getfield 26, 3) := by decide +kernel
theorem dX4_restedBehindSlots_12 : decode cX4_restedBehindSlots 12 = .ok (.invokevirtual 43, 3) := by decide +kernel
theorem dX4_restedBehindSlots_15 : decode cX4_restedBehindSlots 15 = .ok (.if_icmp .ge 59, 3) := by decide +kernel
theorem dX4_restedBehindSlots_18 : decode cX4_restedBehindSlots 18 = .ok (.aload_n 0, 1) := by decide +kernel
theorem dX4_restedBehindSlots_19 : decode cX4_restedBehindSlots 19 = .ok (.getfield 26, 3) := by decide +kernel
theorem dX4_restedBehindSlots_22 : decode cX4_restedBehindSlots 22 = .ok (.iload_n 3, 1) := by decide +kernel
theorem dX4_restedBehindSlots_23 : decode cX4_restedBehindSlots 23 = .ok (.invokevirtual 145, 3) := by decide +kernel
theorem dX4_restedBehindSlots_26 : decode cX4_restedBehindSlots 26 = .ok (.checkcast 71, 3) := by decide +kernel
theorem dX4_restedBehindSlots_29 : decode cX4_restedBehindSlots 29 = .ok (.astore 4, 2) := by decide +kernel
theorem dX4_restedBehindSlots_31 : decode cX4_restedBehindSlots 31 = .ok (.aload 4, 2) := by decide +kernel
theorem dX4_restedBehindSlots_33 : decode cX4_restedBehindSlots 33 = .ok (.getfield 167, 3) := by decide +kernel
theorem dX4_restedBehindSlots_36 : decode cX4_restedBehindSlots 36 = .ok (.aload_n 1, 1) := by decide +kernel
theorem dX4_restedBehindSlots_37 : decode cX4_restedBehindSlots 37 = .ok (.if_acmp .ne 31, 3) := by decide +kernel
theorem dX4_restedBehindSlots_40 : decode cX4_restedBehindSlots 40 = .ok (.aload 4, 2) := by decide +kernel
theorem dX4_restedBehindSlots_42 : decode cX4_restedBehindSlots 42 = .ok (.getfield 122, 3) := by decide +kernel
theorem dX4_restedBehindSlots_45 : decode cX4_restedBehindSlots 45 = .ok (.iconst (-1), 1) := by decide +kernel
theorem dX4_restedBehindSlots_46 : decode cX4_restedBehindSlots 46 = .ok (.if_icmp .eq 22, 3) := by decide +kernel
theorem dX4_restedBehindSlots_49 : decode cX4_restedBehindSlots 49 = .ok (.iload_n 2, 1) := by decide +kernel
theorem dX4_restedBehindSlots_50 : decode cX4_restedBehindSlots 50 = .ok (.aload 4, 2) := by decide +kernel
theorem dX4_restedBehindSlots_52 : decode cX4_restedBehindSlots 52 = .ok (.getfield 122, 3) := by decide +kernel
theorem dX4_restedBehindSlots_55 : decode cX4_restedBehindSlots 55 = .ok (.aload 4, 2) := by decide +kernel
theorem dX4_restedBehindSlots_57 : decode cX4_restedBehindSlots 57 = .ok (.getfield 102, 3) := by decide +kernel
theorem dX4_restedBehindSlots_60 : decode cX4_restedBehindSlots 60 = .ok (.invokevirtual 244, 3) := by decide +kernel
theorem dX4_restedBehindSlots_63 : decode cX4_restedBehindSlots 63 = .ok (.iadd, 1) := by decide +kernel
theorem dX4_restedBehindSlots_64 : decode cX4_restedBehindSlots 64 = .ok (.invokestatic 161, 3) := by decide +kernel
theorem dX4_restedBehindSlots_67 : decode cX4_restedBehindSlots 67 = .ok (.istore_n 2, 1) := by decide +kernel
theorem dX4_restedBehindSlots_68 : decode cX4_restedBehindSlots 68 = .ok (.iinc 3 1, 3) := by decide +kernel
theorem dX4_restedBehindSlots_71 : decode cX4_restedBehindSlots 71 = .ok (.goto (-64), 3) := by decide +kernel
theorem dX4_restedBehindSlots_74 : decode cX4_restedBehindSlots 74 = .ok (.iload_n 2, 1) := by decide +kernel
theorem dX4_restedBehindSlots_75 : decode cX4_restedBehindSlots 75 = .ok (.ireturn, 1) := by decide +kernel
theorem dX4_isAboard_0 : decode cX4_isAboard 0 = .ok (.iconst 0, 1) := by decide +kernel
theorem dX4_isAboard_1 : decode cX4_isAboard 1 = .ok (.istore_n 2, 1) := by decide +kernel
theorem dX4_isAboard_2 : decode cX4_isAboard 2 = .ok (.iload_n 2, 1) := by decide +kernel
theorem dX4_isAboard_3 : decode cX4_isAboard 3 = .ok (.aload_n 0, 1) := by decide +kernel
theorem dX4_isAboard_4 : decode cX4_isAboard 4 = .ok (.getfield 26, 3) := by decide +kernel
theorem dX4_isAboard_7 : decode cX4_isAboard 7 = .ok (.invokevirtual 43, 3) := by decide +kernel
theorem dX4_isAboard_10 : decode cX4_isAboard 10 = .ok (.if_icmp .ge 39, 3) := by decide +kernel
theorem dX4_isAboard_13 : decode cX4_isAboard 13 = .ok (.aload_n 0, 1) := by decide +kernel
theorem dX4_isAboard_14 : decode cX4_isAboard 14 = .ok (.getfield 26, 3) := by decide +kernel
theorem dX4_isAboard_17 : decode cX4_isAboard 17 = .ok (.iload_n 2, 1) := by decide +kernel
theorem dX4_isAboard_18 : decode cX4_isAboard 18 = .ok (.invokevirtual 145, 3) := by decide +kernel
theorem dX4_isAboard_21 : decode cX4_isAboard 21 = .ok (.checkcast 71, 3) := by decide +kernel
theorem dX4_isAboard_24 : decode cX4_isAboard 24 = .ok (.astore_n 3, 1) := by decide +kernel
theorem dX4_isAboard_25 : decode cX4_isAboard 25 = .ok (.aload_n 3, 1) := by decide +kernel
theorem dX4_isAboard_26 : decode cX4_isAboard 26 = .ok (.getfield 167, 3) := by decide +kernel
theorem dX4_isAboard_29 : decode cX4_isAboard 29 = .ok (.aload_n 1, 1) := by decide +kernel
theorem dX4_isAboard_30 : decode cX4_isAboard 30 = .ok (.if_acmp .ne 13, 3) := by decide +kernel
theorem dX4_isAboard_33 : decode cX4_isAboard 33 = .ok (.aload_n 3, 1) := by decide +kernel
theorem dX4_isAboard_34 : decode cX4_isAboard 34 = .ok (.getfield 125, 3) := by decide +kernel
theorem dX4_isAboard_37 : decode cX4_isAboard 37 = .ok (.iconst 3, 1) := by decide +kernel
theorem dX4_isAboard_38 : decode cX4_isAboard 38 = .ok (.if_icmp .ne 5, 3) := by decide +kernel
theorem dX4_isAboard_41 : decode cX4_isAboard 41 = .ok (.iconst 1, 1) := by decide +kernel
theorem dX4_isAboard_42 : decode cX4_isAboard 42 = .ok (.ireturn, 1) := by decide +kernel
theorem dX4_isAboard_43 : decode cX4_isAboard 43 = .ok (.iinc 2 1, 3) := by decide +kernel
theorem dX4_isAboard_46 : decode cX4_isAboard 46 = .ok (.goto (-44), 3) := by decide +kernel
theorem dX4_isAboard_49 : decode cX4_isAboard 49 = .ok (.iconst 0, 1) := by decide +kernel
theorem dX4_isAboard_50 : decode cX4_isAboard 50 = .ok (.ireturn, 1) := by decide +kernel
theorem dX4_howManyAre_0 : decode cX4_howManyAre 0 = .ok (.iconst 0, 1) := by decide +kernel
theorem dX4_howManyAre_1 : decode cX4_howManyAre 1 = .ok (.istore_n 2, 1) := by decide +kernel
theorem dX4_howManyAre_2 : decode cX4_howManyAre 2 = .ok (.iconst 0, 1) := by decide +kernel
theorem dX4_howManyAre_3 : decode cX4_howManyAre 3 = .ok (.istore_n 3, 1) := by decide +kernel
theorem dX4_howManyAre_4 : decode cX4_howManyAre 4 = .ok (.iload_n 3, 1) := by decide +kernel
theorem dX4_howManyAre_5 : decode cX4_howManyAre 5 = .ok (.aload_n 0, 1) := by decide +kernel
theorem dX4_howManyAre_6 : decode cX4_howManyAre 6 = .ok (.getfield 26, 3) := by decide +kernel
theorem dX4_howManyAre_9 : decode cX4_howManyAre 9 = .ok (.invokevirtual 43, 3) := by decide +kernel
theorem dX4_howManyAre_12 : decode cX4_howManyAre 12 = .ok (.if_icmp .ge 30, 3) := by decide +kernel
theorem dX4_howManyAre_15 : decode cX4_howManyAre 15 = .ok (.aload_n 0, 1) := by decide +kernel
theorem dX4_howManyAre_16 : decode cX4_howManyAre 16 = .ok (.getfield 26, 3) := by decide +kernel
theorem dX4_howManyAre_19 : decode cX4_howManyAre 19 = .ok (.iload_n 3, 1) := by decide +kernel
theorem dX4_howManyAre_20 : decode cX4_howManyAre 20 = .ok (.invokevirtual 145, 3) := by decide +kernel
theorem dX4_howManyAre_23 : decode cX4_howManyAre 23 = .ok (.checkcast 71, 3) := by decide +kernel
theorem dX4_howManyAre_26 : decode cX4_howManyAre 26 = .ok (.getfield 125, 3) := by decide +kernel
theorem dX4_howManyAre_29 : decode cX4_howManyAre 29 = .ok (.iload_n 1, 1) := by decide +kernel
theorem dX4_howManyAre_30 : decode cX4_howManyAre 30 = .ok (.if_icmp .ne 6, 3) := by decide +kernel
theorem dX4_howManyAre_33 : decode cX4_howManyAre 33 = .ok (.iinc 2 1, 3) := by decide +kernel
theorem dX4_howManyAre_36 : decode cX4_howManyAre 36 = .ok (.iinc 3 1, 3) := by decide +kernel
theorem dX4_howManyAre_39 : decode cX4_howManyAre 39 = .ok (.goto (-35), 3) := by decide +kernel
theorem dX4_howManyAre_42 : decode cX4_howManyAre 42 = .ok (.iload_n 2, 1) := by decide +kernel
theorem dX4_howManyAre_43 : decode cX4_howManyAre 43 = .ok (.ireturn, 1) := by decide +kernel
theorem dX4_allBills_0 : decode cX4_allBills 0 = .ok (.iconst 0, 1) := by decide +kernel
theorem dX4_allBills_1 : decode cX4_allBills 1 = .ok (.istore_n 1, 1) := by decide +kernel
theorem dX4_allBills_2 : decode cX4_allBills 2 = .ok (.iconst 0, 1) := by decide +kernel
theorem dX4_allBills_3 : decode cX4_allBills 3 = .ok (.istore_n 2, 1) := by decide +kernel
theorem dX4_allBills_4 : decode cX4_allBills 4 = .ok (.iload_n 2, 1) := by decide +kernel
theorem dX4_allBills_5 : decode cX4_allBills 5 = .ok (.aload_n 0, 1) := by decide +kernel
theorem dX4_allBills_6 : decode cX4_allBills 6 = .ok (.getfield 19, 3) := by decide +kernel
theorem dX4_allBills_9 : decode cX4_allBills 9 = .ok (.invokevirtual 43, 3) := by decide +kernel
theorem dX4_allBills_12 : decode cX4_allBills 12 = .ok (.if_icmp .ge 26, 3) := by decide +kernel
theorem dX4_allBills_15 : decode cX4_allBills 15 = .ok (.iload_n 1, 1) := by decide +kernel
theorem dX4_allBills_16 : decode cX4_allBills 16 = .ok (.aload_n 0, 1) := by decide +kernel
theorem dX4_allBills_17 : decode cX4_allBills 17 = .ok (.getfield 19, 3) := by decide +kernel
theorem dX4_allBills_20 : decode cX4_allBills 20 = .ok (.iload_n 2, 1) := by decide +kernel
theorem dX4_allBills_21 : decode cX4_allBills 21 = .ok (.invokevirtual 145, 3) := by decide +kernel
theorem dX4_allBills_24 : decode cX4_allBills 24 = .ok (.checkcast 51, 3) := by decide +kernel
theorem dX4_allBills_27 : decode cX4_allBills 27 = .ok (.getfield 196, 3) := by decide +kernel
theorem dX4_allBills_30 : decode cX4_allBills 30 = .ok (.iadd, 1) := by decide +kernel
theorem dX4_allBills_31 : decode cX4_allBills 31 = .ok (.istore_n 1, 1) := by decide +kernel
theorem dX4_allBills_32 : decode cX4_allBills 32 = .ok (.iinc 2 1, 3) := by decide +kernel
theorem dX4_allBills_35 : decode cX4_allBills 35 = .ok (.goto (-31), 3) := by decide +kernel
theorem dX4_allBills_38 : decode cX4_allBills 38 = .ok (.iload_n 1, 1) := by decide +kernel
theorem dX4_allBills_39 : decode cX4_allBills 39 = .ok (.ireturn, 1) := by decide +kernel
theorem dX5_init_0 : decode cX5_init 0 = .ok (.aload_n 0, 1) := by decide +kernel
theorem dX5_init_1 : decode cX5_init 1 = .ok (.invokespecial 1, 3) := by decide +kernel
theorem dX5_init_4 : decode cX5_init 4 = .ok (.aload_n 0, 1) := by decide +kernel
theorem dX5_init_5 : decode cX5_init 5 = .ok (.bipush 100, 2) := by decide +kernel
theorem dX5_init_7 : decode cX5_init 7 = .ok (.putfield 7, 3) := by decide +kernel
theorem dX5_init_10 : decode cX5_init 10 = .ok (.aload_n 0, 1) := by decide +kernel
theorem dX5_init_11 : decode cX5_init 11 = .ok (.bipush 40, 2) := by decide +kernel
theorem dX5_init_13 : decode cX5_init 13 = .ok (.putfield 13, 3) := by decide +kernel
theorem dX5_init_16 : decode cX5_init 16 = .ok (.aload_n 0, 1) := by decide +kernel
theorem dX5_init_17 : decode cX5_init 17 = .ok (.iconst 2, 1) := by decide +kernel
theorem dX5_init_18 : decode cX5_init 18 = .ok (.putfield 16, 3) := by decide +kernel
theorem dX5_init_21 : decode cX5_init 21 = .ok (.aload_n 0, 1) := by decide +kernel
theorem dX5_init_22 : decode cX5_init 22 = .ok (.bipush 12, 2) := by decide +kernel
theorem dX5_init_24 : decode cX5_init 24 = .ok (.newarray .int, 2) := by decide +kernel
theorem dX5_init_26 : decode cX5_init 26 = .ok (.putfield 19, 3) := by decide +kernel
theorem dX5_init_29 : decode cX5_init 29 = .ok (.aload_n 0, 1) := by decide +kernel
theorem dX5_init_30 : decode cX5_init 30 = .ok (.bipush 12, 2) := by decide +kernel
theorem dX5_init_32 : decode cX5_init 32 = .ok (.newarray .int, 2) := by decide +kernel
theorem dX5_init_34 : decode cX5_init 34 = .ok (.putfield 23, 3) := by decide +kernel
theorem dX5_init_37 : decode cX5_init 37 = .ok (.aload_n 0, 1) := by decide +kernel
theorem dX5_init_38 : decode cX5_init 38 = .ok (.bipush 12, 2) := by decide +kernel
theorem dX5_init_40 : decode cX5_init 40 = .ok (.newarray .int, 2) := by decide +kernel
theorem dX5_init_42 : decode cX5_init 42 = .ok (.putfield 26, 3) := by decide +kernel
theorem dX5_init_45 : decode cX5_init 45 = .ok (.aload_n 0, 1) := by decide +kernel
theorem dX5_init_46 : decode cX5_init 46 = .ok (.bipush 12, 2) := by decide +kernel
theorem dX5_init_48 : decode cX5_init 48 = .ok (.newarray .int, 2) := by decide +kernel
theorem dX5_init_50 : decode cX5_init 50 = .ok (.putfield 29, 3) := by decide +kernel
theorem dX5_init_53 : decode cX5_init 53 = .ok (.aload_n 0, 1) := by decide +kernel
theorem dX5_init_54 : decode cX5_init 54 = .ok (.bipush 12, 2) := by decide +kernel
theorem dX5_init_56 : decode cX5_init 56 = .ok (.newarray .int, 2) := by decide +kernel
theorem dX5_init_58 : decode cX5_init 58 = .ok (.putfield 32, 3) := by decide +kernel
theorem dX5_init_61 : decode cX5_init 61 = .ok (.aload_n 0, 1) := by decide +kernel
theorem dX5_init_62 : decode cX5_init 62 = .ok (.bipush 8, 2) := by decide +kernel
theorem dX5_init_64 : decode cX5_init 64 = .ok (.newarray .int, 2) := by decide +kernel
theorem dX5_init_66 : decode cX5_init 66 = .ok (.putfield 35, 3) := by decide +kernel
theorem dX5_init_69 : decode cX5_init 69 = .ok (.aload_n 0, 1) := by decide +kernel
theorem dX5_init_70 : decode cX5_init 70 = .ok (.bipush 8, 2) := by decide +kernel
theorem dX5_init_72 : decode cX5_init 72 = .ok (.newarray .int, 2) := by decide +kernel
theorem dX5_init_74 : decode cX5_init 74 = .ok (.putfield 38, 3) := by decide +kernel
theorem dX5_init_77 : decode cX5_init 77 = .ok (.aload_n 0, 1) := by decide +kernel
theorem dX5_init_78 : decode cX5_init 78 = .ok (.bipush 40, 2) := by decide +kernel
theorem dX5_init_80 : decode cX5_init 80 = .ok (.newarray .int, 2) := by decide +kernel
theorem dX5_init_82 : decode cX5_init 82 = .ok (.putfield 41, 3) := by decide +kernel
theorem dX5_init_85 : decode cX5_init 85 = .ok (.aload_n 0, 1) := by decide +kernel
theorem dX5_init_86 : decode cX5_init 86 = .ok (.bipush 40, 2) := by decide +kernel
theorem dX5_init_88 : decode cX5_init 88 = .ok (.newarray .int, 2) := by decide +kernel
theorem dX5_init_90 : decode cX5_init 90 = .ok (.putfield 44, 3) := by decide +kernel
theorem dX5_init_93 : decode cX5_init 93 = .ok (.aload_n 0, 1) := by decide +kernel
theorem dX5_init_94 : decode cX5_init 94 = .ok (.bipush 40, 2) := by decide +kernel
theorem dX5_init_96 : decode cX5_init 96 = .ok (.newarray .int, 2) := by decide +kernel
theorem dX5_init_98 : decode cX5_init 98 = .ok (.putfield 47, 3) := by decide +kernel
theorem dX5_init_101 : decode cX5_init 101 = .ok (.aload_n 0, 1) := by decide +kernel
theorem dX5_init_102 : decode cX5_init 102 = .ok (.bipush 40, 2) := by decide +kernel
theorem dX5_init_104 : decode cX5_init 104 = .ok (.newarray .int, 2) := by decide +kernel
theorem dX5_init_106 : decode cX5_init 106 = .ok (.putfield 50, 3) := by decide +kernel
theorem dX5_init_109 : decode cX5_init 109 = .ok (.aload_n 0, 1) := by decide +kernel
theorem dX5_init_110 : decode cX5_init 110 = .ok (.bipush 40, 2) := by decide +kernel
theorem dX5_init_112 : decode cX5_init 112 = .ok (.newarray .int, 2) := by decide +kernel
theorem dX5_init_114 : decode cX5_init 114 = .ok (.putfield 53, 3) := by decide +kernel
theorem dX5_init_117 : decode cX5_init 117 = .ok (.aload_n 0, 1) := by decide +kernel
theorem dX5_init_118 : decode cX5_init 118 = .ok (.bipush 40, 2) := by decide +kernel
theorem dX5_init_120 : decode cX5_init 120 = .ok (.newarray .int, 2) := by decide +kernel
theorem dX5_init_122 : decode cX5_init 122 = .ok (.putfield 56, 3) := by decide +kernel
theorem dX5_init_125 : decode cX5_init 125 = .ok (.return_, 1) := by decide +kernel
theorem dX5_thrown_0 : decode cX5_thrown 0 = .ok (.aload_n 0, 1) := by decide +kernel
theorem dX5_thrown_1 : decode cX5_thrown 1 = .ok (.getfield 59, 3) := by decide +kernel
theorem dX5_thrown_4 : decode cX5_thrown 4 = .ok (.ireturn, 1) := by decide +kernel
theorem dX5_in_0 : decode cX5_in 0 = .ok (.iload_n 0, 1) := by decide +kernel
theorem dX5_in_1 : decode cX5_in 1 = .ok (.iload_n 1, 1) := by decide +kernel
theorem dX5_in_2 : decode cX5_in 2 = .ok (.if_icmp .lt 12, 3) := by decide +kernel
theorem dX5_in_5 : decode cX5_in 5 = .ok (.iload_n 0, 1) := by decide +kernel
theorem dX5_in_6 : decode cX5_in 6 = .ok (.iload_n 2, 1) := by decide +kernel
theorem dX5_in_7 : decode cX5_in 7 = .ok (.if_icmp .gt 7, 3) := by decide +kernel
theorem dX5_in_10 : decode cX5_in 10 = .ok (.iconst 1, 1) := by decide +kernel
theorem dX5_in_11 : decode cX5_in 11 = .ok (.goto 4, 3) := by decide +kernel
theorem dX5_in_14 : decode cX5_in 14 = .ok (.iconst 0, 1) := by decide +kernel
theorem dX5_in_15 : decode cX5_in 15 = .ok (.ireturn, 1) := by decide +kernel
theorem dX5_isShip_0 : decode cX5_isShip 0 = .ok (.iload_n 1, 1) := by decide +kernel
theorem dX5_isShip_1 : decode cX5_isShip 1 = .ok (.iconst 0, 1) := by decide +kernel
theorem dX5_isShip_2 : decode cX5_isShip 2 = .ok (.aload_n 0, 1) := by decide +kernel
theorem dX5_isShip_3 : decode cX5_isShip 3 = .ok (.getfield 62, 3) := by decide +kernel
theorem dX5_isShip_6 : decode cX5_isShip 6 = .ok (.iconst 1, 1) := by decide +kernel
theorem dX5_isShip_7 : decode cX5_isShip 7 = .ok (.isub, 1) := by decide +kernel
theorem dX5_isShip_8 : decode cX5_isShip 8 = .ok (.invokestatic 65, 3) := by decide +kernel
theorem dX5_isShip_11 : decode cX5_isShip 11 = .ok (.ireturn, 1) := by decide +kernel
theorem dX5_isPilot_0 : decode cX5_isPilot 0 = .ok (.iload_n 1, 1) := by decide +kernel
theorem dX5_isPilot_1 : decode cX5_isPilot 1 = .ok (.iconst 0, 1) := by decide +kernel
theorem dX5_isPilot_2 : decode cX5_isPilot 2 = .ok (.aload_n 0, 1) := by decide +kernel
theorem dX5_isPilot_3 : decode cX5_isPilot 3 = .ok (.getfield 68, 3) := by decide +kernel
theorem dX5_isPilot_6 : decode cX5_isPilot 6 = .ok (.iconst 1, 1) := by decide +kernel
theorem dX5_isPilot_7 : decode cX5_isPilot 7 = .ok (.isub, 1) := by decide +kernel
theorem dX5_isPilot_8 : decode cX5_isPilot 8 = .ok (.invokestatic 65, 3) := by decide +kernel
theorem dX5_isPilot_11 : decode cX5_isPilot 11 = .ok (.ireturn, 1) := by decide +kernel
theorem dX5_isConference_0 : decode cX5_isConference 0 = .ok (.iload_n 1, 1) := by decide +kernel
theorem dX5_isConference_1 : decode cX5_isConference 1 = .ok (.iconst 0, 1) := by decide +kernel
theorem dX5_isConference_2 : decode cX5_isConference 2 = .ok (.aload_n 0, 1) := by decide +kernel
theorem dX5_isConference_3 : decode cX5_isConference 3 = .ok (.getfield 71, 3) := by decide +kernel
theorem dX5_isConference_6 : decode cX5_isConference 6 = .ok (.iconst 1, 1) := by decide +kernel
theorem dX5_isConference_7 : decode cX5_isConference 7 = .ok (.isub, 1) := by decide +kernel
theorem dX5_isConference_8 : decode cX5_isConference 8 = .ok (.invokestatic 65, 3) := by decide +kernel
theorem dX5_isConference_11 : decode cX5_isConference 11 = .ok (.ireturn, 1) := by decide +kernel
theorem dX5_tide_0 : decode cX5_tide 0 = .ok (.aload_n 0, 1) := by decide +kernel
theorem dX5_tide_1 : decode cX5_tide 1 = .ok (.iload_n 1, 1) := by decide +kernel
theorem dX5_tide_2 : decode cX5_tide 2 = .ok (.bipush 10, 2) := by decide +kernel
theorem dX5_tide_4 : decode cX5_tide 4 = .ok (.sipush 300, 3) := by decide +kernel
theorem dX5_tide_7 : decode cX5_tide 7 = .ok (.invokestatic 65, 3) := by decide +kernel
theorem dX5_tide_10 : decode cX5_tide 10 = .ok (.ifCond .eq 18, 3) := by decide +kernel
theorem dX5_tide_13 : decode cX5_tide 13 = .ok (.iload_n 2, 1) := by decide +kernel
theorem dX5_tide_14 : decode cX5_tide 14 = .ok (.iconst 0, 1) := by decide +kernel
theorem dX5_tide_15 : decode cX5_tide 15 = .ok (.sipush 200, 3) := by decide +kernel
theorem dX5_tide_18 : decode cX5_tide 18 = .ok (.invokestatic 65, 3) := by decide +kernel
theorem dX5_tide_21 : decode cX5_tide 21 = .ok (.ifCond .eq 7, 3) := by decide +kernel
theorem dX5_tide_24 : decode cX5_tide 24 = .ok (.iconst 0, 1) := by decide +kernel
theorem dX5_tide_25 : decode cX5_tide 25 = .ok (.goto 4, 3) := by decide +kernel
theorem dX5_tide_28 : decode cX5_tide 28 = .ok (.iconst 1, 1) := by decide +kernel
theorem dX5_tide_29 : decode cX5_tide 29 = .ok (.putfield 59, 3) := by decide +kernel
theorem dX5_tide_32 : decode cX5_tide 32 = .ok (.aload_n 0, 1) := by decide +kernel
theorem dX5_tide_33 : decode cX5_tide 33 = .ok (.getfield 59, 3) := by decide +kernel
theorem dX5_tide_36 : decode cX5_tide 36 = .ok (.ifCond .ne 13, 3) := by decide +kernel
theorem dX5_tide_39 : decode cX5_tide 39 = .ok (.aload_n 0, 1) := by decide +kernel
theorem dX5_tide_40 : decode cX5_tide 40 = .ok (.iload_n 1, 1) := by decide +kernel
theorem dX5_tide_41 : decode cX5_tide 41 = .ok (.putfield 7, 3) := by decide +kernel
theorem dX5_tide_44 : decode cX5_tide 44 = .ok (.aload_n 0, 1) := by decide +kernel
theorem dX5_tide_45 : decode cX5_tide 45 = .ok (.iload_n 2, 1) := by decide +kernel
theorem dX5_tide_46 : decode cX5_tide 46 = .ok (.putfield 13, 3) := by decide +kernel
theorem dX5_tide_49 : decode cX5_tide 49 = .ok (.return_, 1) := by decide +kernel
theorem dX5_tugs_0 : decode cX5_tugs 0 = .ok (.aload_n 0, 1) := by decide +kernel
theorem dX5_tugs_1 : decode cX5_tugs 1 = .ok (.iload_n 1, 1) := by decide +kernel
theorem dX5_tugs_2 : decode cX5_tugs 2 = .ok (.iconst 0, 1) := by decide +kernel
theorem dX5_tugs_3 : decode cX5_tugs 3 = .ok (.bipush 6, 2) := by decide +kernel
theorem dX5_tugs_5 : decode cX5_tugs 5 = .ok (.invokestatic 65, 3) := by decide +kernel
theorem dX5_tugs_8 : decode cX5_tugs 8 = .ok (.ifCond .eq 7, 3) := by decide +kernel
theorem dX5_tugs_11 : decode cX5_tugs 11 = .ok (.iconst 0, 1) := by decide +kernel
theorem dX5_tugs_12 : decode cX5_tugs 12 = .ok (.goto 4, 3) := by decide +kernel
theorem dX5_tugs_15 : decode cX5_tugs 15 = .ok (.iconst 1, 1) := by decide +kernel
theorem dX5_tugs_16 : decode cX5_tugs 16 = .ok (.putfield 59, 3) := by decide +kernel
theorem dX5_tugs_19 : decode cX5_tugs 19 = .ok (.aload_n 0, 1) := by decide +kernel
theorem dX5_tugs_20 : decode cX5_tugs 20 = .ok (.getfield 59, 3) := by decide +kernel
theorem dX5_tugs_23 : decode cX5_tugs 23 = .ok (.ifCond .le 5, 3) := by decide +kernel
theorem dX5_tugs_26 : decode cX5_tugs 26 = .ok (.iconst 0, 1) := by decide +kernel
theorem dX5_tugs_27 : decode cX5_tugs 27 = .ok (.ireturn, 1) := by decide +kernel
theorem dX5_tugs_28 : decode cX5_tugs 28 = .ok (.aload_n 0, 1) := by decide +kernel
theorem dX5_tugs_29 : decode cX5_tugs 29 = .ok (.getfield 16, 3) := by decide +kernel
theorem dX5_tugs_32 : decode cX5_tugs 32 = .ok (.istore_n 2, 1) := by decide +kernel
theorem dX5_tugs_33 : decode cX5_tugs 33 = .ok (.aload_n 0, 1) := by decide +kernel
theorem dX5_tugs_34 : decode cX5_tugs 34 = .ok (.iload_n 1, 1) := by decide +kernel
theorem dX5_tugs_35 : decode cX5_tugs 35 = .ok (.putfield 16, 3) := by decide +kernel
theorem dX5_tugs_38 : decode cX5_tugs 38 = .ok (.iload_n 2, 1) := by decide +kernel
theorem dX5_tugs_39 : decode cX5_tugs 39 = .ok (.ireturn, 1) := by decide +kernel
theorem dX5_ship_0 : decode cX5_ship 0 = .ok (.iload_n 1, 1) := by decide +kernel
theorem dX5_ship_1 : decode cX5_ship 1 = .ok (.iconst 1, 1) := by decide +kernel
theorem dX5_ship_2 : decode cX5_ship 2 = .ok (.sipush 400, 3) := by decide +kernel
theorem dX5_ship_5 : decode cX5_ship 5 = .ok (.invokestatic 65, 3) := by decide +kernel
theorem dX5_ship_8 : decode cX5_ship 8 = .ok (.ifCond .eq 39, 3) := by decide +kernel
theorem dX5_ship_11 : decode cX5_ship 11 = .ok (.iload_n 2, 1) := by decide +kernel
theorem dX5_ship_12 : decode cX5_ship 12 = .ok (.iconst 1, 1) := by decide +kernel
theorem dX5_ship_13 : decode cX5_ship 13 = .ok (.sipush 9999, 3) := by decide +kernel
theorem dX5_ship_16 : decode cX5_ship 16 = .ok (.invokestatic 65, 3) := by decide +kernel
theorem dX5_ship_19 : decode cX5_ship 19 = .ok (.ifCond .eq 28, 3) := by decide +kernel
theorem dX5_ship_22 : decode cX5_ship 22 = .ok (.iload_n 3, 1) := by decide +kernel
theorem dX5_ship_23 : decode cX5_ship 23 = .ok (.bipush 10, 2) := by decide +kernel
theorem dX5_ship_25 : decode cX5_ship 25 = .ok (.bipush 120, 2) := by decide +kernel
theorem dX5_ship_27 : decode cX5_ship 27 = .ok (.invokestatic 65, 3) := by decide +kernel
theorem dX5_ship_30 : decode cX5_ship 30 = .ok (.ifCond .eq 17, 3) := by decide +kernel
theorem dX5_ship_33 : decode cX5_ship 33 = .ok (.iload 4, 2) := by decide +kernel
theorem dX5_ship_35 : decode cX5_ship 35 = .ok (.iconst 0, 1) := by decide +kernel
theorem dX5_ship_36 : decode cX5_ship 36 = .ok (.iconst 3, 1) := by decide +kernel
theorem dX5_ship_37 : decode cX5_ship 37 = .ok (.invokestatic 65, 3) := by decide +kernel
theorem dX5_ship_40 : decode cX5_ship 40 = .ok (.ifCond .eq 7, 3) := by decide +kernel
theorem dX5_ship_43 : decode cX5_ship 43 = .ok (.iconst 1, 1) := by decide +kernel
theorem dX5_ship_44 : decode cX5_ship 44 = .ok (.goto 4, 3) := by decide +kernel
theorem dX5_ship_47 : decode cX5_ship 47 = .ok (.iconst 0, 1) := by decide +kernel
theorem dX5_ship_48 : decode cX5_ship 48 = .ok (.istore 5, 2) := by decide +kernel
theorem dX5_ship_50 : decode cX5_ship 50 = .ok (.aload_n 0, 1) := by decide +kernel
theorem dX5_ship_51 : decode cX5_ship 51 = .ok (.iload 5, 2) := by decide +kernel
theorem dX5_ship_53 : decode cX5_ship 53 = .ok (.ifCond .ne 7, 3) := by decide +kernel
theorem dX5_ship_56 : decode cX5_ship 56 = .ok (.iconst 1, 1) := by decide +kernel
theorem dX5_ship_57 : decode cX5_ship 57 = .ok (.goto 17, 3) := by decide +kernel
theorem dX5_ship_60 : decode cX5_ship 60 = .ok (.aload_n 0, 1) := by decide +kernel
theorem dX5_ship_61 : decode cX5_ship 61 = .ok (.getfield 62, 3) := by decide +kernel
theorem dX5_ship_64 : decode cX5_ship 64 = .ok (.bipush 12, 2) := by decide +kernel
theorem dX5_ship_66 : decode cX5_ship 66 = .ok (.if_icmp .ne 7, 3) := by decide +kernel
theorem dX5_ship_69 : decode cX5_ship 69 = .ok (.iconst 2, 1) := by decide +kernel
theorem dX5_ship_70 : decode cX5_ship 70 = .ok (.goto 4, 3) := by decide +kernel
theorem dX5_ship_73 : decode cX5_ship 73 = .ok (.iconst 0, 1) := by decide +kernel
theorem dX5_ship_74 : decode cX5_ship 74 = .ok (.putfield 59, 3) := by decide +kernel
theorem dX5_ship_77 : decode cX5_ship 77 = .ok (.aload_n 0, 1) := by decide +kernel
theorem dX5_ship_78 : decode cX5_ship 78 = .ok (.getfield 59, 3) := by decide +kernel
theorem dX5_ship_81 : decode cX5_ship 81 = .ok (.ifCond .le 5, 3) := by decide +kernel
theorem dX5_ship_84 : decode cX5_ship 84 = .ok (.iconst 0, 1) := by decide +kernel
theorem dX5_ship_85 : decode cX5_ship 85 = .ok (.ireturn, 1) := by decide +kernel
theorem dX5_ship_86 : decode cX5_ship 86 = .ok (.aload_n 0, 1) := by decide +kernel
theorem dX5_ship_87 : decode cX5_ship 87 = .ok (.getfield 19, 3) := by decide +kernel
theorem dX5_ship_90 : decode cX5_ship 90 = .ok (.aload_n 0, 1) := by decide +kernel
theorem dX5_ship_91 : decode cX5_ship 91 = .ok (.getfield 62, 3) := by decide +kernel
theorem dX5_ship_94 : decode cX5_ship 94 = .ok (.iload_n 1, 1) := by decide +kernel
theorem dX5_ship_95 : decode cX5_ship 95 = .ok (.iastore, 1) := by decide +kernel
theorem dX5_ship_96 : decode cX5_ship 96 = .ok (.aload_n 0, 1) := by decide +kernel
theorem dX5_ship_97 : decode cX5_ship 97 = .ok (.getfield 23, 3) := by decide +kernel
theorem dX5_ship_100 : decode cX5_ship 100 = .ok (.aload_n 0, 1) := by decide +kernel
theorem dX5_ship_101 : decode cX5_ship 101 = .ok (.getfield 62, 3) := by decide +kernel
theorem dX5_ship_104 : decode cX5_ship 104 = .ok (.iload_n 2, 1) := by decide +kernel
theorem dX5_ship_105 : decode cX5_ship 105 = .ok (.iastore, 1) := by decide +kernel
theorem dX5_ship_106 : decode cX5_ship 106 = .ok (.aload_n 0, 1) := by decide +kernel
theorem dX5_ship_107 : decode cX5_ship 107 = .ok (.getfield 26, 3) := by decide +kernel
theorem dX5_ship_110 : decode cX5_ship 110 = .ok (.aload_n 0, 1) := by decide +kernel
theorem dX5_ship_111 : decode cX5_ship 111 = .ok (.getfield 62, 3) := by decide +kernel
theorem dX5_ship_114 : decode cX5_ship 114 = .ok (.iload_n 3, 1) := by decide +kernel
theorem dX5_ship_115 : decode cX5_ship 115 = .ok (.iastore, 1) := by decide +kernel
theorem dX5_ship_116 : decode cX5_ship 116 = .ok (.aload_n 0, 1) := by decide +kernel
theorem dX5_ship_117 : decode cX5_ship 117 = .ok (.getfield 29, 3) := by decide +kernel
theorem dX5_ship_120 : decode cX5_ship 120 = .ok (.aload_n 0, 1) := by decide +kernel
theorem dX5_ship_121 : decode cX5_ship 121 = .ok (.getfield 62, 3) := by decide +kernel
theorem dX5_ship_124 : decode cX5_ship 124 = .ok (.iload 4, 2) := by decide +kernel
theorem dX5_ship_126 : decode cX5_ship 126 = .ok (.iastore, 1) := by decide +kernel
theorem dX5_ship_127 : decode cX5_ship 127 = .ok (.aload_n 0, 1) := by decide +kernel
theorem dX5_ship_128 : decode cX5_ship 128 = .ok (.dup, 1) := by decide +kernel
theorem dX5_ship_129 : decode cX5_ship 129 = .ok (.getfield 62, 3) := by decide +kernel
theorem dX5_ship_132 : decode cX5_ship 132 = .ok (.iconst 1, 1) := by decide +kernel
theorem dX5_ship_133 : decode cX5_ship 133 = .ok (.iadd, 1) := by decide +kernel
theorem dX5_ship_134 : decode cX5_ship 134 = .ok (.putfield 62, 3) := by decide +kernel
theorem dX5_ship_137 : decode cX5_ship 137 = .ok (.aload_n 0, 1) := by decide +kernel
theorem dX5_ship_138 : decode cX5_ship 138 = .ok (.getfield 62, 3) := by decide +kernel
theorem dX5_ship_141 : decode cX5_ship 141 = .ok (.iconst 1, 1) := by decide +kernel
theorem dX5_ship_142 : decode cX5_ship 142 = .ok (.isub, 1) := by decide +kernel
theorem dX5_ship_143 : decode cX5_ship 143 = .ok (.ireturn, 1) := by decide +kernel
theorem dX5_pilot_0 : decode cX5_pilot 0 = .ok (.iload_n 1, 1) := by decide +kernel
theorem dX5_pilot_1 : decode cX5_pilot 1 = .ok (.iconst 1, 1) := by decide +kernel
theorem dX5_pilot_2 : decode cX5_pilot 2 = .ok (.sipush 9999, 3) := by decide +kernel
theorem dX5_pilot_5 : decode cX5_pilot 5 = .ok (.invokestatic 65, 3) := by decide +kernel
theorem dX5_pilot_8 : decode cX5_pilot 8 = .ok (.ifCond .eq 17, 3) := by decide +kernel
theorem dX5_pilot_11 : decode cX5_pilot 11 = .ok (.iload_n 2, 1) := by decide +kernel
theorem dX5_pilot_12 : decode cX5_pilot 12 = .ok (.iconst 1, 1) := by decide +kernel
theorem dX5_pilot_13 : decode cX5_pilot 13 = .ok (.bipush 50, 2) := by decide +kernel
theorem dX5_pilot_15 : decode cX5_pilot 15 = .ok (.invokestatic 65, 3) := by decide +kernel
theorem dX5_pilot_18 : decode cX5_pilot 18 = .ok (.ifCond .eq 7, 3) := by decide +kernel
theorem dX5_pilot_21 : decode cX5_pilot 21 = .ok (.iconst 1, 1) := by decide +kernel
theorem dX5_pilot_22 : decode cX5_pilot 22 = .ok (.goto 4, 3) := by decide +kernel
theorem dX5_pilot_25 : decode cX5_pilot 25 = .ok (.iconst 0, 1) := by decide +kernel
theorem dX5_pilot_26 : decode cX5_pilot 26 = .ok (.istore_n 3, 1) := by decide +kernel
theorem dX5_pilot_27 : decode cX5_pilot 27 = .ok (.aload_n 0, 1) := by decide +kernel
theorem dX5_pilot_28 : decode cX5_pilot 28 = .ok (.iload_n 3, 1) := by decide +kernel
theorem dX5_pilot_29 : decode cX5_pilot 29 = .ok (.ifCond .ne 7, 3) := by decide +kernel
theorem dX5_pilot_32 : decode cX5_pilot 32 = .ok (.iconst 1, 1) := by decide +kernel
theorem dX5_pilot_33 : decode cX5_pilot 33 = .ok (.goto 17, 3) := by decide +kernel
theorem dX5_pilot_36 : decode cX5_pilot 36 = .ok (.aload_n 0, 1) := by decide +kernel
theorem dX5_pilot_37 : decode cX5_pilot 37 = .ok (.getfield 68, 3) := by decide +kernel
theorem dX5_pilot_40 : decode cX5_pilot 40 = .ok (.bipush 8, 2) := by decide +kernel
theorem dX5_pilot_42 : decode cX5_pilot 42 = .ok (.if_icmp .ne 7, 3) := by decide +kernel
theorem dX5_pilot_45 : decode cX5_pilot 45 = .ok (.iconst 2, 1) := by decide +kernel
theorem dX5_pilot_46 : decode cX5_pilot 46 = .ok (.goto 4, 3) := by decide +kernel
theorem dX5_pilot_49 : decode cX5_pilot 49 = .ok (.iconst 0, 1) := by decide +kernel
theorem dX5_pilot_50 : decode cX5_pilot 50 = .ok (.putfield 59, 3) := by decide +kernel
theorem dX5_pilot_53 : decode cX5_pilot 53 = .ok (.aload_n 0, 1) := by decide +kernel
theorem dX5_pilot_54 : decode cX5_pilot 54 = .ok (.getfield 59, 3) := by decide +kernel
theorem dX5_pilot_57 : decode cX5_pilot 57 = .ok (.ifCond .le 5, 3) := by decide +kernel
theorem dX5_pilot_60 : decode cX5_pilot 60 = .ok (.iconst 0, 1) := by decide +kernel
theorem dX5_pilot_61 : decode cX5_pilot 61 = .ok (.ireturn, 1) := by decide +kernel
theorem dX5_pilot_62 : decode cX5_pilot 62 = .ok (.aload_n 0, 1) := by decide +kernel
theorem dX5_pilot_63 : decode cX5_pilot 63 = .ok (.getfield 35, 3) := by decide +kernel
theorem dX5_pilot_66 : decode cX5_pilot 66 = .ok (.aload_n 0, 1) := by decide +kernel
theorem dX5_pilot_67 : decode cX5_pilot 67 = .ok (.getfield 68, 3) := by decide +kernel
theorem dX5_pilot_70 : decode cX5_pilot 70 = .ok (.iload_n 1, 1) := by decide +kernel
theorem dX5_pilot_71 : decode cX5_pilot 71 = .ok (.iastore, 1) := by decide +kernel
theorem dX5_pilot_72 : decode cX5_pilot 72 = .ok (.aload_n 0, 1) := by decide +kernel
theorem dX5_pilot_73 : decode cX5_pilot 73 = .ok (.getfield 38, 3) := by decide +kernel
theorem dX5_pilot_76 : decode cX5_pilot 76 = .ok (.aload_n 0, 1) := by decide +kernel
theorem dX5_pilot_77 : decode cX5_pilot 77 = .ok (.getfield 68, 3) := by decide +kernel
theorem dX5_pilot_80 : decode cX5_pilot 80 = .ok (.iload_n 2, 1) := by decide +kernel
theorem dX5_pilot_81 : decode cX5_pilot 81 = .ok (.iastore, 1) := by decide +kernel
theorem dX5_pilot_82 : decode cX5_pilot 82 = .ok (.aload_n 0, 1) := by decide +kernel
theorem dX5_pilot_83 : decode cX5_pilot 83 = .ok (.dup, 1) := by decide +kernel
theorem dX5_pilot_84 : decode cX5_pilot 84 = .ok (.getfield 68, 3) := by decide +kernel
theorem dX5_pilot_87 : decode cX5_pilot 87 = .ok (.iconst 1, 1) := by decide +kernel
theorem dX5_pilot_88 : decode cX5_pilot 88 = .ok (.iadd, 1) := by decide +kernel
theorem dX5_pilot_89 : decode cX5_pilot 89 = .ok (.putfield 68, 3) := by decide +kernel
theorem dX5_pilot_92 : decode cX5_pilot 92 = .ok (.aload_n 0, 1) := by decide +kernel
theorem dX5_pilot_93 : decode cX5_pilot 93 = .ok (.getfield 68, 3) := by decide +kernel
theorem dX5_pilot_96 : decode cX5_pilot 96 = .ok (.iconst 1, 1) := by decide +kernel
theorem dX5_pilot_97 : decode cX5_pilot 97 = .ok (.isub, 1) := by decide +kernel
theorem dX5_pilot_98 : decode cX5_pilot 98 = .ok (.ireturn, 1) := by decide +kernel
theorem dX5_levelAt_0 : decode cX5_levelAt 0 = .ok (.iload_n 1, 1) := by decide +kernel
theorem dX5_levelAt_1 : decode cX5_levelAt 1 = .ok (.sipush 720, 3) := by decide +kernel
theorem dX5_levelAt_4 : decode cX5_levelAt 4 = .ok (.irem, 1) := by decide +kernel
theorem dX5_levelAt_5 : decode cX5_levelAt 5 = .ok (.istore_n 2, 1) := by decide +kernel
theorem dX5_levelAt_6 : decode cX5_levelAt 6 = .ok (.iload_n 2, 1) := by decide +kernel
theorem dX5_levelAt_7 : decode cX5_levelAt 7 = .ok (.sipush 360, 3) := by decide +kernel
theorem dX5_levelAt_10 : decode cX5_levelAt 10 = .ok (.if_icmp .ge 7, 3) := by decide +kernel
theorem dX5_levelAt_13 : decode cX5_levelAt 13 = .ok (.iload_n 2, 1) := by decide +kernel
theorem dX5_levelAt_14 : decode cX5_levelAt 14 = .ok (.goto 8, 3) := by decide +kernel
theorem dX5_levelAt_17 : decode cX5_levelAt 17 = .ok (.sipush 720, 3) := by decide +kernel
theorem dX5_levelAt_20 : decode cX5_levelAt 20 = .ok (.iload_n 2, 1) := by decide +kernel
theorem dX5_levelAt_21 : decode cX5_levelAt 21 = .ok (.isub, 1) := by decide +kernel
theorem dX5_levelAt_22 : decode cX5_levelAt 22 = .ok (.aload_n 0, 1) := by decide +kernel
theorem dX5_levelAt_23 : decode cX5_levelAt 23 = .ok (.getfield 13, 3) := by decide +kernel
theorem dX5_levelAt_26 : decode cX5_levelAt 26 = .ok (.imul, 1) := by decide +kernel
theorem dX5_levelAt_27 : decode cX5_levelAt 27 = .ok (.sipush 360, 3) := by decide +kernel
theorem dX5_levelAt_30 : decode cX5_levelAt 30 = .ok (.idiv, 1) := by decide +kernel
theorem dX5_levelAt_31 : decode cX5_levelAt 31 = .ok (.ireturn, 1) := by decide +kernel
theorem dX5_tideDoes_0 : decode cX5_tideDoes 0 = .ok (.iload_n 2, 1) := by decide +kernel
theorem dX5_tideDoes_1 : decode cX5_tideDoes 1 = .ok (.aload_n 0, 1) := by decide +kernel
theorem dX5_tideDoes_2 : decode cX5_tideDoes 2 = .ok (.getfield 26, 3) := by decide +kernel
theorem dX5_tideDoes_5 : decode cX5_tideDoes 5 = .ok (.iload_n 1, 1) := by decide +kernel
theorem dX5_tideDoes_6 : decode cX5_tideDoes 6 = .ok (.iaload, 1) := by decide +kernel
theorem dX5_tideDoes_7 : decode cX5_tideDoes 7 = .ok (.iadd, 1) := by decide +kernel
theorem dX5_tideDoes_8 : decode cX5_tideDoes 8 = .ok (.iconst 1, 1) := by decide +kernel
theorem dX5_tideDoes_9 : decode cX5_tideDoes 9 = .ok (.isub, 1) := by decide +kernel
theorem dX5_tideDoes_10 : decode cX5_tideDoes 10 = .ok (.istore_n 3, 1) := by decide +kernel
theorem dX5_tideDoes_11 : decode cX5_tideDoes 11 = .ok (.aload_n 0, 1) := by decide +kernel
theorem dX5_tideDoes_12 : decode cX5_tideDoes 12 = .ok (.iload_n 2, 1) := by decide +kernel
theorem dX5_tideDoes_13 : decode cX5_tideDoes 13 = .ok (.invokevirtual 74, 3) := by decide +kernel
theorem dX5_tideDoes_16 : decode cX5_tideDoes 16 = .ok (.istore 4, 2) := by decide +kernel
theorem dX5_tideDoes_18 : decode cX5_tideDoes 18 = .ok (.aload_n 0, 1) := by decide +kernel
theorem dX5_tideDoes_19 : decode cX5_tideDoes 19 = .ok (.iload_n 3, 1) := by decide +kernel
theorem dX5_tideDoes_20 : decode cX5_tideDoes 20 = .ok (.invokevirtual 74, 3) := by decide +kernel
theorem dX5_tideDoes_23 : decode cX5_tideDoes 23 = .ok (.istore 5, 2) := by decide +kernel
theorem dX5_tideDoes_25 : decode cX5_tideDoes 25 = .ok (.iload_n 2, 1) := by decide +kernel
theorem dX5_tideDoes_26 : decode cX5_tideDoes 26 = .ok (.sipush 720, 3) := by decide +kernel
theorem dX5_tideDoes_29 : decode cX5_tideDoes 29 = .ok (.idiv, 1) := by decide +kernel
theorem dX5_tideDoes_30 : decode cX5_tideDoes 30 = .ok (.iload_n 3, 1) := by decide +kernel
theorem dX5_tideDoes_31 : decode cX5_tideDoes 31 = .ok (.sipush 720, 3) := by decide +kernel
theorem dX5_tideDoes_34 : decode cX5_tideDoes 34 = .ok (.idiv, 1) := by decide +kernel
theorem dX5_tideDoes_35 : decode cX5_tideDoes 35 = .ok (.if_icmp .ge 7, 3) := by decide +kernel
theorem dX5_tideDoes_38 : decode cX5_tideDoes 38 = .ok (.iconst 0, 1) := by decide +kernel
theorem dX5_tideDoes_39 : decode cX5_tideDoes 39 = .ok (.goto 17, 3) := by decide +kernel
theorem dX5_tideDoes_42 : decode cX5_tideDoes 42 = .ok (.iload 4, 2) := by decide +kernel
theorem dX5_tideDoes_44 : decode cX5_tideDoes 44 = .ok (.iload 5, 2) := by decide +kernel
theorem dX5_tideDoes_46 : decode cX5_tideDoes 46 = .ok (.if_icmp .ge 8, 3) := by decide +kernel
theorem dX5_tideDoes_49 : decode cX5_tideDoes 49 = .ok (.iload 4, 2) := by decide +kernel
theorem dX5_tideDoes_51 : decode cX5_tideDoes 51 = .ok (.goto 5, 3) := by decide +kernel
theorem dX5_tideDoes_54 : decode cX5_tideDoes 54 = .ok (.iload 5, 2) := by decide +kernel
theorem dX5_tideDoes_56 : decode cX5_tideDoes 56 = .ok (.istore 6, 2) := by decide +kernel
theorem dX5_tideDoes_58 : decode cX5_tideDoes 58 = .ok (.aload_n 0, 1) := by decide +kernel
theorem dX5_tideDoes_59 : decode cX5_tideDoes 59 = .ok (.getfield 7, 3) := by decide +kernel
theorem dX5_tideDoes_62 : decode cX5_tideDoes 62 = .ok (.iload 6, 2) := by decide +kernel
theorem dX5_tideDoes_64 : decode cX5_tideDoes 64 = .ok (.iadd, 1) := by decide +kernel
theorem dX5_tideDoes_65 : decode cX5_tideDoes 65 = .ok (.aload_n 0, 1) := by decide +kernel
theorem dX5_tideDoes_66 : decode cX5_tideDoes 66 = .ok (.getfield 19, 3) := by decide +kernel
theorem dX5_tideDoes_69 : decode cX5_tideDoes 69 = .ok (.iload_n 1, 1) := by decide +kernel
theorem dX5_tideDoes_70 : decode cX5_tideDoes 70 = .ok (.iaload, 1) := by decide +kernel
theorem dX5_tideDoes_71 : decode cX5_tideDoes 71 = .ok (.bipush 10, 2) := by decide +kernel
theorem dX5_tideDoes_73 : decode cX5_tideDoes 73 = .ok (.iadd, 1) := by decide +kernel
theorem dX5_tideDoes_74 : decode cX5_tideDoes 74 = .ok (.if_icmp .lt 7, 3) := by decide +kernel
theorem dX5_tideDoes_77 : decode cX5_tideDoes 77 = .ok (.iconst 1, 1) := by decide +kernel
theorem dX5_tideDoes_78 : decode cX5_tideDoes 78 = .ok (.goto 4, 3) := by decide +kernel
theorem dX5_tideDoes_81 : decode cX5_tideDoes 81 = .ok (.iconst 0, 1) := by decide +kernel
theorem dX5_tideDoes_82 : decode cX5_tideDoes 82 = .ok (.ireturn, 1) := by decide +kernel
theorem dX5_over_0 : decode cX5_over 0 = .ok (.aload_n 0, 1) := by decide +kernel
theorem dX5_over_1 : decode cX5_over 1 = .ok (.getfield 56, 3) := by decide +kernel
theorem dX5_over_4 : decode cX5_over 4 = .ok (.iload_n 1, 1) := by decide +kernel
theorem dX5_over_5 : decode cX5_over 5 = .ok (.iaload, 1) := by decide +kernel
theorem dX5_over_6 : decode cX5_over 6 = .ok (.aload_n 0, 1) := by decide +kernel
theorem dX5_over_7 : decode cX5_over 7 = .ok (.getfield 26, 3) := by decide +kernel
theorem dX5_over_10 : decode cX5_over 10 = .ok (.aload_n 0, 1) := by decide +kernel
theorem dX5_over_11 : decode cX5_over 11 = .ok (.getfield 41, 3) := by decide +kernel
theorem dX5_over_14 : decode cX5_over 14 = .ok (.iload_n 1, 1) := by decide +kernel
theorem dX5_over_15 : decode cX5_over 15 = .ok (.iaload, 1) := by decide +kernel
theorem dX5_over_16 : decode cX5_over 16 = .ok (.iaload, 1) := by decide +kernel
theorem dX5_over_17 : decode cX5_over 17 = .ok (.iadd, 1) := by decide +kernel
theorem dX5_over_18 : decode cX5_over 18 = .ok (.ireturn, 1) := by decide +kernel
theorem dX5_rest_0 : decode cX5_rest 0 = .ok (.iload_n 0, 1) := by decide +kernel
theorem dX5_rest_1 : decode cX5_rest 1 = .ok (.bipush 60, 2) := by decide +kernel
theorem dX5_rest_3 : decode cX5_rest 3 = .ok (.if_icmp .le 7, 3) := by decide +kernel
theorem dX5_rest_6 : decode cX5_rest 6 = .ok (.iload_n 0, 1) := by decide +kernel
theorem dX5_rest_7 : decode cX5_rest 7 = .ok (.goto 5, 3) := by decide +kernel
theorem dX5_rest_10 : decode cX5_rest 10 = .ok (.bipush 60, 2) := by decide +kernel
theorem dX5_rest_12 : decode cX5_rest 12 = .ok (.ireturn, 1) := by decide +kernel
theorem dX5_hasSlot_0 : decode cX5_hasSlot 0 = .ok (.aload_n 0, 1) := by decide +kernel
theorem dX5_hasSlot_1 : decode cX5_hasSlot 1 = .ok (.getfield 53, 3) := by decide +kernel
theorem dX5_hasSlot_4 : decode cX5_hasSlot 4 = .ok (.iload_n 1, 1) := by decide +kernel
theorem dX5_hasSlot_5 : decode cX5_hasSlot 5 = .ok (.iaload, 1) := by decide +kernel
theorem dX5_hasSlot_6 : decode cX5_hasSlot 6 = .ok (.iconst 2, 1) := by decide +kernel
theorem dX5_hasSlot_7 : decode cX5_hasSlot 7 = .ok (.if_icmp .lt 7, 3) := by decide +kernel
theorem dX5_hasSlot_10 : decode cX5_hasSlot 10 = .ok (.iconst 1, 1) := by decide +kernel
theorem dX5_hasSlot_11 : decode cX5_hasSlot 11 = .ok (.goto 4, 3) := by decide +kernel
theorem dX5_hasSlot_14 : decode cX5_hasSlot 14 = .ok (.iconst 0, 1) := by decide +kernel
theorem dX5_hasSlot_15 : decode cX5_hasSlot 15 = .ok (.ireturn, 1) := by decide +kernel
theorem dX5_pilotDoes_0 : decode cX5_pilotDoes 0 = .ok (.aload_n 0, 1) := by decide +kernel
theorem dX5_pilotDoes_1 : decode cX5_pilotDoes 1 = .ok (.getfield 26, 3) := by decide +kernel
theorem dX5_pilotDoes_4 : decode cX5_pilotDoes 4 = .ok (.aload_n 0, 1) := by decide +kernel
theorem dX5_pilotDoes_5 : decode cX5_pilotDoes 5 = .ok (.getfield 41, 3) := by decide +kernel
theorem dX5_pilotDoes_8 : decode cX5_pilotDoes 8 = .ok (.iload_n 1, 1) := by decide +kernel
theorem dX5_pilotDoes_9 : decode cX5_pilotDoes 9 = .ok (.iaload, 1) := by decide +kernel
theorem dX5_pilotDoes_10 : decode cX5_pilotDoes 10 = .ok (.iaload, 1) := by decide +kernel
theorem dX5_pilotDoes_11 : decode cX5_pilotDoes 11 = .ok (.istore_n 3, 1) := by decide +kernel
theorem dX5_pilotDoes_12 : decode cX5_pilotDoes 12 = .ok (.iconst 1, 1) := by decide +kernel
theorem dX5_pilotDoes_13 : decode cX5_pilotDoes 13 = .ok (.istore 4, 2) := by decide +kernel
theorem dX5_pilotDoes_15 : decode cX5_pilotDoes 15 = .ok (.iconst 0, 1) := by decide +kernel
theorem dX5_pilotDoes_16 : decode cX5_pilotDoes 16 = .ok (.istore 5, 2) := by decide +kernel
theorem dX5_pilotDoes_18 : decode cX5_pilotDoes 18 = .ok (.iload 5, 2) := by decide +kernel
theorem dX5_pilotDoes_20 : decode cX5_pilotDoes 20 = .ok (.aload_n 0, 1) := by decide +kernel
theorem dX5_pilotDoes_21 : decode cX5_pilotDoes 21 = .ok (.getfield 71, 3) := by decide +kernel
theorem dX5_pilotDoes_24 : decode cX5_pilotDoes 24 = .ok (.if_icmp .ge 100, 3) := by decide +kernel
theorem dX5_pilotDoes_27 : decode cX5_pilotDoes 27 = .ok (.iload 5, 2) := by decide +kernel
theorem dX5_pilotDoes_29 : decode cX5_pilotDoes 29 = .ok (.iload_n 1, 1) := by decide +kernel
theorem dX5_pilotDoes_30 : decode cX5_pilotDoes 30 = .ok (.if_icmp .eq 88, 3) := by decide +kernel
theorem dX5_pilotDoes_33 : decode cX5_pilotDoes 33 = .ok (.aload_n 0, 1) := by decide +kernel
theorem dX5_pilotDoes_34 : decode cX5_pilotDoes 34 = .ok (.iload 5, 2) := by decide +kernel
theorem dX5_pilotDoes_36 : decode cX5_pilotDoes 36 = .ok (.invokevirtual 78, 3) := by decide +kernel
theorem dX5_pilotDoes_39 : decode cX5_pilotDoes 39 = .ok (.ifCond .eq 79, 3) := by decide +kernel
theorem dX5_pilotDoes_42 : decode cX5_pilotDoes 42 = .ok (.aload_n 0, 1) := by decide +kernel
theorem dX5_pilotDoes_43 : decode cX5_pilotDoes 43 = .ok (.getfield 50, 3) := by decide +kernel
theorem dX5_pilotDoes_46 : decode cX5_pilotDoes 46 = .ok (.iload 5, 2) := by decide +kernel
theorem dX5_pilotDoes_48 : decode cX5_pilotDoes 48 = .ok (.iaload, 1) := by decide +kernel
theorem dX5_pilotDoes_49 : decode cX5_pilotDoes 49 = .ok (.aload_n 0, 1) := by decide +kernel
theorem dX5_pilotDoes_50 : decode cX5_pilotDoes 50 = .ok (.getfield 50, 3) := by decide +kernel
theorem dX5_pilotDoes_53 : decode cX5_pilotDoes 53 = .ok (.iload_n 1, 1) := by decide +kernel
theorem dX5_pilotDoes_54 : decode cX5_pilotDoes 54 = .ok (.iaload, 1) := by decide +kernel
theorem dX5_pilotDoes_55 : decode cX5_pilotDoes 55 = .ok (.if_icmp .ne 63, 3) := by decide +kernel
theorem dX5_pilotDoes_58 : decode cX5_pilotDoes 58 = .ok (.aload_n 0, 1) := by decide +kernel
theorem dX5_pilotDoes_59 : decode cX5_pilotDoes 59 = .ok (.getfield 26, 3) := by decide +kernel
theorem dX5_pilotDoes_62 : decode cX5_pilotDoes 62 = .ok (.aload_n 0, 1) := by decide +kernel
theorem dX5_pilotDoes_63 : decode cX5_pilotDoes 63 = .ok (.getfield 41, 3) := by decide +kernel
theorem dX5_pilotDoes_66 : decode cX5_pilotDoes 66 = .ok (.iload 5, 2) := by decide +kernel
theorem dX5_pilotDoes_68 : decode cX5_pilotDoes 68 = .ok (.iaload, 1) := by decide +kernel
theorem dX5_pilotDoes_69 : decode cX5_pilotDoes 69 = .ok (.iaload, 1) := by decide +kernel
theorem dX5_pilotDoes_70 : decode cX5_pilotDoes 70 = .ok (.istore 6, 2) := by decide +kernel
theorem dX5_pilotDoes_72 : decode cX5_pilotDoes 72 = .ok (.iload 4, 2) := by decide +kernel
theorem dX5_pilotDoes_74 : decode cX5_pilotDoes 74 = .ok (.ifCond .eq 41, 3) := by decide +kernel
theorem dX5_pilotDoes_77 : decode cX5_pilotDoes 77 = .ok (.iload_n 2, 1) := by decide +kernel
theorem dX5_pilotDoes_78 : decode cX5_pilotDoes 78 = .ok (.aload_n 0, 1) := by decide +kernel
theorem dX5_pilotDoes_79 : decode cX5_pilotDoes 79 = .ok (.iload 5, 2) := by decide +kernel
theorem dX5_pilotDoes_81 : decode cX5_pilotDoes 81 = .ok (.invokevirtual 82, 3) := by decide +kernel
theorem dX5_pilotDoes_84 : decode cX5_pilotDoes 84 = .ok (.iload 6, 2) := by decide +kernel
theorem dX5_pilotDoes_86 : decode cX5_pilotDoes 86 = .ok (.invokestatic 85, 3) := by decide +kernel
theorem dX5_pilotDoes_89 : decode cX5_pilotDoes 89 = .ok (.iadd, 1) := by decide +kernel
theorem dX5_pilotDoes_90 : decode cX5_pilotDoes 90 = .ok (.if_icmp .ge 21, 3) := by decide +kernel
theorem dX5_pilotDoes_93 : decode cX5_pilotDoes 93 = .ok (.aload_n 0, 1) := by decide +kernel
theorem dX5_pilotDoes_94 : decode cX5_pilotDoes 94 = .ok (.getfield 56, 3) := by decide +kernel
theorem dX5_pilotDoes_97 : decode cX5_pilotDoes 97 = .ok (.iload 5, 2) := by decide +kernel
theorem dX5_pilotDoes_99 : decode cX5_pilotDoes 99 = .ok (.iaload, 1) := by decide +kernel
theorem dX5_pilotDoes_100 : decode cX5_pilotDoes 100 = .ok (.iload_n 2, 1) := by decide +kernel
theorem dX5_pilotDoes_101 : decode cX5_pilotDoes 101 = .ok (.iload_n 3, 1) := by decide +kernel
theorem dX5_pilotDoes_102 : decode cX5_pilotDoes 102 = .ok (.iadd, 1) := by decide +kernel
theorem dX5_pilotDoes_103 : decode cX5_pilotDoes 103 = .ok (.iload_n 3, 1) := by decide +kernel
theorem dX5_pilotDoes_104 : decode cX5_pilotDoes 104 = .ok (.invokestatic 85, 3) := by decide +kernel
theorem dX5_pilotDoes_107 : decode cX5_pilotDoes 107 = .ok (.iadd, 1) := by decide +kernel
theorem dX5_pilotDoes_108 : decode cX5_pilotDoes 108 = .ok (.if_icmp .lt 7, 3) := by decide +kernel
theorem dX5_pilotDoes_111 : decode cX5_pilotDoes 111 = .ok (.iconst 1, 1) := by decide +kernel
theorem dX5_pilotDoes_112 : decode cX5_pilotDoes 112 = .ok (.goto 4, 3) := by decide +kernel
theorem dX5_pilotDoes_115 : decode cX5_pilotDoes 115 = .ok (.iconst 0, 1) := by decide +kernel
theorem dX5_pilotDoes_116 : decode cX5_pilotDoes 116 = .ok (.istore 4, 2) := by decide +kernel
theorem dX5_pilotDoes_118 : decode cX5_pilotDoes 118 = .ok (.iinc 5 1, 3) := by decide +kernel
theorem dX5_pilotDoes_121 : decode cX5_pilotDoes 121 = .ok (.goto (-103), 3) := by decide +kernel
theorem dX5_pilotDoes_124 : decode cX5_pilotDoes 124 = .ok (.iload 4, 2) := by decide +kernel
theorem dX5_pilotDoes_126 : decode cX5_pilotDoes 126 = .ok (.ireturn, 1) := by decide +kernel
theorem dX5_tugsIn_0 : decode cX5_tugsIn 0 = .ok (.iconst 0, 1) := by decide +kernel
theorem dX5_tugsIn_1 : decode cX5_tugsIn 1 = .ok (.istore_n 3, 1) := by decide +kernel
theorem dX5_tugsIn_2 : decode cX5_tugsIn 2 = .ok (.iconst 0, 1) := by decide +kernel
theorem dX5_tugsIn_3 : decode cX5_tugsIn 3 = .ok (.istore 4, 2) := by decide +kernel
theorem dX5_tugsIn_5 : decode cX5_tugsIn 5 = .ok (.iload 4, 2) := by decide +kernel
theorem dX5_tugsIn_7 : decode cX5_tugsIn 7 = .ok (.aload_n 0, 1) := by decide +kernel
theorem dX5_tugsIn_8 : decode cX5_tugsIn 8 = .ok (.getfield 71, 3) := by decide +kernel
theorem dX5_tugsIn_11 : decode cX5_tugsIn 11 = .ok (.if_icmp .ge 65, 3) := by decide +kernel
theorem dX5_tugsIn_14 : decode cX5_tugsIn 14 = .ok (.iload_n 3, 1) := by decide +kernel
theorem dX5_tugsIn_15 : decode cX5_tugsIn 15 = .ok (.iload 4, 2) := by decide +kernel
theorem dX5_tugsIn_17 : decode cX5_tugsIn 17 = .ok (.iload_n 1, 1) := by decide +kernel
theorem dX5_tugsIn_18 : decode cX5_tugsIn 18 = .ok (.if_icmp .eq 49, 3) := by decide +kernel
theorem dX5_tugsIn_21 : decode cX5_tugsIn 21 = .ok (.aload_n 0, 1) := by decide +kernel
theorem dX5_tugsIn_22 : decode cX5_tugsIn 22 = .ok (.iload 4, 2) := by decide +kernel
theorem dX5_tugsIn_24 : decode cX5_tugsIn 24 = .ok (.invokevirtual 78, 3) := by decide +kernel
theorem dX5_tugsIn_27 : decode cX5_tugsIn 27 = .ok (.ifCond .eq 40, 3) := by decide +kernel
theorem dX5_tugsIn_30 : decode cX5_tugsIn 30 = .ok (.iload_n 2, 1) := by decide +kernel
theorem dX5_tugsIn_31 : decode cX5_tugsIn 31 = .ok (.aload_n 0, 1) := by decide +kernel
theorem dX5_tugsIn_32 : decode cX5_tugsIn 32 = .ok (.getfield 56, 3) := by decide +kernel
theorem dX5_tugsIn_35 : decode cX5_tugsIn 35 = .ok (.iload 4, 2) := by decide +kernel
theorem dX5_tugsIn_37 : decode cX5_tugsIn 37 = .ok (.iaload, 1) := by decide +kernel
theorem dX5_tugsIn_38 : decode cX5_tugsIn 38 = .ok (.aload_n 0, 1) := by decide +kernel
theorem dX5_tugsIn_39 : decode cX5_tugsIn 39 = .ok (.iload 4, 2) := by decide +kernel
theorem dX5_tugsIn_41 : decode cX5_tugsIn 41 = .ok (.invokevirtual 82, 3) := by decide +kernel
theorem dX5_tugsIn_44 : decode cX5_tugsIn 44 = .ok (.iconst 1, 1) := by decide +kernel
theorem dX5_tugsIn_45 : decode cX5_tugsIn 45 = .ok (.isub, 1) := by decide +kernel
theorem dX5_tugsIn_46 : decode cX5_tugsIn 46 = .ok (.invokestatic 65, 3) := by decide +kernel
theorem dX5_tugsIn_49 : decode cX5_tugsIn 49 = .ok (.ifCond .eq 18, 3) := by decide +kernel
theorem dX5_tugsIn_52 : decode cX5_tugsIn 52 = .ok (.aload_n 0, 1) := by decide +kernel
theorem dX5_tugsIn_53 : decode cX5_tugsIn 53 = .ok (.getfield 29, 3) := by decide +kernel
theorem dX5_tugsIn_56 : decode cX5_tugsIn 56 = .ok (.aload_n 0, 1) := by decide +kernel
theorem dX5_tugsIn_57 : decode cX5_tugsIn 57 = .ok (.getfield 41, 3) := by decide +kernel
theorem dX5_tugsIn_60 : decode cX5_tugsIn 60 = .ok (.iload 4, 2) := by decide +kernel
theorem dX5_tugsIn_62 : decode cX5_tugsIn 62 = .ok (.iaload, 1) := by decide +kernel
theorem dX5_tugsIn_63 : decode cX5_tugsIn 63 = .ok (.iaload, 1) := by decide +kernel
theorem dX5_tugsIn_64 : decode cX5_tugsIn 64 = .ok (.goto 4, 3) := by decide +kernel
theorem dX5_tugsIn_67 : decode cX5_tugsIn 67 = .ok (.iconst 0, 1) := by decide +kernel
theorem dX5_tugsIn_68 : decode cX5_tugsIn 68 = .ok (.iadd, 1) := by decide +kernel
theorem dX5_tugsIn_69 : decode cX5_tugsIn 69 = .ok (.istore_n 3, 1) := by decide +kernel
theorem dX5_tugsIn_70 : decode cX5_tugsIn 70 = .ok (.iinc 4 1, 3) := by decide +kernel
theorem dX5_tugsIn_73 : decode cX5_tugsIn 73 = .ok (.goto (-68), 3) := by decide +kernel
theorem dX5_tugsIn_76 : decode cX5_tugsIn 76 = .ok (.iload_n 3, 1) := by decide +kernel
theorem dX5_tugsIn_77 : decode cX5_tugsIn 77 = .ok (.ireturn, 1) := by decide +kernel
theorem dX5_tugsDo_0 : decode cX5_tugsDo 0 = .ok (.iconst 1, 1) := by decide +kernel
theorem dX5_tugsDo_1 : decode cX5_tugsDo 1 = .ok (.istore_n 3, 1) := by decide +kernel
theorem dX5_tugsDo_2 : decode cX5_tugsDo 2 = .ok (.iload_n 2, 1) := by decide +kernel
theorem dX5_tugsDo_3 : decode cX5_tugsDo 3 = .ok (.istore 4, 2) := by decide +kernel
theorem dX5_tugsDo_5 : decode cX5_tugsDo 5 = .ok (.iload 4, 2) := by decide +kernel
theorem dX5_tugsDo_7 : decode cX5_tugsDo 7 = .ok (.iload_n 2, 1) := by decide +kernel
theorem dX5_tugsDo_8 : decode cX5_tugsDo 8 = .ok (.aload_n 0, 1) := by decide +kernel
theorem dX5_tugsDo_9 : decode cX5_tugsDo 9 = .ok (.getfield 26, 3) := by decide +kernel
theorem dX5_tugsDo_12 : decode cX5_tugsDo 12 = .ok (.aload_n 0, 1) := by decide +kernel
theorem dX5_tugsDo_13 : decode cX5_tugsDo 13 = .ok (.getfield 41, 3) := by decide +kernel
theorem dX5_tugsDo_16 : decode cX5_tugsDo 16 = .ok (.iload_n 1, 1) := by decide +kernel
theorem dX5_tugsDo_17 : decode cX5_tugsDo 17 = .ok (.iaload, 1) := by decide +kernel
theorem dX5_tugsDo_18 : decode cX5_tugsDo 18 = .ok (.iaload, 1) := by decide +kernel
theorem dX5_tugsDo_19 : decode cX5_tugsDo 19 = .ok (.iadd, 1) := by decide +kernel
theorem dX5_tugsDo_20 : decode cX5_tugsDo 20 = .ok (.if_icmp .ge 45, 3) := by decide +kernel
theorem dX5_tugsDo_23 : decode cX5_tugsDo 23 = .ok (.iload_n 3, 1) := by decide +kernel
theorem dX5_tugsDo_24 : decode cX5_tugsDo 24 = .ok (.ifCond .eq 41, 3) := by decide +kernel
theorem dX5_tugsDo_27 : decode cX5_tugsDo 27 = .ok (.aload_n 0, 1) := by decide +kernel
theorem dX5_tugsDo_28 : decode cX5_tugsDo 28 = .ok (.iload_n 1, 1) := by decide +kernel
theorem dX5_tugsDo_29 : decode cX5_tugsDo 29 = .ok (.iload 4, 2) := by decide +kernel
theorem dX5_tugsDo_31 : decode cX5_tugsDo 31 = .ok (.invokevirtual 88, 3) := by decide +kernel
theorem dX5_tugsDo_34 : decode cX5_tugsDo 34 = .ok (.aload_n 0, 1) := by decide +kernel
theorem dX5_tugsDo_35 : decode cX5_tugsDo 35 = .ok (.getfield 29, 3) := by decide +kernel
theorem dX5_tugsDo_38 : decode cX5_tugsDo 38 = .ok (.aload_n 0, 1) := by decide +kernel
theorem dX5_tugsDo_39 : decode cX5_tugsDo 39 = .ok (.getfield 41, 3) := by decide +kernel
theorem dX5_tugsDo_42 : decode cX5_tugsDo 42 = .ok (.iload_n 1, 1) := by decide +kernel
theorem dX5_tugsDo_43 : decode cX5_tugsDo 43 = .ok (.iaload, 1) := by decide +kernel
theorem dX5_tugsDo_44 : decode cX5_tugsDo 44 = .ok (.iaload, 1) := by decide +kernel
theorem dX5_tugsDo_45 : decode cX5_tugsDo 45 = .ok (.iadd, 1) := by decide +kernel
theorem dX5_tugsDo_46 : decode cX5_tugsDo 46 = .ok (.aload_n 0, 1) := by decide +kernel
theorem dX5_tugsDo_47 : decode cX5_tugsDo 47 = .ok (.getfield 16, 3) := by decide +kernel
theorem dX5_tugsDo_50 : decode cX5_tugsDo 50 = .ok (.if_icmp .gt 7, 3) := by decide +kernel
theorem dX5_tugsDo_53 : decode cX5_tugsDo 53 = .ok (.iconst 1, 1) := by decide +kernel
theorem dX5_tugsDo_54 : decode cX5_tugsDo 54 = .ok (.goto 4, 3) := by decide +kernel
theorem dX5_tugsDo_57 : decode cX5_tugsDo 57 = .ok (.iconst 0, 1) := by decide +kernel
theorem dX5_tugsDo_58 : decode cX5_tugsDo 58 = .ok (.istore_n 3, 1) := by decide +kernel
theorem dX5_tugsDo_59 : decode cX5_tugsDo 59 = .ok (.iinc 4 1, 3) := by decide +kernel
theorem dX5_tugsDo_62 : decode cX5_tugsDo 62 = .ok (.goto (-57), 3) := by decide +kernel
theorem dX5_tugsDo_65 : decode cX5_tugsDo 65 = .ok (.iload_n 3, 1) := by decide +kernel
theorem dX5_tugsDo_66 : decode cX5_tugsDo 66 = .ok (.ireturn, 1) := by decide +kernel
theorem dX5_channelDoes_0 : decode cX5_channelDoes 0 = .ok (.iconst 1, 1) := by decide +kernel
theorem dX5_channelDoes_1 : decode cX5_channelDoes 1 = .ok (.istore_n 3, 1) := by decide +kernel
theorem dX5_channelDoes_2 : decode cX5_channelDoes 2 = .ok (.iconst 0, 1) := by decide +kernel
theorem dX5_channelDoes_3 : decode cX5_channelDoes 3 = .ok (.istore 4, 2) := by decide +kernel
theorem dX5_channelDoes_5 : decode cX5_channelDoes 5 = .ok (.iload 4, 2) := by decide +kernel
theorem dX5_channelDoes_7 : decode cX5_channelDoes 7 = .ok (.aload_n 0, 1) := by decide +kernel
theorem dX5_channelDoes_8 : decode cX5_channelDoes 8 = .ok (.getfield 71, 3) := by decide +kernel
theorem dX5_channelDoes_11 : decode cX5_channelDoes 11 = .ok (.if_icmp .ge 62, 3) := by decide +kernel
theorem dX5_channelDoes_14 : decode cX5_channelDoes 14 = .ok (.iload_n 3, 1) := by decide +kernel
theorem dX5_channelDoes_15 : decode cX5_channelDoes 15 = .ok (.ifCond .eq 50, 3) := by decide +kernel
theorem dX5_channelDoes_18 : decode cX5_channelDoes 18 = .ok (.iload 4, 2) := by decide +kernel
theorem dX5_channelDoes_20 : decode cX5_channelDoes 20 = .ok (.iload_n 1, 1) := by decide +kernel
theorem dX5_channelDoes_21 : decode cX5_channelDoes 21 = .ok (.if_icmp .eq 40, 3) := by decide +kernel
theorem dX5_channelDoes_24 : decode cX5_channelDoes 24 = .ok (.aload_n 0, 1) := by decide +kernel
theorem dX5_channelDoes_25 : decode cX5_channelDoes 25 = .ok (.iload 4, 2) := by decide +kernel
theorem dX5_channelDoes_27 : decode cX5_channelDoes 27 = .ok (.invokevirtual 78, 3) := by decide +kernel
theorem dX5_channelDoes_30 : decode cX5_channelDoes 30 = .ok (.ifCond .eq 31, 3) := by decide +kernel
theorem dX5_channelDoes_33 : decode cX5_channelDoes 33 = .ok (.iload_n 2, 1) := by decide +kernel
theorem dX5_channelDoes_34 : decode cX5_channelDoes 34 = .ok (.aload_n 0, 1) := by decide +kernel
theorem dX5_channelDoes_35 : decode cX5_channelDoes 35 = .ok (.getfield 56, 3) := by decide +kernel
theorem dX5_channelDoes_38 : decode cX5_channelDoes 38 = .ok (.iload 4, 2) := by decide +kernel
theorem dX5_channelDoes_40 : decode cX5_channelDoes 40 = .ok (.iaload, 1) := by decide +kernel
theorem dX5_channelDoes_41 : decode cX5_channelDoes 41 = .ok (.isub, 1) := by decide +kernel
theorem dX5_channelDoes_42 : decode cX5_channelDoes 42 = .ok (.bipush 15, 2) := by decide +kernel
theorem dX5_channelDoes_44 : decode cX5_channelDoes 44 = .ok (.if_icmp .ge 17, 3) := by decide +kernel
theorem dX5_channelDoes_47 : decode cX5_channelDoes 47 = .ok (.aload_n 0, 1) := by decide +kernel
theorem dX5_channelDoes_48 : decode cX5_channelDoes 48 = .ok (.getfield 56, 3) := by decide +kernel
theorem dX5_channelDoes_51 : decode cX5_channelDoes 51 = .ok (.iload 4, 2) := by decide +kernel
theorem dX5_channelDoes_53 : decode cX5_channelDoes 53 = .ok (.iaload, 1) := by decide +kernel
theorem dX5_channelDoes_54 : decode cX5_channelDoes 54 = .ok (.iload_n 2, 1) := by decide +kernel
theorem dX5_channelDoes_55 : decode cX5_channelDoes 55 = .ok (.isub, 1) := by decide +kernel
theorem dX5_channelDoes_56 : decode cX5_channelDoes 56 = .ok (.bipush 15, 2) := by decide +kernel
theorem dX5_channelDoes_58 : decode cX5_channelDoes 58 = .ok (.if_icmp .lt 7, 3) := by decide +kernel
theorem dX5_channelDoes_61 : decode cX5_channelDoes 61 = .ok (.iconst 1, 1) := by decide +kernel
theorem dX5_channelDoes_62 : decode cX5_channelDoes 62 = .ok (.goto 4, 3) := by decide +kernel
theorem dX5_channelDoes_65 : decode cX5_channelDoes 65 = .ok (.iconst 0, 1) := by decide +kernel
theorem dX5_channelDoes_66 : decode cX5_channelDoes 66 = .ok (.istore_n 3, 1) := by decide +kernel
theorem dX5_channelDoes_67 : decode cX5_channelDoes 67 = .ok (.iinc 4 1, 3) := by decide +kernel
theorem dX5_channelDoes_70 : decode cX5_channelDoes 70 = .ok (.goto (-65), 3) := by decide +kernel
theorem dX5_channelDoes_73 : decode cX5_channelDoes 73 = .ok (.iload_n 3, 1) := by decide +kernel
theorem dX5_channelDoes_74 : decode cX5_channelDoes 74 = .ok (.ireturn, 1) := by decide +kernel
theorem dX5_looks_0 : decode cX5_looks 0 = .ok (.aload_n 0, 1) := by decide +kernel
theorem dX5_looks_1 : decode cX5_looks 1 = .ok (.getfield 44, 3) := by decide +kernel
theorem dX5_looks_4 : decode cX5_looks 4 = .ok (.iload_n 1, 1) := by decide +kernel
theorem dX5_looks_5 : decode cX5_looks 5 = .ok (.iaload, 1) := by decide +kernel
theorem dX5_looks_6 : decode cX5_looks 6 = .ok (.aload_n 0, 1) := by decide +kernel
theorem dX5_looks_7 : decode cX5_looks 7 = .ok (.getfield 92, 3) := by decide +kernel
theorem dX5_looks_10 : decode cX5_looks 10 = .ok (.if_icmp .le 12, 3) := by decide +kernel
theorem dX5_looks_13 : decode cX5_looks 13 = .ok (.aload_n 0, 1) := by decide +kernel
theorem dX5_looks_14 : decode cX5_looks 14 = .ok (.getfield 44, 3) := by decide +kernel
theorem dX5_looks_17 : decode cX5_looks 17 = .ok (.iload_n 1, 1) := by decide +kernel
theorem dX5_looks_18 : decode cX5_looks 18 = .ok (.iaload, 1) := by decide +kernel
theorem dX5_looks_19 : decode cX5_looks 19 = .ok (.goto 7, 3) := by decide +kernel
theorem dX5_looks_22 : decode cX5_looks 22 = .ok (.aload_n 0, 1) := by decide +kernel
theorem dX5_looks_23 : decode cX5_looks 23 = .ok (.getfield 92, 3) := by decide +kernel
theorem dX5_looks_26 : decode cX5_looks 26 = .ok (.istore_n 2, 1) := by decide +kernel
theorem dX5_looks_27 : decode cX5_looks 27 = .ok (.iconst (-1), 1) := by decide +kernel
theorem dX5_looks_28 : decode cX5_looks 28 = .ok (.istore_n 3, 1) := by decide +kernel
theorem dX5_looks_29 : decode cX5_looks 29 = .ok (.iload_n 2, 1) := by decide +kernel
theorem dX5_looks_30 : decode cX5_looks 30 = .ok (.istore 4, 2) := by decide +kernel
theorem dX5_looks_32 : decode cX5_looks 32 = .ok (.iload 4, 2) := by decide +kernel
theorem dX5_looks_34 : decode cX5_looks 34 = .ok (.iload_n 2, 1) := by decide +kernel
theorem dX5_looks_35 : decode cX5_looks 35 = .ok (.sipush 1440, 3) := by decide +kernel
theorem dX5_looks_38 : decode cX5_looks 38 = .ok (.iadd, 1) := by decide +kernel
theorem dX5_looks_39 : decode cX5_looks 39 = .ok (.if_icmp .gt 78, 3) := by decide +kernel
theorem dX5_looks_42 : decode cX5_looks 42 = .ok (.iload_n 3, 1) := by decide +kernel
theorem dX5_looks_43 : decode cX5_looks 43 = .ok (.iconst (-1), 1) := by decide +kernel
theorem dX5_looks_44 : decode cX5_looks 44 = .ok (.if_icmp .ne 73, 3) := by decide +kernel
theorem dX5_looks_47 : decode cX5_looks 47 = .ok (.aload_n 0, 1) := by decide +kernel
theorem dX5_looks_48 : decode cX5_looks 48 = .ok (.aload_n 0, 1) := by decide +kernel
theorem dX5_looks_49 : decode cX5_looks 49 = .ok (.getfield 41, 3) := by decide +kernel
theorem dX5_looks_52 : decode cX5_looks 52 = .ok (.iload_n 1, 1) := by decide +kernel
theorem dX5_looks_53 : decode cX5_looks 53 = .ok (.iaload, 1) := by decide +kernel
theorem dX5_looks_54 : decode cX5_looks 54 = .ok (.iload 4, 2) := by decide +kernel
theorem dX5_looks_56 : decode cX5_looks 56 = .ok (.invokevirtual 95, 3) := by decide +kernel
theorem dX5_looks_59 : decode cX5_looks 59 = .ok (.ifCond .eq 37, 3) := by decide +kernel
theorem dX5_looks_62 : decode cX5_looks 62 = .ok (.aload_n 0, 1) := by decide +kernel
theorem dX5_looks_63 : decode cX5_looks 63 = .ok (.iload_n 1, 1) := by decide +kernel
theorem dX5_looks_64 : decode cX5_looks 64 = .ok (.iload 4, 2) := by decide +kernel
theorem dX5_looks_66 : decode cX5_looks 66 = .ok (.invokevirtual 99, 3) := by decide +kernel
theorem dX5_looks_69 : decode cX5_looks 69 = .ok (.ifCond .eq 27, 3) := by decide +kernel
theorem dX5_looks_72 : decode cX5_looks 72 = .ok (.aload_n 0, 1) := by decide +kernel
theorem dX5_looks_73 : decode cX5_looks 73 = .ok (.iload_n 1, 1) := by decide +kernel
theorem dX5_looks_74 : decode cX5_looks 74 = .ok (.iload 4, 2) := by decide +kernel
theorem dX5_looks_76 : decode cX5_looks 76 = .ok (.invokevirtual 102, 3) := by decide +kernel
theorem dX5_looks_79 : decode cX5_looks 79 = .ok (.ifCond .eq 17, 3) := by decide +kernel
theorem dX5_looks_82 : decode cX5_looks 82 = .ok (.aload_n 0, 1) := by decide +kernel
theorem dX5_looks_83 : decode cX5_looks 83 = .ok (.iload_n 1, 1) := by decide +kernel
theorem dX5_looks_84 : decode cX5_looks 84 = .ok (.iload 4, 2) := by decide +kernel
theorem dX5_looks_86 : decode cX5_looks 86 = .ok (.invokevirtual 105, 3) := by decide +kernel
theorem dX5_looks_89 : decode cX5_looks 89 = .ok (.ifCond .eq 7, 3) := by decide +kernel
theorem dX5_looks_92 : decode cX5_looks 92 = .ok (.iconst 1, 1) := by decide +kernel
theorem dX5_looks_93 : decode cX5_looks 93 = .ok (.goto 4, 3) := by decide +kernel
theorem dX5_looks_96 : decode cX5_looks 96 = .ok (.iconst 0, 1) := by decide +kernel
theorem dX5_looks_97 : decode cX5_looks 97 = .ok (.istore 5, 2) := by decide +kernel
theorem dX5_looks_99 : decode cX5_looks 99 = .ok (.iload 5, 2) := by decide +kernel
theorem dX5_looks_101 : decode cX5_looks 101 = .ok (.ifCond .eq 8, 3) := by decide +kernel
theorem dX5_looks_104 : decode cX5_looks 104 = .ok (.iload 4, 2) := by decide +kernel
theorem dX5_looks_106 : decode cX5_looks 106 = .ok (.goto 4, 3) := by decide +kernel
theorem dX5_looks_109 : decode cX5_looks 109 = .ok (.iconst (-1), 1) := by decide +kernel
theorem dX5_looks_110 : decode cX5_looks 110 = .ok (.istore_n 3, 1) := by decide +kernel
theorem dX5_looks_111 : decode cX5_looks 111 = .ok (.iinc 4 1, 3) := by decide +kernel
theorem dX5_looks_114 : decode cX5_looks 114 = .ok (.goto (-82), 3) := by decide +kernel
theorem dX5_looks_117 : decode cX5_looks 117 = .ok (.aload_n 0, 1) := by decide +kernel
theorem dX5_looks_118 : decode cX5_looks 118 = .ok (.getfield 56, 3) := by decide +kernel
theorem dX5_looks_121 : decode cX5_looks 121 = .ok (.iload_n 1, 1) := by decide +kernel
theorem dX5_looks_122 : decode cX5_looks 122 = .ok (.iload_n 3, 1) := by decide +kernel
theorem dX5_looks_123 : decode cX5_looks 123 = .ok (.iastore, 1) := by decide +kernel
theorem dX5_looks_124 : decode cX5_looks 124 = .ok (.aload_n 0, 1) := by decide +kernel
theorem dX5_looks_125 : decode cX5_looks 125 = .ok (.getfield 53, 3) := by decide +kernel
theorem dX5_looks_128 : decode cX5_looks 128 = .ok (.iload_n 1, 1) := by decide +kernel
theorem dX5_looks_129 : decode cX5_looks 129 = .ok (.iload_n 3, 1) := by decide +kernel
theorem dX5_looks_130 : decode cX5_looks 130 = .ok (.iconst (-1), 1) := by decide +kernel
theorem dX5_looks_131 : decode cX5_looks 131 = .ok (.if_icmp .ne 7, 3) := by decide +kernel
theorem dX5_looks_134 : decode cX5_looks 134 = .ok (.iconst 1, 1) := by decide +kernel
theorem dX5_looks_135 : decode cX5_looks 135 = .ok (.goto 16, 3) := by decide +kernel
theorem dX5_looks_138 : decode cX5_looks 138 = .ok (.iload_n 3, 1) := by decide +kernel
theorem dX5_looks_139 : decode cX5_looks 139 = .ok (.aload_n 0, 1) := by decide +kernel
theorem dX5_looks_140 : decode cX5_looks 140 = .ok (.getfield 92, 3) := by decide +kernel
theorem dX5_looks_143 : decode cX5_looks 143 = .ok (.if_icmp .ne 7, 3) := by decide +kernel
theorem dX5_looks_146 : decode cX5_looks 146 = .ok (.iconst 3, 1) := by decide +kernel
theorem dX5_looks_147 : decode cX5_looks 147 = .ok (.goto 4, 3) := by decide +kernel
theorem dX5_looks_150 : decode cX5_looks 150 = .ok (.iconst 2, 1) := by decide +kernel
theorem dX5_looks_151 : decode cX5_looks 151 = .ok (.iastore, 1) := by decide +kernel
theorem dX5_looks_152 : decode cX5_looks 152 = .ok (.return_, 1) := by decide +kernel
theorem dX5_call_0 : decode cX5_call 0 = .ok (.aload_n 0, 1) := by decide +kernel
theorem dX5_call_1 : decode cX5_call 1 = .ok (.aload_n 0, 1) := by decide +kernel
theorem dX5_call_2 : decode cX5_call 2 = .ok (.iload_n 1, 1) := by decide +kernel
theorem dX5_call_3 : decode cX5_call 3 = .ok (.invokevirtual 108, 3) := by decide +kernel
theorem dX5_call_6 : decode cX5_call 6 = .ok (.ifCond .ne 7, 3) := by decide +kernel
theorem dX5_call_9 : decode cX5_call 9 = .ok (.iconst 1, 1) := by decide +kernel
theorem dX5_call_10 : decode cX5_call 10 = .ok (.goto 35, 3) := by decide +kernel
theorem dX5_call_13 : decode cX5_call 13 = .ok (.iload_n 2, 1) := by decide +kernel
theorem dX5_call_14 : decode cX5_call 14 = .ok (.aload_n 0, 1) := by decide +kernel
theorem dX5_call_15 : decode cX5_call 15 = .ok (.getfield 92, 3) := by decide +kernel
theorem dX5_call_18 : decode cX5_call 18 = .ok (.sipush 20000, 3) := by decide +kernel
theorem dX5_call_21 : decode cX5_call 21 = .ok (.invokestatic 65, 3) := by decide +kernel
theorem dX5_call_24 : decode cX5_call 24 = .ok (.ifCond .ne 7, 3) := by decide +kernel
theorem dX5_call_27 : decode cX5_call 27 = .ok (.iconst 2, 1) := by decide +kernel
theorem dX5_call_28 : decode cX5_call 28 = .ok (.goto 17, 3) := by decide +kernel
theorem dX5_call_31 : decode cX5_call 31 = .ok (.aload_n 0, 1) := by decide +kernel
theorem dX5_call_32 : decode cX5_call 32 = .ok (.getfield 71, 3) := by decide +kernel
theorem dX5_call_35 : decode cX5_call 35 = .ok (.bipush 40, 2) := by decide +kernel
theorem dX5_call_37 : decode cX5_call 37 = .ok (.if_icmp .ne 7, 3) := by decide +kernel
theorem dX5_call_40 : decode cX5_call 40 = .ok (.iconst 3, 1) := by decide +kernel
theorem dX5_call_41 : decode cX5_call 41 = .ok (.goto 4, 3) := by decide +kernel
theorem dX5_call_44 : decode cX5_call 44 = .ok (.iconst 0, 1) := by decide +kernel
theorem dX5_call_45 : decode cX5_call 45 = .ok (.putfield 59, 3) := by decide +kernel
theorem dX5_call_48 : decode cX5_call 48 = .ok (.aload_n 0, 1) := by decide +kernel
theorem dX5_call_49 : decode cX5_call 49 = .ok (.getfield 59, 3) := by decide +kernel
theorem dX5_call_52 : decode cX5_call 52 = .ok (.ifCond .le 5, 3) := by decide +kernel
theorem dX5_call_55 : decode cX5_call 55 = .ok (.iconst 0, 1) := by decide +kernel
theorem dX5_call_56 : decode cX5_call 56 = .ok (.ireturn, 1) := by decide +kernel
theorem dX5_call_57 : decode cX5_call 57 = .ok (.aload_n 0, 1) := by decide +kernel
theorem dX5_call_58 : decode cX5_call 58 = .ok (.getfield 41, 3) := by decide +kernel
theorem dX5_call_61 : decode cX5_call 61 = .ok (.aload_n 0, 1) := by decide +kernel
theorem dX5_call_62 : decode cX5_call 62 = .ok (.getfield 71, 3) := by decide +kernel
theorem dX5_call_65 : decode cX5_call 65 = .ok (.iload_n 1, 1) := by decide +kernel
theorem dX5_call_66 : decode cX5_call 66 = .ok (.iastore, 1) := by decide +kernel
theorem dX5_call_67 : decode cX5_call 67 = .ok (.aload_n 0, 1) := by decide +kernel
theorem dX5_call_68 : decode cX5_call 68 = .ok (.getfield 44, 3) := by decide +kernel
theorem dX5_call_71 : decode cX5_call 71 = .ok (.aload_n 0, 1) := by decide +kernel
theorem dX5_call_72 : decode cX5_call 72 = .ok (.getfield 71, 3) := by decide +kernel
theorem dX5_call_75 : decode cX5_call 75 = .ok (.iload_n 2, 1) := by decide +kernel
theorem dX5_call_76 : decode cX5_call 76 = .ok (.iastore, 1) := by decide +kernel
theorem dX5_call_77 : decode cX5_call 77 = .ok (.aload_n 0, 1) := by decide +kernel
theorem dX5_call_78 : decode cX5_call 78 = .ok (.getfield 50, 3) := by decide +kernel
theorem dX5_call_81 : decode cX5_call 81 = .ok (.aload_n 0, 1) := by decide +kernel
theorem dX5_call_82 : decode cX5_call 82 = .ok (.getfield 71, 3) := by decide +kernel
theorem dX5_call_85 : decode cX5_call 85 = .ok (.iconst (-1), 1) := by decide +kernel
theorem dX5_call_86 : decode cX5_call 86 = .ok (.iastore, 1) := by decide +kernel
theorem dX5_call_87 : decode cX5_call 87 = .ok (.aload_n 0, 1) := by decide +kernel
theorem dX5_call_88 : decode cX5_call 88 = .ok (.getfield 56, 3) := by decide +kernel
theorem dX5_call_91 : decode cX5_call 91 = .ok (.aload_n 0, 1) := by decide +kernel
theorem dX5_call_92 : decode cX5_call 92 = .ok (.getfield 71, 3) := by decide +kernel
theorem dX5_call_95 : decode cX5_call 95 = .ok (.iconst (-1), 1) := by decide +kernel
theorem dX5_call_96 : decode cX5_call 96 = .ok (.iastore, 1) := by decide +kernel
theorem dX5_call_97 : decode cX5_call 97 = .ok (.aload_n 0, 1) := by decide +kernel
theorem dX5_call_98 : decode cX5_call 98 = .ok (.getfield 53, 3) := by decide +kernel
theorem dX5_call_101 : decode cX5_call 101 = .ok (.aload_n 0, 1) := by decide +kernel
theorem dX5_call_102 : decode cX5_call 102 = .ok (.getfield 71, 3) := by decide +kernel
theorem dX5_call_105 : decode cX5_call 105 = .ok (.iconst 0, 1) := by decide +kernel
theorem dX5_call_106 : decode cX5_call 106 = .ok (.iastore, 1) := by decide +kernel
theorem dX5_call_107 : decode cX5_call 107 = .ok (.aload_n 0, 1) := by decide +kernel
theorem dX5_call_108 : decode cX5_call 108 = .ok (.dup, 1) := by decide +kernel
theorem dX5_call_109 : decode cX5_call 109 = .ok (.getfield 71, 3) := by decide +kernel
theorem dX5_call_112 : decode cX5_call 112 = .ok (.iconst 1, 1) := by decide +kernel
theorem dX5_call_113 : decode cX5_call 113 = .ok (.iadd, 1) := by decide +kernel
theorem dX5_call_114 : decode cX5_call 114 = .ok (.putfield 71, 3) := by decide +kernel
theorem dX5_call_117 : decode cX5_call 117 = .ok (.aload_n 0, 1) := by decide +kernel
theorem dX5_call_118 : decode cX5_call 118 = .ok (.getfield 71, 3) := by decide +kernel
theorem dX5_call_121 : decode cX5_call 121 = .ok (.iconst 1, 1) := by decide +kernel
theorem dX5_call_122 : decode cX5_call 122 = .ok (.isub, 1) := by decide +kernel
theorem dX5_call_123 : decode cX5_call 123 = .ok (.ireturn, 1) := by decide +kernel
theorem dX5_isIn_0 : decode cX5_isIn 0 = .ok (.aload_n 0, 1) := by decide +kernel
theorem dX5_isIn_1 : decode cX5_isIn 1 = .ok (.getfield 47, 3) := by decide +kernel
theorem dX5_isIn_4 : decode cX5_isIn 4 = .ok (.iload_n 1, 1) := by decide +kernel
theorem dX5_isIn_5 : decode cX5_isIn 5 = .ok (.iaload, 1) := by decide +kernel
theorem dX5_isIn_6 : decode cX5_isIn 6 = .ok (.iload_n 2, 1) := by decide +kernel
theorem dX5_isIn_7 : decode cX5_isIn 7 = .ok (.ishr, 1) := by decide +kernel
theorem dX5_isIn_8 : decode cX5_isIn 8 = .ok (.iconst 1, 1) := by decide +kernel
theorem dX5_isIn_9 : decode cX5_isIn 9 = .ok (.iand, 1) := by decide +kernel
theorem dX5_isIn_10 : decode cX5_isIn 10 = .ok (.iconst 1, 1) := by decide +kernel
theorem dX5_isIn_11 : decode cX5_isIn 11 = .ok (.if_icmp .ne 7, 3) := by decide +kernel
theorem dX5_isIn_14 : decode cX5_isIn 14 = .ok (.iconst 1, 1) := by decide +kernel
theorem dX5_isIn_15 : decode cX5_isIn 15 = .ok (.goto 4, 3) := by decide +kernel
theorem dX5_isIn_18 : decode cX5_isIn 18 = .ok (.iconst 0, 1) := by decide +kernel
theorem dX5_isIn_19 : decode cX5_isIn 19 = .ok (.ireturn, 1) := by decide +kernel
theorem dX5_join_0 : decode cX5_join 0 = .ok (.aload_n 0, 1) := by decide +kernel
theorem dX5_join_1 : decode cX5_join 1 = .ok (.iload_n 1, 1) := by decide +kernel
theorem dX5_join_2 : decode cX5_join 2 = .ok (.invokevirtual 111, 3) := by decide +kernel
theorem dX5_join_5 : decode cX5_join 5 = .ok (.ifCond .eq 29, 3) := by decide +kernel
theorem dX5_join_8 : decode cX5_join 8 = .ok (.iload_n 2, 1) := by decide +kernel
theorem dX5_join_9 : decode cX5_join 9 = .ok (.iconst 0, 1) := by decide +kernel
theorem dX5_join_10 : decode cX5_join 10 = .ok (.iconst 2, 1) := by decide +kernel
theorem dX5_join_11 : decode cX5_join 11 = .ok (.invokestatic 65, 3) := by decide +kernel
theorem dX5_join_14 : decode cX5_join 14 = .ok (.ifCond .eq 20, 3) := by decide +kernel
theorem dX5_join_17 : decode cX5_join 17 = .ok (.iload_n 2, 1) := by decide +kernel
theorem dX5_join_18 : decode cX5_join 18 = .ok (.iconst 2, 1) := by decide +kernel
theorem dX5_join_19 : decode cX5_join 19 = .ok (.if_icmp .ne 11, 3) := by decide +kernel
theorem dX5_join_22 : decode cX5_join 22 = .ok (.aload_n 0, 1) := by decide +kernel
theorem dX5_join_23 : decode cX5_join 23 = .ok (.iload_n 3, 1) := by decide +kernel
theorem dX5_join_24 : decode cX5_join 24 = .ok (.invokevirtual 114, 3) := by decide +kernel
theorem dX5_join_27 : decode cX5_join 27 = .ok (.ifCond .eq 7, 3) := by decide +kernel
theorem dX5_join_30 : decode cX5_join 30 = .ok (.iconst 1, 1) := by decide +kernel
theorem dX5_join_31 : decode cX5_join 31 = .ok (.goto 4, 3) := by decide +kernel
theorem dX5_join_34 : decode cX5_join 34 = .ok (.iconst 0, 1) := by decide +kernel
theorem dX5_join_35 : decode cX5_join 35 = .ok (.istore 4, 2) := by decide +kernel
theorem dX5_join_37 : decode cX5_join 37 = .ok (.aload_n 0, 1) := by decide +kernel
theorem dX5_join_38 : decode cX5_join 38 = .ok (.iload 4, 2) := by decide +kernel
theorem dX5_join_40 : decode cX5_join 40 = .ok (.ifCond .eq 7, 3) := by decide +kernel
theorem dX5_join_43 : decode cX5_join 43 = .ok (.iconst 0, 1) := by decide +kernel
theorem dX5_join_44 : decode cX5_join 44 = .ok (.goto 4, 3) := by decide +kernel
theorem dX5_join_47 : decode cX5_join 47 = .ok (.iconst 1, 1) := by decide +kernel
theorem dX5_join_48 : decode cX5_join 48 = .ok (.putfield 59, 3) := by decide +kernel
theorem dX5_join_51 : decode cX5_join 51 = .ok (.aload_n 0, 1) := by decide +kernel
theorem dX5_join_52 : decode cX5_join 52 = .ok (.getfield 59, 3) := by decide +kernel
theorem dX5_join_55 : decode cX5_join 55 = .ok (.ifCond .ne 58, 3) := by decide +kernel
theorem dX5_join_58 : decode cX5_join 58 = .ok (.aload_n 0, 1) := by decide +kernel
theorem dX5_join_59 : decode cX5_join 59 = .ok (.iload_n 1, 1) := by decide +kernel
theorem dX5_join_60 : decode cX5_join 60 = .ok (.iload_n 2, 1) := by decide +kernel
theorem dX5_join_61 : decode cX5_join 61 = .ok (.invokevirtual 117, 3) := by decide +kernel
theorem dX5_join_64 : decode cX5_join 64 = .ok (.ifCond .ne 32, 3) := by decide +kernel
theorem dX5_join_67 : decode cX5_join 67 = .ok (.iload_n 2, 1) := by decide +kernel
theorem dX5_join_68 : decode cX5_join 68 = .ok (.iconst 2, 1) := by decide +kernel
theorem dX5_join_69 : decode cX5_join 69 = .ok (.if_icmp .ne 23, 3) := by decide +kernel
theorem dX5_join_72 : decode cX5_join 72 = .ok (.aload_n 0, 1) := by decide +kernel
theorem dX5_join_73 : decode cX5_join 73 = .ok (.getfield 35, 3) := by decide +kernel
theorem dX5_join_76 : decode cX5_join 76 = .ok (.iload_n 3, 1) := by decide +kernel
theorem dX5_join_77 : decode cX5_join 77 = .ok (.iaload, 1) := by decide +kernel
theorem dX5_join_78 : decode cX5_join 78 = .ok (.aload_n 0, 1) := by decide +kernel
theorem dX5_join_79 : decode cX5_join 79 = .ok (.getfield 23, 3) := by decide +kernel
theorem dX5_join_82 : decode cX5_join 82 = .ok (.aload_n 0, 1) := by decide +kernel
theorem dX5_join_83 : decode cX5_join 83 = .ok (.getfield 41, 3) := by decide +kernel
theorem dX5_join_86 : decode cX5_join 86 = .ok (.iload_n 1, 1) := by decide +kernel
theorem dX5_join_87 : decode cX5_join 87 = .ok (.iaload, 1) := by decide +kernel
theorem dX5_join_88 : decode cX5_join 88 = .ok (.iaload, 1) := by decide +kernel
theorem dX5_join_89 : decode cX5_join 89 = .ok (.if_icmp .lt 7, 3) := by decide +kernel
theorem dX5_join_92 : decode cX5_join 92 = .ok (.iconst 1, 1) := by decide +kernel
theorem dX5_join_93 : decode cX5_join 93 = .ok (.goto 4, 3) := by decide +kernel
theorem dX5_join_96 : decode cX5_join 96 = .ok (.iconst 0, 1) := by decide +kernel
theorem dX5_join_97 : decode cX5_join 97 = .ok (.istore 5, 2) := by decide +kernel
theorem dX5_join_99 : decode cX5_join 99 = .ok (.aload_n 0, 1) := by decide +kernel
theorem dX5_join_100 : decode cX5_join 100 = .ok (.iload 5, 2) := by decide +kernel
theorem dX5_join_102 : decode cX5_join 102 = .ok (.ifCond .eq 7, 3) := by decide +kernel
theorem dX5_join_105 : decode cX5_join 105 = .ok (.iconst 0, 1) := by decide +kernel
theorem dX5_join_106 : decode cX5_join 106 = .ok (.goto 4, 3) := by decide +kernel
theorem dX5_join_109 : decode cX5_join 109 = .ok (.iconst 2, 1) := by decide +kernel
theorem dX5_join_110 : decode cX5_join 110 = .ok (.putfield 59, 3) := by decide +kernel
theorem dX5_join_113 : decode cX5_join 113 = .ok (.aload_n 0, 1) := by decide +kernel
theorem dX5_join_114 : decode cX5_join 114 = .ok (.getfield 59, 3) := by decide +kernel
theorem dX5_join_117 : decode cX5_join 117 = .ok (.ifCond .le 5, 3) := by decide +kernel
theorem dX5_join_120 : decode cX5_join 120 = .ok (.iconst 0, 1) := by decide +kernel
theorem dX5_join_121 : decode cX5_join 121 = .ok (.ireturn, 1) := by decide +kernel
theorem dX5_join_122 : decode cX5_join 122 = .ok (.aload_n 0, 1) := by decide +kernel
theorem dX5_join_123 : decode cX5_join 123 = .ok (.getfield 47, 3) := by decide +kernel
theorem dX5_join_126 : decode cX5_join 126 = .ok (.iload_n 1, 1) := by decide +kernel
theorem dX5_join_127 : decode cX5_join 127 = .ok (.dup2, 1) := by decide +kernel
theorem dX5_join_128 : decode cX5_join 128 = .ok (.iaload, 1) := by decide +kernel
theorem dX5_join_129 : decode cX5_join 129 = .ok (.iconst 1, 1) := by decide +kernel
theorem dX5_join_130 : decode cX5_join 130 = .ok (.iload_n 2, 1) := by decide +kernel
theorem dX5_join_131 : decode cX5_join 131 = .ok (.ishl, 1) := by decide +kernel
theorem dX5_join_132 : decode cX5_join 132 = .ok (.ior, 1) := by decide +kernel
theorem dX5_join_133 : decode cX5_join 133 = .ok (.iastore, 1) := by decide +kernel
theorem dX5_join_134 : decode cX5_join 134 = .ok (.iload_n 2, 1) := by decide +kernel
theorem dX5_join_135 : decode cX5_join 135 = .ok (.iconst 2, 1) := by decide +kernel
theorem dX5_join_136 : decode cX5_join 136 = .ok (.if_icmp .ne 10, 3) := by decide +kernel
theorem dX5_join_139 : decode cX5_join 139 = .ok (.aload_n 0, 1) := by decide +kernel
theorem dX5_join_140 : decode cX5_join 140 = .ok (.getfield 50, 3) := by decide +kernel
theorem dX5_join_143 : decode cX5_join 143 = .ok (.iload_n 1, 1) := by decide +kernel
theorem dX5_join_144 : decode cX5_join 144 = .ok (.iload_n 3, 1) := by decide +kernel
theorem dX5_join_145 : decode cX5_join 145 = .ok (.iastore, 1) := by decide +kernel
theorem dX5_join_146 : decode cX5_join 146 = .ok (.aload_n 0, 1) := by decide +kernel
theorem dX5_join_147 : decode cX5_join 147 = .ok (.getfield 47, 3) := by decide +kernel
theorem dX5_join_150 : decode cX5_join 150 = .ok (.iload_n 1, 1) := by decide +kernel
theorem dX5_join_151 : decode cX5_join 151 = .ok (.iaload, 1) := by decide +kernel
theorem dX5_join_152 : decode cX5_join 152 = .ok (.bipush 7, 2) := by decide +kernel
theorem dX5_join_154 : decode cX5_join 154 = .ok (.if_icmp .ne 8, 3) := by decide +kernel
theorem dX5_join_157 : decode cX5_join 157 = .ok (.aload_n 0, 1) := by decide +kernel
theorem dX5_join_158 : decode cX5_join 158 = .ok (.iload_n 1, 1) := by decide +kernel
theorem dX5_join_159 : decode cX5_join 159 = .ok (.invokevirtual 120, 3) := by decide +kernel
theorem dX5_join_162 : decode cX5_join 162 = .ok (.aload_n 0, 1) := by decide +kernel
theorem dX5_join_163 : decode cX5_join 163 = .ok (.getfield 56, 3) := by decide +kernel
theorem dX5_join_166 : decode cX5_join 166 = .ok (.iload_n 1, 1) := by decide +kernel
theorem dX5_join_167 : decode cX5_join 167 = .ok (.iaload, 1) := by decide +kernel
theorem dX5_join_168 : decode cX5_join 168 = .ok (.ireturn, 1) := by decide +kernel
theorem dX5_again_0 : decode cX5_again 0 = .ok (.aload_n 0, 1) := by decide +kernel
theorem dX5_again_1 : decode cX5_again 1 = .ok (.aload_n 0, 1) := by decide +kernel
theorem dX5_again_2 : decode cX5_again 2 = .ok (.iload_n 1, 1) := by decide +kernel
theorem dX5_again_3 : decode cX5_again 3 = .ok (.invokevirtual 111, 3) := by decide +kernel
theorem dX5_again_6 : decode cX5_again 6 = .ok (.ifCond .ne 7, 3) := by decide +kernel
theorem dX5_again_9 : decode cX5_again 9 = .ok (.iconst 1, 1) := by decide +kernel
theorem dX5_again_10 : decode cX5_again 10 = .ok (.goto 18, 3) := by decide +kernel
theorem dX5_again_13 : decode cX5_again 13 = .ok (.aload_n 0, 1) := by decide +kernel
theorem dX5_again_14 : decode cX5_again 14 = .ok (.getfield 53, 3) := by decide +kernel
theorem dX5_again_17 : decode cX5_again 17 = .ok (.iload_n 1, 1) := by decide +kernel
theorem dX5_again_18 : decode cX5_again 18 = .ok (.iaload, 1) := by decide +kernel
theorem dX5_again_19 : decode cX5_again 19 = .ok (.iconst 1, 1) := by decide +kernel
theorem dX5_again_20 : decode cX5_again 20 = .ok (.if_icmp .ne 7, 3) := by decide +kernel
theorem dX5_again_23 : decode cX5_again 23 = .ok (.iconst 0, 1) := by decide +kernel
theorem dX5_again_24 : decode cX5_again 24 = .ok (.goto 4, 3) := by decide +kernel
theorem dX5_again_27 : decode cX5_again 27 = .ok (.iconst 2, 1) := by decide +kernel
theorem dX5_again_28 : decode cX5_again 28 = .ok (.putfield 59, 3) := by decide +kernel
theorem dX5_again_31 : decode cX5_again 31 = .ok (.aload_n 0, 1) := by decide +kernel
theorem dX5_again_32 : decode cX5_again 32 = .ok (.getfield 59, 3) := by decide +kernel
theorem dX5_again_35 : decode cX5_again 35 = .ok (.ifCond .le 5, 3) := by decide +kernel
theorem dX5_again_38 : decode cX5_again 38 = .ok (.iconst 0, 1) := by decide +kernel
theorem dX5_again_39 : decode cX5_again 39 = .ok (.ireturn, 1) := by decide +kernel
theorem dX5_again_40 : decode cX5_again 40 = .ok (.aload_n 0, 1) := by decide +kernel
theorem dX5_again_41 : decode cX5_again 41 = .ok (.iload_n 1, 1) := by decide +kernel
theorem dX5_again_42 : decode cX5_again 42 = .ok (.invokevirtual 120, 3) := by decide +kernel
theorem dX5_again_45 : decode cX5_again 45 = .ok (.aload_n 0, 1) := by decide +kernel
theorem dX5_again_46 : decode cX5_again 46 = .ok (.getfield 56, 3) := by decide +kernel
theorem dX5_again_49 : decode cX5_again 49 = .ok (.iload_n 1, 1) := by decide +kernel
theorem dX5_again_50 : decode cX5_again 50 = .ok (.iaload, 1) := by decide +kernel
theorem dX5_again_51 : decode cX5_again 51 = .ok (.ireturn, 1) := by decide +kernel
theorem dX5_looksAnew_0 : decode cX5_looksAnew 0 = .ok (.aload_n 0, 1) := by decide +kernel
theorem dX5_looksAnew_1 : decode cX5_looksAnew 1 = .ok (.getfield 56, 3) := by decide +kernel
theorem dX5_looksAnew_4 : decode cX5_looksAnew 4 = .ok (.iload_n 1, 1) := by decide +kernel
theorem dX5_looksAnew_5 : decode cX5_looksAnew 5 = .ok (.iaload, 1) := by decide +kernel
theorem dX5_looksAnew_6 : decode cX5_looksAnew 6 = .ok (.istore_n 2, 1) := by decide +kernel
theorem dX5_looksAnew_7 : decode cX5_looksAnew 7 = .ok (.aload_n 0, 1) := by decide +kernel
theorem dX5_looksAnew_8 : decode cX5_looksAnew 8 = .ok (.getfield 56, 3) := by decide +kernel
theorem dX5_looksAnew_11 : decode cX5_looksAnew 11 = .ok (.iload_n 1, 1) := by decide +kernel
theorem dX5_looksAnew_12 : decode cX5_looksAnew 12 = .ok (.iconst (-1), 1) := by decide +kernel
theorem dX5_looksAnew_13 : decode cX5_looksAnew 13 = .ok (.iastore, 1) := by decide +kernel
theorem dX5_looksAnew_14 : decode cX5_looksAnew 14 = .ok (.aload_n 0, 1) := by decide +kernel
theorem dX5_looksAnew_15 : decode cX5_looksAnew 15 = .ok (.getfield 53, 3) := by decide +kernel
theorem dX5_looksAnew_18 : decode cX5_looksAnew 18 = .ok (.iload_n 1, 1) := by decide +kernel
theorem dX5_looksAnew_19 : decode cX5_looksAnew 19 = .ok (.iconst 1, 1) := by decide +kernel
theorem dX5_looksAnew_20 : decode cX5_looksAnew 20 = .ok (.iastore, 1) := by decide +kernel
theorem dX5_looksAnew_21 : decode cX5_looksAnew 21 = .ok (.aload_n 0, 1) := by decide +kernel
theorem dX5_looksAnew_22 : decode cX5_looksAnew 22 = .ok (.iload_n 1, 1) := by decide +kernel
theorem dX5_looksAnew_23 : decode cX5_looksAnew 23 = .ok (.invokevirtual 120, 3) := by decide +kernel
theorem dX5_looksAnew_26 : decode cX5_looksAnew 26 = .ok (.aload_n 0, 1) := by decide +kernel
theorem dX5_looksAnew_27 : decode cX5_looksAnew 27 = .ok (.getfield 56, 3) := by decide +kernel
theorem dX5_looksAnew_30 : decode cX5_looksAnew 30 = .ok (.iload_n 1, 1) := by decide +kernel
theorem dX5_looksAnew_31 : decode cX5_looksAnew 31 = .ok (.iaload, 1) := by decide +kernel
theorem dX5_looksAnew_32 : decode cX5_looksAnew 32 = .ok (.iload_n 2, 1) := by decide +kernel
theorem dX5_looksAnew_33 : decode cX5_looksAnew 33 = .ok (.if_icmp .eq 7, 3) := by decide +kernel
theorem dX5_looksAnew_36 : decode cX5_looksAnew 36 = .ok (.iconst 1, 1) := by decide +kernel
theorem dX5_looksAnew_37 : decode cX5_looksAnew 37 = .ok (.goto 4, 3) := by decide +kernel
theorem dX5_looksAnew_40 : decode cX5_looksAnew 40 = .ok (.iconst 0, 1) := by decide +kernel
theorem dX5_looksAnew_41 : decode cX5_looksAnew 41 = .ok (.ireturn, 1) := by decide +kernel
theorem dX5_drop_0 : decode cX5_drop 0 = .ok (.aload_n 0, 1) := by decide +kernel
theorem dX5_drop_1 : decode cX5_drop 1 = .ok (.aload_n 0, 1) := by decide +kernel
theorem dX5_drop_2 : decode cX5_drop 2 = .ok (.iload_n 1, 1) := by decide +kernel
theorem dX5_drop_3 : decode cX5_drop 3 = .ok (.invokevirtual 111, 3) := by decide +kernel
theorem dX5_drop_6 : decode cX5_drop 6 = .ok (.ifCond .eq 16, 3) := by decide +kernel
theorem dX5_drop_9 : decode cX5_drop 9 = .ok (.iload_n 2, 1) := by decide +kernel
theorem dX5_drop_10 : decode cX5_drop 10 = .ok (.iconst 0, 1) := by decide +kernel
theorem dX5_drop_11 : decode cX5_drop 11 = .ok (.iconst 2, 1) := by decide +kernel
theorem dX5_drop_12 : decode cX5_drop 12 = .ok (.invokestatic 65, 3) := by decide +kernel
theorem dX5_drop_15 : decode cX5_drop 15 = .ok (.ifCond .eq 7, 3) := by decide +kernel
theorem dX5_drop_18 : decode cX5_drop 18 = .ok (.iconst 0, 1) := by decide +kernel
theorem dX5_drop_19 : decode cX5_drop 19 = .ok (.goto 4, 3) := by decide +kernel
theorem dX5_drop_22 : decode cX5_drop 22 = .ok (.iconst 1, 1) := by decide +kernel
theorem dX5_drop_23 : decode cX5_drop 23 = .ok (.putfield 59, 3) := by decide +kernel
theorem dX5_drop_26 : decode cX5_drop 26 = .ok (.aload_n 0, 1) := by decide +kernel
theorem dX5_drop_27 : decode cX5_drop 27 = .ok (.getfield 59, 3) := by decide +kernel
theorem dX5_drop_30 : decode cX5_drop 30 = .ok (.ifCond .ne 31, 3) := by decide +kernel
theorem dX5_drop_33 : decode cX5_drop 33 = .ok (.aload_n 0, 1) := by decide +kernel
theorem dX5_drop_34 : decode cX5_drop 34 = .ok (.aload_n 0, 1) := by decide +kernel
theorem dX5_drop_35 : decode cX5_drop 35 = .ok (.iload_n 1, 1) := by decide +kernel
theorem dX5_drop_36 : decode cX5_drop 36 = .ok (.iload_n 2, 1) := by decide +kernel
theorem dX5_drop_37 : decode cX5_drop 37 = .ok (.invokevirtual 117, 3) := by decide +kernel
theorem dX5_drop_40 : decode cX5_drop 40 = .ok (.ifCond .eq 13, 3) := by decide +kernel
theorem dX5_drop_43 : decode cX5_drop 43 = .ok (.aload_n 0, 1) := by decide +kernel
theorem dX5_drop_44 : decode cX5_drop 44 = .ok (.getfield 53, 3) := by decide +kernel
theorem dX5_drop_47 : decode cX5_drop 47 = .ok (.iload_n 1, 1) := by decide +kernel
theorem dX5_drop_48 : decode cX5_drop 48 = .ok (.iaload, 1) := by decide +kernel
theorem dX5_drop_49 : decode cX5_drop 49 = .ok (.iconst 3, 1) := by decide +kernel
theorem dX5_drop_50 : decode cX5_drop 50 = .ok (.if_icmp .lt 7, 3) := by decide +kernel
theorem dX5_drop_53 : decode cX5_drop 53 = .ok (.iconst 2, 1) := by decide +kernel
theorem dX5_drop_54 : decode cX5_drop 54 = .ok (.goto 4, 3) := by decide +kernel
theorem dX5_drop_57 : decode cX5_drop 57 = .ok (.iconst 0, 1) := by decide +kernel
theorem dX5_drop_58 : decode cX5_drop 58 = .ok (.putfield 59, 3) := by decide +kernel
theorem dX5_drop_61 : decode cX5_drop 61 = .ok (.aload_n 0, 1) := by decide +kernel
theorem dX5_drop_62 : decode cX5_drop 62 = .ok (.getfield 59, 3) := by decide +kernel
theorem dX5_drop_65 : decode cX5_drop 65 = .ok (.ifCond .le 5, 3) := by decide +kernel
theorem dX5_drop_68 : decode cX5_drop 68 = .ok (.iconst 0, 1) := by decide +kernel
theorem dX5_drop_69 : decode cX5_drop 69 = .ok (.ireturn, 1) := by decide +kernel
theorem dX5_drop_70 : decode cX5_drop 70 = .ok (.aload_n 0, 1) := by decide +kernel
theorem dX5_drop_71 : decode cX5_drop 71 = .ok (.getfield 53, 3) := by decide +kernel
theorem dX5_drop_74 : decode cX5_drop 74 = .ok (.iload_n 1, 1) := by decide +kernel
theorem dX5_drop_75 : decode cX5_drop 75 = .ok (.iaload, 1) := by decide +kernel
theorem dX5_drop_76 : decode cX5_drop 76 = .ok (.iconst 2, 1) := by decide +kernel
theorem dX5_drop_77 : decode cX5_drop 77 = .ok (.if_icmp .ne 7, 3) := by decide +kernel
theorem dX5_drop_80 : decode cX5_drop 80 = .ok (.iconst 1, 1) := by decide +kernel
theorem dX5_drop_81 : decode cX5_drop 81 = .ok (.goto 4, 3) := by decide +kernel
theorem dX5_drop_84 : decode cX5_drop 84 = .ok (.iconst 0, 1) := by decide +kernel
theorem dX5_drop_85 : decode cX5_drop 85 = .ok (.istore_n 3, 1) := by decide +kernel
theorem dX5_drop_86 : decode cX5_drop 86 = .ok (.aload_n 0, 1) := by decide +kernel
theorem dX5_drop_87 : decode cX5_drop 87 = .ok (.getfield 47, 3) := by decide +kernel
theorem dX5_drop_90 : decode cX5_drop 90 = .ok (.iload_n 1, 1) := by decide +kernel
theorem dX5_drop_91 : decode cX5_drop 91 = .ok (.dup2, 1) := by decide +kernel
theorem dX5_drop_92 : decode cX5_drop 92 = .ok (.iaload, 1) := by decide +kernel
theorem dX5_drop_93 : decode cX5_drop 93 = .ok (.iconst 1, 1) := by decide +kernel
theorem dX5_drop_94 : decode cX5_drop 94 = .ok (.iload_n 2, 1) := by decide +kernel
theorem dX5_drop_95 : decode cX5_drop 95 = .ok (.ishl, 1) := by decide +kernel
theorem dX5_drop_96 : decode cX5_drop 96 = .ok (.iconst (-1), 1) := by decide +kernel
theorem dX5_drop_97 : decode cX5_drop 97 = .ok (.ixor, 1) := by decide +kernel
theorem dX5_drop_98 : decode cX5_drop 98 = .ok (.iand, 1) := by decide +kernel
theorem dX5_drop_99 : decode cX5_drop 99 = .ok (.iastore, 1) := by decide +kernel
theorem dX5_drop_100 : decode cX5_drop 100 = .ok (.aload_n 0, 1) := by decide +kernel
theorem dX5_drop_101 : decode cX5_drop 101 = .ok (.getfield 50, 3) := by decide +kernel
theorem dX5_drop_104 : decode cX5_drop 104 = .ok (.iload_n 1, 1) := by decide +kernel
theorem dX5_drop_105 : decode cX5_drop 105 = .ok (.iload_n 2, 1) := by decide +kernel
theorem dX5_drop_106 : decode cX5_drop 106 = .ok (.iconst 2, 1) := by decide +kernel
theorem dX5_drop_107 : decode cX5_drop 107 = .ok (.if_icmp .ne 7, 3) := by decide +kernel
theorem dX5_drop_110 : decode cX5_drop 110 = .ok (.iconst (-1), 1) := by decide +kernel
theorem dX5_drop_111 : decode cX5_drop 111 = .ok (.goto 9, 3) := by decide +kernel
theorem dX5_drop_114 : decode cX5_drop 114 = .ok (.aload_n 0, 1) := by decide +kernel
theorem dX5_drop_115 : decode cX5_drop 115 = .ok (.getfield 50, 3) := by decide +kernel
theorem dX5_drop_118 : decode cX5_drop 118 = .ok (.iload_n 1, 1) := by decide +kernel
theorem dX5_drop_119 : decode cX5_drop 119 = .ok (.iaload, 1) := by decide +kernel
theorem dX5_drop_120 : decode cX5_drop 120 = .ok (.iastore, 1) := by decide +kernel
theorem dX5_drop_121 : decode cX5_drop 121 = .ok (.aload_n 0, 1) := by decide +kernel
theorem dX5_drop_122 : decode cX5_drop 122 = .ok (.getfield 56, 3) := by decide +kernel
theorem dX5_drop_125 : decode cX5_drop 125 = .ok (.iload_n 1, 1) := by decide +kernel
theorem dX5_drop_126 : decode cX5_drop 126 = .ok (.iconst (-1), 1) := by decide +kernel
theorem dX5_drop_127 : decode cX5_drop 127 = .ok (.iastore, 1) := by decide +kernel
theorem dX5_drop_128 : decode cX5_drop 128 = .ok (.aload_n 0, 1) := by decide +kernel
theorem dX5_drop_129 : decode cX5_drop 129 = .ok (.getfield 53, 3) := by decide +kernel
theorem dX5_drop_132 : decode cX5_drop 132 = .ok (.iload_n 1, 1) := by decide +kernel
theorem dX5_drop_133 : decode cX5_drop 133 = .ok (.iconst 0, 1) := by decide +kernel
theorem dX5_drop_134 : decode cX5_drop 134 = .ok (.iastore, 1) := by decide +kernel
theorem dX5_drop_135 : decode cX5_drop 135 = .ok (.iconst 0, 1) := by decide +kernel
theorem dX5_drop_136 : decode cX5_drop 136 = .ok (.istore 4, 2) := by decide +kernel
theorem dX5_drop_138 : decode cX5_drop 138 = .ok (.iconst 0, 1) := by decide +kernel
theorem dX5_drop_139 : decode cX5_drop 139 = .ok (.istore 5, 2) := by decide +kernel
theorem dX5_drop_141 : decode cX5_drop 141 = .ok (.iload 5, 2) := by decide +kernel
theorem dX5_drop_143 : decode cX5_drop 143 = .ok (.aload_n 0, 1) := by decide +kernel
theorem dX5_drop_144 : decode cX5_drop 144 = .ok (.getfield 71, 3) := by decide +kernel
theorem dX5_drop_147 : decode cX5_drop 147 = .ok (.if_icmp .ge 54, 3) := by decide +kernel
theorem dX5_drop_150 : decode cX5_drop 150 = .ok (.iload_n 3, 1) := by decide +kernel
theorem dX5_drop_151 : decode cX5_drop 151 = .ok (.ifCond .eq 50, 3) := by decide +kernel
theorem dX5_drop_154 : decode cX5_drop 154 = .ok (.aload_n 0, 1) := by decide +kernel
theorem dX5_drop_155 : decode cX5_drop 155 = .ok (.getfield 53, 3) := by decide +kernel
theorem dX5_drop_158 : decode cX5_drop 158 = .ok (.iload 5, 2) := by decide +kernel
theorem dX5_drop_160 : decode cX5_drop 160 = .ok (.iaload, 1) := by decide +kernel
theorem dX5_drop_161 : decode cX5_drop 161 = .ok (.iconst 1, 1) := by decide +kernel
theorem dX5_drop_162 : decode cX5_drop 162 = .ok (.if_icmp .eq 14, 3) := by decide +kernel
theorem dX5_drop_165 : decode cX5_drop 165 = .ok (.aload_n 0, 1) := by decide +kernel
theorem dX5_drop_166 : decode cX5_drop 166 = .ok (.getfield 53, 3) := by decide +kernel
theorem dX5_drop_169 : decode cX5_drop 169 = .ok (.iload 5, 2) := by decide +kernel
theorem dX5_drop_171 : decode cX5_drop 171 = .ok (.iaload, 1) := by decide +kernel
theorem dX5_drop_172 : decode cX5_drop 172 = .ok (.iconst 2, 1) := by decide +kernel
theorem dX5_drop_173 : decode cX5_drop 173 = .ok (.if_icmp .ne 22, 3) := by decide +kernel
theorem dX5_drop_176 : decode cX5_drop 176 = .ok (.iload 4, 2) := by decide +kernel
theorem dX5_drop_178 : decode cX5_drop 178 = .ok (.aload_n 0, 1) := by decide +kernel
theorem dX5_drop_179 : decode cX5_drop 179 = .ok (.iload 5, 2) := by decide +kernel
theorem dX5_drop_181 : decode cX5_drop 181 = .ok (.invokevirtual 124, 3) := by decide +kernel
theorem dX5_drop_184 : decode cX5_drop 184 = .ok (.ifCond .eq 7, 3) := by decide +kernel
theorem dX5_drop_187 : decode cX5_drop 187 = .ok (.iconst 1, 1) := by decide +kernel
theorem dX5_drop_188 : decode cX5_drop 188 = .ok (.goto 4, 3) := by decide +kernel
theorem dX5_drop_191 : decode cX5_drop 191 = .ok (.iconst 0, 1) := by decide +kernel
theorem dX5_drop_192 : decode cX5_drop 192 = .ok (.iadd, 1) := by decide +kernel
theorem dX5_drop_193 : decode cX5_drop 193 = .ok (.istore 4, 2) := by decide +kernel
theorem dX5_drop_195 : decode cX5_drop 195 = .ok (.iinc 5 1, 3) := by decide +kernel
theorem dX5_drop_198 : decode cX5_drop 198 = .ok (.goto (-57), 3) := by decide +kernel
theorem dX5_drop_201 : decode cX5_drop 201 = .ok (.aload_n 0, 1) := by decide +kernel
theorem dX5_drop_202 : decode cX5_drop 202 = .ok (.dup, 1) := by decide +kernel
theorem dX5_drop_203 : decode cX5_drop 203 = .ok (.getfield 127, 3) := by decide +kernel
theorem dX5_drop_206 : decode cX5_drop 206 = .ok (.iload 4, 2) := by decide +kernel
theorem dX5_drop_208 : decode cX5_drop 208 = .ok (.iadd, 1) := by decide +kernel
theorem dX5_drop_209 : decode cX5_drop 209 = .ok (.putfield 127, 3) := by decide +kernel
theorem dX5_drop_212 : decode cX5_drop 212 = .ok (.iload 4, 2) := by decide +kernel
theorem dX5_drop_214 : decode cX5_drop 214 = .ok (.ireturn, 1) := by decide +kernel
theorem dX5_passesOne_0 : decode cX5_passesOne 0 = .ok (.aload_n 0, 1) := by decide +kernel
theorem dX5_passesOne_1 : decode cX5_passesOne 1 = .ok (.dup, 1) := by decide +kernel
theorem dX5_passesOne_2 : decode cX5_passesOne 2 = .ok (.getfield 92, 3) := by decide +kernel
theorem dX5_passesOne_5 : decode cX5_passesOne 5 = .ok (.iconst 1, 1) := by decide +kernel
theorem dX5_passesOne_6 : decode cX5_passesOne 6 = .ok (.iadd, 1) := by decide +kernel
theorem dX5_passesOne_7 : decode cX5_passesOne 7 = .ok (.putfield 92, 3) := by decide +kernel
theorem dX5_passesOne_10 : decode cX5_passesOne 10 = .ok (.iconst 0, 1) := by decide +kernel
theorem dX5_passesOne_11 : decode cX5_passesOne 11 = .ok (.istore_n 1, 1) := by decide +kernel
theorem dX5_passesOne_12 : decode cX5_passesOne 12 = .ok (.iconst 0, 1) := by decide +kernel
theorem dX5_passesOne_13 : decode cX5_passesOne 13 = .ok (.istore_n 2, 1) := by decide +kernel
theorem dX5_passesOne_14 : decode cX5_passesOne 14 = .ok (.iload_n 2, 1) := by decide +kernel
theorem dX5_passesOne_15 : decode cX5_passesOne 15 = .ok (.aload_n 0, 1) := by decide +kernel
theorem dX5_passesOne_16 : decode cX5_passesOne 16 = .ok (.getfield 71, 3) := by decide +kernel
theorem dX5_passesOne_19 : decode cX5_passesOne 19 = .ok (.if_icmp .ge 90, 3) := by decide +kernel
theorem dX5_passesOne_22 : decode cX5_passesOne 22 = .ok (.aload_n 0, 1) := by decide +kernel
theorem dX5_passesOne_23 : decode cX5_passesOne 23 = .ok (.getfield 53, 3) := by decide +kernel
theorem dX5_passesOne_26 : decode cX5_passesOne 26 = .ok (.iload_n 2, 1) := by decide +kernel
theorem dX5_passesOne_27 : decode cX5_passesOne 27 = .ok (.iaload, 1) := by decide +kernel
theorem dX5_passesOne_28 : decode cX5_passesOne 28 = .ok (.iconst 2, 1) := by decide +kernel
theorem dX5_passesOne_29 : decode cX5_passesOne 29 = .ok (.if_icmp .ne 23, 3) := by decide +kernel
theorem dX5_passesOne_32 : decode cX5_passesOne 32 = .ok (.aload_n 0, 1) := by decide +kernel
theorem dX5_passesOne_33 : decode cX5_passesOne 33 = .ok (.getfield 56, 3) := by decide +kernel
theorem dX5_passesOne_36 : decode cX5_passesOne 36 = .ok (.iload_n 2, 1) := by decide +kernel
theorem dX5_passesOne_37 : decode cX5_passesOne 37 = .ok (.iaload, 1) := by decide +kernel
theorem dX5_passesOne_38 : decode cX5_passesOne 38 = .ok (.aload_n 0, 1) := by decide +kernel
theorem dX5_passesOne_39 : decode cX5_passesOne 39 = .ok (.getfield 92, 3) := by decide +kernel
theorem dX5_passesOne_42 : decode cX5_passesOne 42 = .ok (.if_icmp .ne 10, 3) := by decide +kernel
theorem dX5_passesOne_45 : decode cX5_passesOne 45 = .ok (.aload_n 0, 1) := by decide +kernel
theorem dX5_passesOne_46 : decode cX5_passesOne 46 = .ok (.getfield 53, 3) := by decide +kernel
theorem dX5_passesOne_49 : decode cX5_passesOne 49 = .ok (.iload_n 2, 1) := by decide +kernel
theorem dX5_passesOne_50 : decode cX5_passesOne 50 = .ok (.iconst 3, 1) := by decide +kernel
theorem dX5_passesOne_51 : decode cX5_passesOne 51 = .ok (.iastore, 1) := by decide +kernel
theorem dX5_passesOne_52 : decode cX5_passesOne 52 = .ok (.aload_n 0, 1) := by decide +kernel
theorem dX5_passesOne_53 : decode cX5_passesOne 53 = .ok (.getfield 53, 3) := by decide +kernel
theorem dX5_passesOne_56 : decode cX5_passesOne 56 = .ok (.iload_n 2, 1) := by decide +kernel
theorem dX5_passesOne_57 : decode cX5_passesOne 57 = .ok (.iaload, 1) := by decide +kernel
theorem dX5_passesOne_58 : decode cX5_passesOne 58 = .ok (.iconst 3, 1) := by decide +kernel
theorem dX5_passesOne_59 : decode cX5_passesOne 59 = .ok (.if_icmp .ne 44, 3) := by decide +kernel
theorem dX5_passesOne_62 : decode cX5_passesOne 62 = .ok (.aload_n 0, 1) := by decide +kernel
theorem dX5_passesOne_63 : decode cX5_passesOne 63 = .ok (.iload_n 2, 1) := by decide +kernel
theorem dX5_passesOne_64 : decode cX5_passesOne 64 = .ok (.invokevirtual 82, 3) := by decide +kernel
theorem dX5_passesOne_67 : decode cX5_passesOne 67 = .ok (.aload_n 0, 1) := by decide +kernel
theorem dX5_passesOne_68 : decode cX5_passesOne 68 = .ok (.getfield 92, 3) := by decide +kernel
theorem dX5_passesOne_71 : decode cX5_passesOne 71 = .ok (.if_icmp .ne 32, 3) := by decide +kernel
theorem dX5_passesOne_74 : decode cX5_passesOne 74 = .ok (.aload_n 0, 1) := by decide +kernel
theorem dX5_passesOne_75 : decode cX5_passesOne 75 = .ok (.getfield 53, 3) := by decide +kernel
theorem dX5_passesOne_78 : decode cX5_passesOne 78 = .ok (.iload_n 2, 1) := by decide +kernel
theorem dX5_passesOne_79 : decode cX5_passesOne 79 = .ok (.iconst 4, 1) := by decide +kernel
theorem dX5_passesOne_80 : decode cX5_passesOne 80 = .ok (.iastore, 1) := by decide +kernel
theorem dX5_passesOne_81 : decode cX5_passesOne 81 = .ok (.aload_n 0, 1) := by decide +kernel
theorem dX5_passesOne_82 : decode cX5_passesOne 82 = .ok (.getfield 32, 3) := by decide +kernel
theorem dX5_passesOne_85 : decode cX5_passesOne 85 = .ok (.aload_n 0, 1) := by decide +kernel
theorem dX5_passesOne_86 : decode cX5_passesOne 86 = .ok (.getfield 41, 3) := by decide +kernel
theorem dX5_passesOne_89 : decode cX5_passesOne 89 = .ok (.iload_n 2, 1) := by decide +kernel
theorem dX5_passesOne_90 : decode cX5_passesOne 90 = .ok (.iaload, 1) := by decide +kernel
theorem dX5_passesOne_91 : decode cX5_passesOne 91 = .ok (.dup2, 1) := by decide +kernel
theorem dX5_passesOne_92 : decode cX5_passesOne 92 = .ok (.iaload, 1) := by decide +kernel
theorem dX5_passesOne_93 : decode cX5_passesOne 93 = .ok (.aload_n 0, 1) := by decide +kernel
theorem dX5_passesOne_94 : decode cX5_passesOne 94 = .ok (.iload_n 2, 1) := by decide +kernel
theorem dX5_passesOne_95 : decode cX5_passesOne 95 = .ok (.invokevirtual 130, 3) := by decide +kernel
theorem dX5_passesOne_98 : decode cX5_passesOne 98 = .ok (.iadd, 1) := by decide +kernel
theorem dX5_passesOne_99 : decode cX5_passesOne 99 = .ok (.iastore, 1) := by decide +kernel
theorem dX5_passesOne_100 : decode cX5_passesOne 100 = .ok (.iinc 1 1, 3) := by decide +kernel
theorem dX5_passesOne_103 : decode cX5_passesOne 103 = .ok (.iinc 2 1, 3) := by decide +kernel
theorem dX5_passesOne_106 : decode cX5_passesOne 106 = .ok (.goto (-92), 3) := by decide +kernel
theorem dX5_passesOne_109 : decode cX5_passesOne 109 = .ok (.iload_n 1, 1) := by decide +kernel
theorem dX5_passesOne_110 : decode cX5_passesOne 110 = .ok (.ireturn, 1) := by decide +kernel
theorem dX5_billOf_0 : decode cX5_billOf 0 = .ok (.aload_n 0, 1) := by decide +kernel
theorem dX5_billOf_1 : decode cX5_billOf 1 = .ok (.getfield 26, 3) := by decide +kernel
theorem dX5_billOf_4 : decode cX5_billOf 4 = .ok (.aload_n 0, 1) := by decide +kernel
theorem dX5_billOf_5 : decode cX5_billOf 5 = .ok (.getfield 41, 3) := by decide +kernel
theorem dX5_billOf_8 : decode cX5_billOf 8 = .ok (.iload_n 1, 1) := by decide +kernel
theorem dX5_billOf_9 : decode cX5_billOf 9 = .ok (.iaload, 1) := by decide +kernel
theorem dX5_billOf_10 : decode cX5_billOf 10 = .ok (.iaload, 1) := by decide +kernel
theorem dX5_billOf_11 : decode cX5_billOf 11 = .ok (.aload_n 0, 1) := by decide +kernel
theorem dX5_billOf_12 : decode cX5_billOf 12 = .ok (.getfield 38, 3) := by decide +kernel
theorem dX5_billOf_15 : decode cX5_billOf 15 = .ok (.aload_n 0, 1) := by decide +kernel
theorem dX5_billOf_16 : decode cX5_billOf 16 = .ok (.getfield 50, 3) := by decide +kernel
theorem dX5_billOf_19 : decode cX5_billOf 19 = .ok (.iload_n 1, 1) := by decide +kernel
theorem dX5_billOf_20 : decode cX5_billOf 20 = .ok (.iaload, 1) := by decide +kernel
theorem dX5_billOf_21 : decode cX5_billOf 21 = .ok (.iaload, 1) := by decide +kernel
theorem dX5_billOf_22 : decode cX5_billOf 22 = .ok (.imul, 1) := by decide +kernel
theorem dX5_billOf_23 : decode cX5_billOf 23 = .ok (.bipush 100, 2) := by decide +kernel
theorem dX5_billOf_25 : decode cX5_billOf 25 = .ok (.aload_n 0, 1) := by decide +kernel
theorem dX5_billOf_26 : decode cX5_billOf 26 = .ok (.getfield 29, 3) := by decide +kernel
theorem dX5_billOf_29 : decode cX5_billOf 29 = .ok (.aload_n 0, 1) := by decide +kernel
theorem dX5_billOf_30 : decode cX5_billOf 30 = .ok (.getfield 41, 3) := by decide +kernel
theorem dX5_billOf_33 : decode cX5_billOf 33 = .ok (.iload_n 1, 1) := by decide +kernel
theorem dX5_billOf_34 : decode cX5_billOf 34 = .ok (.iaload, 1) := by decide +kernel
theorem dX5_billOf_35 : decode cX5_billOf 35 = .ok (.iaload, 1) := by decide +kernel
theorem dX5_billOf_36 : decode cX5_billOf 36 = .ok (.imul, 1) := by decide +kernel
theorem dX5_billOf_37 : decode cX5_billOf 37 = .ok (.iadd, 1) := by decide +kernel
theorem dX5_billOf_38 : decode cX5_billOf 38 = .ok (.ireturn, 1) := by decide +kernel
theorem dX5_pass_0 : decode cX5_pass 0 = .ok (.aload_n 0, 1) := by decide +kernel
theorem dX5_pass_1 : decode cX5_pass 1 = .ok (.iload_n 1, 1) := by decide +kernel
theorem dX5_pass_2 : decode cX5_pass 2 = .ok (.iconst 1, 1) := by decide +kernel
theorem dX5_pass_3 : decode cX5_pass 3 = .ok (.sipush 2000, 3) := by decide +kernel
theorem dX5_pass_6 : decode cX5_pass 6 = .ok (.invokestatic 65, 3) := by decide +kernel
theorem dX5_pass_9 : decode cX5_pass 9 = .ok (.ifCond .ne 7, 3) := by decide +kernel
theorem dX5_pass_12 : decode cX5_pass 12 = .ok (.iconst 1, 1) := by decide +kernel
theorem dX5_pass_13 : decode cX5_pass 13 = .ok (.goto 20, 3) := by decide +kernel
theorem dX5_pass_16 : decode cX5_pass 16 = .ok (.aload_n 0, 1) := by decide +kernel
theorem dX5_pass_17 : decode cX5_pass 17 = .ok (.getfield 92, 3) := by decide +kernel
theorem dX5_pass_20 : decode cX5_pass 20 = .ok (.iload_n 1, 1) := by decide +kernel
theorem dX5_pass_21 : decode cX5_pass 21 = .ok (.iadd, 1) := by decide +kernel
theorem dX5_pass_22 : decode cX5_pass 22 = .ok (.sipush 20000, 3) := by decide +kernel
theorem dX5_pass_25 : decode cX5_pass 25 = .ok (.if_icmp .le 7, 3) := by decide +kernel
theorem dX5_pass_28 : decode cX5_pass 28 = .ok (.iconst 2, 1) := by decide +kernel
theorem dX5_pass_29 : decode cX5_pass 29 = .ok (.goto 4, 3) := by decide +kernel
theorem dX5_pass_32 : decode cX5_pass 32 = .ok (.iconst 0, 1) := by decide +kernel
theorem dX5_pass_33 : decode cX5_pass 33 = .ok (.putfield 59, 3) := by decide +kernel
theorem dX5_pass_36 : decode cX5_pass 36 = .ok (.iconst 0, 1) := by decide +kernel
theorem dX5_pass_37 : decode cX5_pass 37 = .ok (.istore_n 2, 1) := by decide +kernel
theorem dX5_pass_38 : decode cX5_pass 38 = .ok (.iconst 0, 1) := by decide +kernel
theorem dX5_pass_39 : decode cX5_pass 39 = .ok (.istore_n 3, 1) := by decide +kernel
theorem dX5_pass_40 : decode cX5_pass 40 = .ok (.iload_n 3, 1) := by decide +kernel
theorem dX5_pass_41 : decode cX5_pass 41 = .ok (.iload_n 1, 1) := by decide +kernel
theorem dX5_pass_42 : decode cX5_pass 42 = .ok (.if_icmp .ge 23, 3) := by decide +kernel
theorem dX5_pass_45 : decode cX5_pass 45 = .ok (.aload_n 0, 1) := by decide +kernel
theorem dX5_pass_46 : decode cX5_pass 46 = .ok (.getfield 59, 3) := by decide +kernel
theorem dX5_pass_49 : decode cX5_pass 49 = .ok (.ifCond .ne 16, 3) := by decide +kernel
theorem dX5_pass_52 : decode cX5_pass 52 = .ok (.iload_n 2, 1) := by decide +kernel
theorem dX5_pass_53 : decode cX5_pass 53 = .ok (.aload_n 0, 1) := by decide +kernel
theorem dX5_pass_54 : decode cX5_pass 54 = .ok (.invokevirtual 133, 3) := by decide +kernel
theorem dX5_pass_57 : decode cX5_pass 57 = .ok (.iadd, 1) := by decide +kernel
theorem dX5_pass_58 : decode cX5_pass 58 = .ok (.istore_n 2, 1) := by decide +kernel
theorem dX5_pass_59 : decode cX5_pass 59 = .ok (.iinc 3 1, 3) := by decide +kernel
theorem dX5_pass_62 : decode cX5_pass 62 = .ok (.goto (-22), 3) := by decide +kernel
theorem dX5_pass_65 : decode cX5_pass 65 = .ok (.iload_n 2, 1) := by decide +kernel
theorem dX5_pass_66 : decode cX5_pass 66 = .ok (.ireturn, 1) := by decide +kernel
theorem dX5_minute_0 : decode cX5_minute 0 = .ok (.aload_n 0, 1) := by decide +kernel
theorem dX5_minute_1 : decode cX5_minute 1 = .ok (.iconst 0, 1) := by decide +kernel
theorem dX5_minute_2 : decode cX5_minute 2 = .ok (.putfield 59, 3) := by decide +kernel
theorem dX5_minute_5 : decode cX5_minute 5 = .ok (.aload_n 0, 1) := by decide +kernel
theorem dX5_minute_6 : decode cX5_minute 6 = .ok (.getfield 92, 3) := by decide +kernel
theorem dX5_minute_9 : decode cX5_minute 9 = .ok (.ireturn, 1) := by decide +kernel
theorem dX5_level_0 : decode cX5_level 0 = .ok (.aload_n 0, 1) := by decide +kernel
theorem dX5_level_1 : decode cX5_level 1 = .ok (.iload_n 1, 1) := by decide +kernel
theorem dX5_level_2 : decode cX5_level 2 = .ok (.iconst 0, 1) := by decide +kernel
theorem dX5_level_3 : decode cX5_level 3 = .ok (.sipush 30000, 3) := by decide +kernel
theorem dX5_level_6 : decode cX5_level 6 = .ok (.invokestatic 65, 3) := by decide +kernel
theorem dX5_level_9 : decode cX5_level 9 = .ok (.ifCond .eq 7, 3) := by decide +kernel
theorem dX5_level_12 : decode cX5_level 12 = .ok (.iconst 0, 1) := by decide +kernel
theorem dX5_level_13 : decode cX5_level 13 = .ok (.goto 4, 3) := by decide +kernel
theorem dX5_level_16 : decode cX5_level 16 = .ok (.iconst 1, 1) := by decide +kernel
theorem dX5_level_17 : decode cX5_level 17 = .ok (.putfield 59, 3) := by decide +kernel
theorem dX5_level_20 : decode cX5_level 20 = .ok (.aload_n 0, 1) := by decide +kernel
theorem dX5_level_21 : decode cX5_level 21 = .ok (.getfield 59, 3) := by decide +kernel
theorem dX5_level_24 : decode cX5_level 24 = .ok (.ifCond .le 7, 3) := by decide +kernel
theorem dX5_level_27 : decode cX5_level 27 = .ok (.iconst 0, 1) := by decide +kernel
theorem dX5_level_28 : decode cX5_level 28 = .ok (.goto 8, 3) := by decide +kernel
theorem dX5_level_31 : decode cX5_level 31 = .ok (.aload_n 0, 1) := by decide +kernel
theorem dX5_level_32 : decode cX5_level 32 = .ok (.iload_n 1, 1) := by decide +kernel
theorem dX5_level_33 : decode cX5_level 33 = .ok (.invokevirtual 74, 3) := by decide +kernel
theorem dX5_level_36 : decode cX5_level 36 = .ok (.ireturn, 1) := by decide +kernel
theorem dX5_window_0 : decode cX5_window 0 = .ok (.aload_n 0, 1) := by decide +kernel
theorem dX5_window_1 : decode cX5_window 1 = .ok (.aload_n 0, 1) := by decide +kernel
theorem dX5_window_2 : decode cX5_window 2 = .ok (.iload_n 1, 1) := by decide +kernel
theorem dX5_window_3 : decode cX5_window 3 = .ok (.invokevirtual 108, 3) := by decide +kernel
theorem dX5_window_6 : decode cX5_window 6 = .ok (.ifCond .ne 7, 3) := by decide +kernel
theorem dX5_window_9 : decode cX5_window 9 = .ok (.iconst 1, 1) := by decide +kernel
theorem dX5_window_10 : decode cX5_window 10 = .ok (.goto 19, 3) := by decide +kernel
theorem dX5_window_13 : decode cX5_window 13 = .ok (.iload_n 2, 1) := by decide +kernel
theorem dX5_window_14 : decode cX5_window 14 = .ok (.iconst 0, 1) := by decide +kernel
theorem dX5_window_15 : decode cX5_window 15 = .ok (.sipush 20000, 3) := by decide +kernel
theorem dX5_window_18 : decode cX5_window 18 = .ok (.invokestatic 65, 3) := by decide +kernel
theorem dX5_window_21 : decode cX5_window 21 = .ok (.ifCond .eq 7, 3) := by decide +kernel
theorem dX5_window_24 : decode cX5_window 24 = .ok (.iconst 0, 1) := by decide +kernel
theorem dX5_window_25 : decode cX5_window 25 = .ok (.goto 4, 3) := by decide +kernel
theorem dX5_window_28 : decode cX5_window 28 = .ok (.iconst 2, 1) := by decide +kernel
theorem dX5_window_29 : decode cX5_window 29 = .ok (.putfield 59, 3) := by decide +kernel
theorem dX5_window_32 : decode cX5_window 32 = .ok (.iconst (-1), 1) := by decide +kernel
theorem dX5_window_33 : decode cX5_window 33 = .ok (.istore_n 3, 1) := by decide +kernel
theorem dX5_window_34 : decode cX5_window 34 = .ok (.iload_n 2, 1) := by decide +kernel
theorem dX5_window_35 : decode cX5_window 35 = .ok (.istore 4, 2) := by decide +kernel
theorem dX5_window_37 : decode cX5_window 37 = .ok (.aload_n 0, 1) := by decide +kernel
theorem dX5_window_38 : decode cX5_window 38 = .ok (.getfield 59, 3) := by decide +kernel
theorem dX5_window_41 : decode cX5_window 41 = .ok (.ifCond .ne 41, 3) := by decide +kernel
theorem dX5_window_44 : decode cX5_window 44 = .ok (.iload 4, 2) := by decide +kernel
theorem dX5_window_46 : decode cX5_window 46 = .ok (.iload_n 2, 1) := by decide +kernel
theorem dX5_window_47 : decode cX5_window 47 = .ok (.sipush 1440, 3) := by decide +kernel
theorem dX5_window_50 : decode cX5_window 50 = .ok (.iadd, 1) := by decide +kernel
theorem dX5_window_51 : decode cX5_window 51 = .ok (.if_icmp .gt 31, 3) := by decide +kernel
theorem dX5_window_54 : decode cX5_window 54 = .ok (.iload_n 3, 1) := by decide +kernel
theorem dX5_window_55 : decode cX5_window 55 = .ok (.iconst (-1), 1) := by decide +kernel
theorem dX5_window_56 : decode cX5_window 56 = .ok (.if_icmp .ne 26, 3) := by decide +kernel
theorem dX5_window_59 : decode cX5_window 59 = .ok (.aload_n 0, 1) := by decide +kernel
theorem dX5_window_60 : decode cX5_window 60 = .ok (.iload_n 1, 1) := by decide +kernel
theorem dX5_window_61 : decode cX5_window 61 = .ok (.iload 4, 2) := by decide +kernel
theorem dX5_window_63 : decode cX5_window 63 = .ok (.invokevirtual 95, 3) := by decide +kernel
theorem dX5_window_66 : decode cX5_window 66 = .ok (.ifCond .eq 8, 3) := by decide +kernel
theorem dX5_window_69 : decode cX5_window 69 = .ok (.iload 4, 2) := by decide +kernel
theorem dX5_window_71 : decode cX5_window 71 = .ok (.goto 4, 3) := by decide +kernel
theorem dX5_window_74 : decode cX5_window 74 = .ok (.iconst (-1), 1) := by decide +kernel
theorem dX5_window_75 : decode cX5_window 75 = .ok (.istore_n 3, 1) := by decide +kernel
theorem dX5_window_76 : decode cX5_window 76 = .ok (.iinc 4 1, 3) := by decide +kernel
theorem dX5_window_79 : decode cX5_window 79 = .ok (.goto (-42), 3) := by decide +kernel
theorem dX5_window_82 : decode cX5_window 82 = .ok (.aload_n 0, 1) := by decide +kernel
theorem dX5_window_83 : decode cX5_window 83 = .ok (.getfield 59, 3) := by decide +kernel
theorem dX5_window_86 : decode cX5_window 86 = .ok (.ifCond .le 7, 3) := by decide +kernel
theorem dX5_window_89 : decode cX5_window 89 = .ok (.iconst 0, 1) := by decide +kernel
theorem dX5_window_90 : decode cX5_window 90 = .ok (.goto 4, 3) := by decide +kernel
theorem dX5_window_93 : decode cX5_window 93 = .ok (.iload_n 3, 1) := by decide +kernel
theorem dX5_window_94 : decode cX5_window 94 = .ok (.ireturn, 1) := by decide +kernel
theorem dX5_many_0 : decode cX5_many 0 = .ok (.iload_n 0, 1) := by decide +kernel
theorem dX5_many_1 : decode cX5_many 1 = .ok (.iconst 1, 1) := by decide +kernel
theorem dX5_many_2 : decode cX5_many 2 = .ok (.iand, 1) := by decide +kernel
theorem dX5_many_3 : decode cX5_many 3 = .ok (.iload_n 0, 1) := by decide +kernel
theorem dX5_many_4 : decode cX5_many 4 = .ok (.iconst 1, 1) := by decide +kernel
theorem dX5_many_5 : decode cX5_many 5 = .ok (.ishr, 1) := by decide +kernel
theorem dX5_many_6 : decode cX5_many 6 = .ok (.iconst 1, 1) := by decide +kernel
theorem dX5_many_7 : decode cX5_many 7 = .ok (.iand, 1) := by decide +kernel
theorem dX5_many_8 : decode cX5_many 8 = .ok (.iadd, 1) := by decide +kernel
theorem dX5_many_9 : decode cX5_many 9 = .ok (.iload_n 0, 1) := by decide +kernel
theorem dX5_many_10 : decode cX5_many 10 = .ok (.iconst 2, 1) := by decide +kernel
theorem dX5_many_11 : decode cX5_many 11 = .ok (.ishr, 1) := by decide +kernel
theorem dX5_many_12 : decode cX5_many 12 = .ok (.iconst 1, 1) := by decide +kernel
theorem dX5_many_13 : decode cX5_many 13 = .ok (.iand, 1) := by decide +kernel
theorem dX5_many_14 : decode cX5_many 14 = .ok (.iadd, 1) := by decide +kernel
theorem dX5_many_15 : decode cX5_many 15 = .ok (.ireturn, 1) := by decide +kernel
theorem dX5_ofConference_0 : decode cX5_ofConference 0 = .ok (.aload_n 0, 1) := by decide +kernel
theorem dX5_ofConference_1 : decode cX5_ofConference 1 = .ok (.aload_n 0, 1) := by decide +kernel
theorem dX5_ofConference_2 : decode cX5_ofConference 2 = .ok (.iload_n 1, 1) := by decide +kernel
theorem dX5_ofConference_3 : decode cX5_ofConference 3 = .ok (.invokevirtual 111, 3) := by decide +kernel
theorem dX5_ofConference_6 : decode cX5_ofConference 6 = .ok (.ifCond .eq 16, 3) := by decide +kernel
theorem dX5_ofConference_9 : decode cX5_ofConference 9 = .ok (.iload_n 2, 1) := by decide +kernel
theorem dX5_ofConference_10 : decode cX5_ofConference 10 = .ok (.iconst 0, 1) := by decide +kernel
theorem dX5_ofConference_11 : decode cX5_ofConference 11 = .ok (.iconst 4, 1) := by decide +kernel
theorem dX5_ofConference_12 : decode cX5_ofConference 12 = .ok (.invokestatic 65, 3) := by decide +kernel
theorem dX5_ofConference_15 : decode cX5_ofConference 15 = .ok (.ifCond .eq 7, 3) := by decide +kernel
theorem dX5_ofConference_18 : decode cX5_ofConference 18 = .ok (.iconst 0, 1) := by decide +kernel
theorem dX5_ofConference_19 : decode cX5_ofConference 19 = .ok (.goto 4, 3) := by decide +kernel
theorem dX5_ofConference_22 : decode cX5_ofConference 22 = .ok (.iconst 1, 1) := by decide +kernel
theorem dX5_ofConference_23 : decode cX5_ofConference 23 = .ok (.putfield 59, 3) := by decide +kernel
theorem dX5_ofConference_26 : decode cX5_ofConference 26 = .ok (.aload_n 0, 1) := by decide +kernel
theorem dX5_ofConference_27 : decode cX5_ofConference 27 = .ok (.getfield 59, 3) := by decide +kernel
theorem dX5_ofConference_30 : decode cX5_ofConference 30 = .ok (.ifCond .le 5, 3) := by decide +kernel
theorem dX5_ofConference_33 : decode cX5_ofConference 33 = .ok (.iconst 0, 1) := by decide +kernel
theorem dX5_ofConference_34 : decode cX5_ofConference 34 = .ok (.ireturn, 1) := by decide +kernel
theorem dX5_ofConference_35 : decode cX5_ofConference 35 = .ok (.iload_n 2, 1) := by decide +kernel
theorem dX5_ofConference_36 : decode cX5_ofConference 36 = .ok (.tableswitch 63 0 3 #[32, 39, 46, 53], 32) := by decide +kernel
theorem dX5_ofConference_68 : decode cX5_ofConference 68 = .ok (.aload_n 0, 1) := by decide +kernel
theorem dX5_ofConference_69 : decode cX5_ofConference 69 = .ok (.getfield 53, 3) := by decide +kernel
theorem dX5_ofConference_72 : decode cX5_ofConference 72 = .ok (.iload_n 1, 1) := by decide +kernel
theorem dX5_ofConference_73 : decode cX5_ofConference 73 = .ok (.iaload, 1) := by decide +kernel
theorem dX5_ofConference_74 : decode cX5_ofConference 74 = .ok (.ireturn, 1) := by decide +kernel
theorem dX5_ofConference_75 : decode cX5_ofConference 75 = .ok (.aload_n 0, 1) := by decide +kernel
theorem dX5_ofConference_76 : decode cX5_ofConference 76 = .ok (.getfield 56, 3) := by decide +kernel
theorem dX5_ofConference_79 : decode cX5_ofConference 79 = .ok (.iload_n 1, 1) := by decide +kernel
theorem dX5_ofConference_80 : decode cX5_ofConference 80 = .ok (.iaload, 1) := by decide +kernel
theorem dX5_ofConference_81 : decode cX5_ofConference 81 = .ok (.ireturn, 1) := by decide +kernel
theorem dX5_ofConference_82 : decode cX5_ofConference 82 = .ok (.aload_n 0, 1) := by decide +kernel
theorem dX5_ofConference_83 : decode cX5_ofConference 83 = .ok (.getfield 50, 3) := by decide +kernel
theorem dX5_ofConference_86 : decode cX5_ofConference 86 = .ok (.iload_n 1, 1) := by decide +kernel
theorem dX5_ofConference_87 : decode cX5_ofConference 87 = .ok (.iaload, 1) := by decide +kernel
theorem dX5_ofConference_88 : decode cX5_ofConference 88 = .ok (.ireturn, 1) := by decide +kernel
theorem dX5_ofConference_89 : decode cX5_ofConference 89 = .ok (.aload_n 0, 1) := by decide +kernel
theorem dX5_ofConference_90 : decode cX5_ofConference 90 = .ok (.getfield 47, 3) := by decide +kernel
theorem dX5_ofConference_93 : decode cX5_ofConference 93 = .ok (.iload_n 1, 1) := by decide +kernel
theorem dX5_ofConference_94 : decode cX5_ofConference 94 = .ok (.iaload, 1) := by decide +kernel
theorem dX5_ofConference_95 : decode cX5_ofConference 95 = .ok (.invokestatic 137, 3) := by decide +kernel
theorem dX5_ofConference_98 : decode cX5_ofConference 98 = .ok (.ireturn, 1) := by decide +kernel
theorem dX5_ofConference_99 : decode cX5_ofConference 99 = .ok (.aload_n 0, 1) := by decide +kernel
theorem dX5_ofConference_100 : decode cX5_ofConference 100 = .ok (.getfield 41, 3) := by decide +kernel
theorem dX5_ofConference_103 : decode cX5_ofConference 103 = .ok (.iload_n 1, 1) := by decide +kernel
theorem dX5_ofConference_104 : decode cX5_ofConference 104 = .ok (.iaload, 1) := by decide +kernel
theorem dX5_ofConference_105 : decode cX5_ofConference 105 = .ok (.ireturn, 1) := by decide +kernel
theorem dX5_why_0 : decode cX5_why 0 = .ok (.aload_n 0, 1) := by decide +kernel
theorem dX5_why_1 : decode cX5_why 1 = .ok (.aload_n 0, 1) := by decide +kernel
theorem dX5_why_2 : decode cX5_why 2 = .ok (.iload_n 1, 1) := by decide +kernel
theorem dX5_why_3 : decode cX5_why 3 = .ok (.invokevirtual 111, 3) := by decide +kernel
theorem dX5_why_6 : decode cX5_why 6 = .ok (.ifCond .ne 7, 3) := by decide +kernel
theorem dX5_why_9 : decode cX5_why 9 = .ok (.iconst 1, 1) := by decide +kernel
theorem dX5_why_10 : decode cX5_why 10 = .ok (.goto 36, 3) := by decide +kernel
theorem dX5_why_13 : decode cX5_why 13 = .ok (.iload_n 2, 1) := by decide +kernel
theorem dX5_why_14 : decode cX5_why 14 = .ok (.aload_n 0, 1) := by decide +kernel
theorem dX5_why_15 : decode cX5_why 15 = .ok (.getfield 92, 3) := by decide +kernel
theorem dX5_why_18 : decode cX5_why 18 = .ok (.sipush 21440, 3) := by decide +kernel
theorem dX5_why_21 : decode cX5_why 21 = .ok (.invokestatic 65, 3) := by decide +kernel
theorem dX5_why_24 : decode cX5_why 24 = .ok (.ifCond .ne 7, 3) := by decide +kernel
theorem dX5_why_27 : decode cX5_why 27 = .ok (.iconst 2, 1) := by decide +kernel
theorem dX5_why_28 : decode cX5_why 28 = .ok (.goto 18, 3) := by decide +kernel
theorem dX5_why_31 : decode cX5_why 31 = .ok (.aload_n 0, 1) := by decide +kernel
theorem dX5_why_32 : decode cX5_why 32 = .ok (.getfield 50, 3) := by decide +kernel
theorem dX5_why_35 : decode cX5_why 35 = .ok (.iload_n 1, 1) := by decide +kernel
theorem dX5_why_36 : decode cX5_why 36 = .ok (.iaload, 1) := by decide +kernel
theorem dX5_why_37 : decode cX5_why 37 = .ok (.iconst (-1), 1) := by decide +kernel
theorem dX5_why_38 : decode cX5_why 38 = .ok (.if_icmp .ne 7, 3) := by decide +kernel
theorem dX5_why_41 : decode cX5_why 41 = .ok (.iconst 3, 1) := by decide +kernel
theorem dX5_why_42 : decode cX5_why 42 = .ok (.goto 4, 3) := by decide +kernel
theorem dX5_why_45 : decode cX5_why 45 = .ok (.iconst 0, 1) := by decide +kernel
theorem dX5_why_46 : decode cX5_why 46 = .ok (.putfield 59, 3) := by decide +kernel
theorem dX5_why_49 : decode cX5_why 49 = .ok (.aload_n 0, 1) := by decide +kernel
theorem dX5_why_50 : decode cX5_why 50 = .ok (.getfield 59, 3) := by decide +kernel
theorem dX5_why_53 : decode cX5_why 53 = .ok (.ifCond .le 5, 3) := by decide +kernel
theorem dX5_why_56 : decode cX5_why 56 = .ok (.iconst 0, 1) := by decide +kernel
theorem dX5_why_57 : decode cX5_why 57 = .ok (.ireturn, 1) := by decide +kernel
theorem dX5_why_58 : decode cX5_why 58 = .ok (.aload_n 0, 1) := by decide +kernel
theorem dX5_why_59 : decode cX5_why 59 = .ok (.aload_n 0, 1) := by decide +kernel
theorem dX5_why_60 : decode cX5_why 60 = .ok (.getfield 41, 3) := by decide +kernel
theorem dX5_why_63 : decode cX5_why 63 = .ok (.iload_n 1, 1) := by decide +kernel
theorem dX5_why_64 : decode cX5_why 64 = .ok (.iaload, 1) := by decide +kernel
theorem dX5_why_65 : decode cX5_why 65 = .ok (.iload_n 2, 1) := by decide +kernel
theorem dX5_why_66 : decode cX5_why 66 = .ok (.invokevirtual 95, 3) := by decide +kernel
theorem dX5_why_69 : decode cX5_why 69 = .ok (.ifCond .ne 5, 3) := by decide +kernel
theorem dX5_why_72 : decode cX5_why 72 = .ok (.iconst 1, 1) := by decide +kernel
theorem dX5_why_73 : decode cX5_why 73 = .ok (.ireturn, 1) := by decide +kernel
theorem dX5_why_74 : decode cX5_why 74 = .ok (.aload_n 0, 1) := by decide +kernel
theorem dX5_why_75 : decode cX5_why 75 = .ok (.iload_n 1, 1) := by decide +kernel
theorem dX5_why_76 : decode cX5_why 76 = .ok (.iload_n 2, 1) := by decide +kernel
theorem dX5_why_77 : decode cX5_why 77 = .ok (.invokevirtual 102, 3) := by decide +kernel
theorem dX5_why_80 : decode cX5_why 80 = .ok (.ifCond .ne 5, 3) := by decide +kernel
theorem dX5_why_83 : decode cX5_why 83 = .ok (.iconst 2, 1) := by decide +kernel
theorem dX5_why_84 : decode cX5_why 84 = .ok (.ireturn, 1) := by decide +kernel
theorem dX5_why_85 : decode cX5_why 85 = .ok (.aload_n 0, 1) := by decide +kernel
theorem dX5_why_86 : decode cX5_why 86 = .ok (.iload_n 1, 1) := by decide +kernel
theorem dX5_why_87 : decode cX5_why 87 = .ok (.iload_n 2, 1) := by decide +kernel
theorem dX5_why_88 : decode cX5_why 88 = .ok (.invokevirtual 105, 3) := by decide +kernel
theorem dX5_why_91 : decode cX5_why 91 = .ok (.ifCond .ne 7, 3) := by decide +kernel
theorem dX5_why_94 : decode cX5_why 94 = .ok (.iconst 3, 1) := by decide +kernel
theorem dX5_why_95 : decode cX5_why 95 = .ok (.goto 17, 3) := by decide +kernel
theorem dX5_why_98 : decode cX5_why 98 = .ok (.aload_n 0, 1) := by decide +kernel
theorem dX5_why_99 : decode cX5_why 99 = .ok (.iload_n 1, 1) := by decide +kernel
theorem dX5_why_100 : decode cX5_why 100 = .ok (.iload_n 2, 1) := by decide +kernel
theorem dX5_why_101 : decode cX5_why 101 = .ok (.invokevirtual 99, 3) := by decide +kernel
theorem dX5_why_104 : decode cX5_why 104 = .ok (.ifCond .eq 7, 3) := by decide +kernel
theorem dX5_why_107 : decode cX5_why 107 = .ok (.iconst 0, 1) := by decide +kernel
theorem dX5_why_108 : decode cX5_why 108 = .ok (.goto 4, 3) := by decide +kernel
theorem dX5_why_111 : decode cX5_why 111 = .ok (.iconst 4, 1) := by decide +kernel
theorem dX5_why_112 : decode cX5_why 112 = .ok (.ireturn, 1) := by decide +kernel
theorem dX5_rested_0 : decode cX5_rested 0 = .ok (.aload_n 0, 1) := by decide +kernel
theorem dX5_rested_1 : decode cX5_rested 1 = .ok (.aload_n 0, 1) := by decide +kernel
theorem dX5_rested_2 : decode cX5_rested 2 = .ok (.iload_n 1, 1) := by decide +kernel
theorem dX5_rested_3 : decode cX5_rested 3 = .ok (.invokevirtual 114, 3) := by decide +kernel
theorem dX5_rested_6 : decode cX5_rested 6 = .ok (.ifCond .eq 7, 3) := by decide +kernel
theorem dX5_rested_9 : decode cX5_rested 9 = .ok (.iconst 0, 1) := by decide +kernel
theorem dX5_rested_10 : decode cX5_rested 10 = .ok (.goto 4, 3) := by decide +kernel
theorem dX5_rested_13 : decode cX5_rested 13 = .ok (.iconst 1, 1) := by decide +kernel
theorem dX5_rested_14 : decode cX5_rested 14 = .ok (.putfield 59, 3) := by decide +kernel
theorem dX5_rested_17 : decode cX5_rested 17 = .ok (.aload_n 0, 1) := by decide +kernel
theorem dX5_rested_18 : decode cX5_rested 18 = .ok (.getfield 92, 3) := by decide +kernel
theorem dX5_rested_21 : decode cX5_rested 21 = .ok (.istore_n 2, 1) := by decide +kernel
theorem dX5_rested_22 : decode cX5_rested 22 = .ok (.iconst 0, 1) := by decide +kernel
theorem dX5_rested_23 : decode cX5_rested 23 = .ok (.istore_n 3, 1) := by decide +kernel
theorem dX5_rested_24 : decode cX5_rested 24 = .ok (.iload_n 3, 1) := by decide +kernel
theorem dX5_rested_25 : decode cX5_rested 25 = .ok (.aload_n 0, 1) := by decide +kernel
theorem dX5_rested_26 : decode cX5_rested 26 = .ok (.getfield 71, 3) := by decide +kernel
theorem dX5_rested_29 : decode cX5_rested 29 = .ok (.if_icmp .ge 73, 3) := by decide +kernel
theorem dX5_rested_32 : decode cX5_rested 32 = .ok (.aload_n 0, 1) := by decide +kernel
theorem dX5_rested_33 : decode cX5_rested 33 = .ok (.getfield 59, 3) := by decide +kernel
theorem dX5_rested_36 : decode cX5_rested 36 = .ok (.ifCond .ne 66, 3) := by decide +kernel
theorem dX5_rested_39 : decode cX5_rested 39 = .ok (.aload_n 0, 1) := by decide +kernel
theorem dX5_rested_40 : decode cX5_rested 40 = .ok (.iload_n 3, 1) := by decide +kernel
theorem dX5_rested_41 : decode cX5_rested 41 = .ok (.invokevirtual 78, 3) := by decide +kernel
theorem dX5_rested_44 : decode cX5_rested 44 = .ok (.ifCond .eq 36, 3) := by decide +kernel
theorem dX5_rested_47 : decode cX5_rested 47 = .ok (.aload_n 0, 1) := by decide +kernel
theorem dX5_rested_48 : decode cX5_rested 48 = .ok (.getfield 50, 3) := by decide +kernel
theorem dX5_rested_51 : decode cX5_rested 51 = .ok (.iload_n 3, 1) := by decide +kernel
theorem dX5_rested_52 : decode cX5_rested 52 = .ok (.iaload, 1) := by decide +kernel
theorem dX5_rested_53 : decode cX5_rested 53 = .ok (.iload_n 1, 1) := by decide +kernel
theorem dX5_rested_54 : decode cX5_rested 54 = .ok (.if_icmp .ne 26, 3) := by decide +kernel
theorem dX5_rested_57 : decode cX5_rested 57 = .ok (.aload_n 0, 1) := by decide +kernel
theorem dX5_rested_58 : decode cX5_rested 58 = .ok (.iload_n 3, 1) := by decide +kernel
theorem dX5_rested_59 : decode cX5_rested 59 = .ok (.invokevirtual 82, 3) := by decide +kernel
theorem dX5_rested_62 : decode cX5_rested 62 = .ok (.aload_n 0, 1) := by decide +kernel
theorem dX5_rested_63 : decode cX5_rested 63 = .ok (.getfield 26, 3) := by decide +kernel
theorem dX5_rested_66 : decode cX5_rested 66 = .ok (.aload_n 0, 1) := by decide +kernel
theorem dX5_rested_67 : decode cX5_rested 67 = .ok (.getfield 41, 3) := by decide +kernel
theorem dX5_rested_70 : decode cX5_rested 70 = .ok (.iload_n 3, 1) := by decide +kernel
theorem dX5_rested_71 : decode cX5_rested 71 = .ok (.iaload, 1) := by decide +kernel
theorem dX5_rested_72 : decode cX5_rested 72 = .ok (.iaload, 1) := by decide +kernel
theorem dX5_rested_73 : decode cX5_rested 73 = .ok (.invokestatic 85, 3) := by decide +kernel
theorem dX5_rested_76 : decode cX5_rested 76 = .ok (.iadd, 1) := by decide +kernel
theorem dX5_rested_77 : decode cX5_rested 77 = .ok (.goto 4, 3) := by decide +kernel
theorem dX5_rested_80 : decode cX5_rested 80 = .ok (.iconst 0, 1) := by decide +kernel
theorem dX5_rested_81 : decode cX5_rested 81 = .ok (.istore 4, 2) := by decide +kernel
theorem dX5_rested_83 : decode cX5_rested 83 = .ok (.iload 4, 2) := by decide +kernel
theorem dX5_rested_85 : decode cX5_rested 85 = .ok (.iload_n 2, 1) := by decide +kernel
theorem dX5_rested_86 : decode cX5_rested 86 = .ok (.if_icmp .le 8, 3) := by decide +kernel
theorem dX5_rested_89 : decode cX5_rested 89 = .ok (.iload 4, 2) := by decide +kernel
theorem dX5_rested_91 : decode cX5_rested 91 = .ok (.goto 4, 3) := by decide +kernel
theorem dX5_rested_94 : decode cX5_rested 94 = .ok (.iload_n 2, 1) := by decide +kernel
theorem dX5_rested_95 : decode cX5_rested 95 = .ok (.istore_n 2, 1) := by decide +kernel
theorem dX5_rested_96 : decode cX5_rested 96 = .ok (.iinc 3 1, 3) := by decide +kernel
theorem dX5_rested_99 : decode cX5_rested 99 = .ok (.goto (-75), 3) := by decide +kernel
theorem dX5_rested_102 : decode cX5_rested 102 = .ok (.aload_n 0, 1) := by decide +kernel
theorem dX5_rested_103 : decode cX5_rested 103 = .ok (.getfield 59, 3) := by decide +kernel
theorem dX5_rested_106 : decode cX5_rested 106 = .ok (.ifCond .le 7, 3) := by decide +kernel
theorem dX5_rested_109 : decode cX5_rested 109 = .ok (.iconst 0, 1) := by decide +kernel
theorem dX5_rested_110 : decode cX5_rested 110 = .ok (.goto 4, 3) := by decide +kernel
theorem dX5_rested_113 : decode cX5_rested 113 = .ok (.iload_n 2, 1) := by decide +kernel
theorem dX5_rested_114 : decode cX5_rested 114 = .ok (.ireturn, 1) := by decide +kernel
theorem dX5_restedAnew_0 : decode cX5_restedAnew 0 = .ok (.aload_n 0, 1) := by decide +kernel
theorem dX5_restedAnew_1 : decode cX5_restedAnew 1 = .ok (.iload_n 1, 1) := by decide +kernel
theorem dX5_restedAnew_2 : decode cX5_restedAnew 2 = .ok (.invokevirtual 140, 3) := by decide +kernel
theorem dX5_restedAnew_5 : decode cX5_restedAnew 5 = .ok (.ireturn, 1) := by decide +kernel
theorem dX5_bill_0 : decode cX5_bill 0 = .ok (.aload_n 0, 1) := by decide +kernel
theorem dX5_bill_1 : decode cX5_bill 1 = .ok (.aload_n 0, 1) := by decide +kernel
theorem dX5_bill_2 : decode cX5_bill 2 = .ok (.iload_n 1, 1) := by decide +kernel
theorem dX5_bill_3 : decode cX5_bill 3 = .ok (.invokevirtual 108, 3) := by decide +kernel
theorem dX5_bill_6 : decode cX5_bill 6 = .ok (.ifCond .eq 7, 3) := by decide +kernel
theorem dX5_bill_9 : decode cX5_bill 9 = .ok (.iconst 0, 1) := by decide +kernel
theorem dX5_bill_10 : decode cX5_bill 10 = .ok (.goto 4, 3) := by decide +kernel
theorem dX5_bill_13 : decode cX5_bill 13 = .ok (.iconst 1, 1) := by decide +kernel
theorem dX5_bill_14 : decode cX5_bill 14 = .ok (.putfield 59, 3) := by decide +kernel
theorem dX5_bill_17 : decode cX5_bill 17 = .ok (.aload_n 0, 1) := by decide +kernel
theorem dX5_bill_18 : decode cX5_bill 18 = .ok (.getfield 59, 3) := by decide +kernel
theorem dX5_bill_21 : decode cX5_bill 21 = .ok (.ifCond .le 7, 3) := by decide +kernel
theorem dX5_bill_24 : decode cX5_bill 24 = .ok (.iconst 0, 1) := by decide +kernel
theorem dX5_bill_25 : decode cX5_bill 25 = .ok (.goto 9, 3) := by decide +kernel
theorem dX5_bill_28 : decode cX5_bill 28 = .ok (.aload_n 0, 1) := by decide +kernel
theorem dX5_bill_29 : decode cX5_bill 29 = .ok (.getfield 32, 3) := by decide +kernel
theorem dX5_bill_32 : decode cX5_bill 32 = .ok (.iload_n 1, 1) := by decide +kernel
theorem dX5_bill_33 : decode cX5_bill 33 = .ok (.iaload, 1) := by decide +kernel
theorem dX5_bill_34 : decode cX5_bill 34 = .ok (.ireturn, 1) := by decide +kernel
theorem dX5_ofPilot_0 : decode cX5_ofPilot 0 = .ok (.aload_n 0, 1) := by decide +kernel
theorem dX5_ofPilot_1 : decode cX5_ofPilot 1 = .ok (.aload_n 0, 1) := by decide +kernel
theorem dX5_ofPilot_2 : decode cX5_ofPilot 2 = .ok (.iload_n 1, 1) := by decide +kernel
theorem dX5_ofPilot_3 : decode cX5_ofPilot 3 = .ok (.invokevirtual 114, 3) := by decide +kernel
theorem dX5_ofPilot_6 : decode cX5_ofPilot 6 = .ok (.ifCond .eq 16, 3) := by decide +kernel
theorem dX5_ofPilot_9 : decode cX5_ofPilot 9 = .ok (.iload_n 2, 1) := by decide +kernel
theorem dX5_ofPilot_10 : decode cX5_ofPilot 10 = .ok (.iconst 0, 1) := by decide +kernel
theorem dX5_ofPilot_11 : decode cX5_ofPilot 11 = .ok (.iconst 3, 1) := by decide +kernel
theorem dX5_ofPilot_12 : decode cX5_ofPilot 12 = .ok (.invokestatic 65, 3) := by decide +kernel
theorem dX5_ofPilot_15 : decode cX5_ofPilot 15 = .ok (.ifCond .eq 7, 3) := by decide +kernel
theorem dX5_ofPilot_18 : decode cX5_ofPilot 18 = .ok (.iconst 0, 1) := by decide +kernel
theorem dX5_ofPilot_19 : decode cX5_ofPilot 19 = .ok (.goto 4, 3) := by decide +kernel
theorem dX5_ofPilot_22 : decode cX5_ofPilot 22 = .ok (.iconst 1, 1) := by decide +kernel
theorem dX5_ofPilot_23 : decode cX5_ofPilot 23 = .ok (.putfield 59, 3) := by decide +kernel
theorem dX5_ofPilot_26 : decode cX5_ofPilot 26 = .ok (.iconst 0, 1) := by decide +kernel
theorem dX5_ofPilot_27 : decode cX5_ofPilot 27 = .ok (.istore_n 3, 1) := by decide +kernel
theorem dX5_ofPilot_28 : decode cX5_ofPilot 28 = .ok (.iconst 0, 1) := by decide +kernel
theorem dX5_ofPilot_29 : decode cX5_ofPilot 29 = .ok (.istore 4, 2) := by decide +kernel
theorem dX5_ofPilot_31 : decode cX5_ofPilot 31 = .ok (.iload 4, 2) := by decide +kernel
theorem dX5_ofPilot_33 : decode cX5_ofPilot 33 = .ok (.aload_n 0, 1) := by decide +kernel
theorem dX5_ofPilot_34 : decode cX5_ofPilot 34 = .ok (.getfield 71, 3) := by decide +kernel
theorem dX5_ofPilot_37 : decode cX5_ofPilot 37 = .ok (.if_icmp .ge 114, 3) := by decide +kernel
theorem dX5_ofPilot_40 : decode cX5_ofPilot 40 = .ok (.aload_n 0, 1) := by decide +kernel
theorem dX5_ofPilot_41 : decode cX5_ofPilot 41 = .ok (.getfield 59, 3) := by decide +kernel
theorem dX5_ofPilot_44 : decode cX5_ofPilot 44 = .ok (.ifCond .ne 107, 3) := by decide +kernel
theorem dX5_ofPilot_47 : decode cX5_ofPilot 47 = .ok (.aload_n 0, 1) := by decide +kernel
theorem dX5_ofPilot_48 : decode cX5_ofPilot 48 = .ok (.getfield 50, 3) := by decide +kernel
theorem dX5_ofPilot_51 : decode cX5_ofPilot 51 = .ok (.iload 4, 2) := by decide +kernel
theorem dX5_ofPilot_53 : decode cX5_ofPilot 53 = .ok (.iaload, 1) := by decide +kernel
theorem dX5_ofPilot_54 : decode cX5_ofPilot 54 = .ok (.iload_n 1, 1) := by decide +kernel
theorem dX5_ofPilot_55 : decode cX5_ofPilot 55 = .ok (.if_icmp .ne 27, 3) := by decide +kernel
theorem dX5_ofPilot_58 : decode cX5_ofPilot 58 = .ok (.aload_n 0, 1) := by decide +kernel
theorem dX5_ofPilot_59 : decode cX5_ofPilot 59 = .ok (.getfield 53, 3) := by decide +kernel
theorem dX5_ofPilot_62 : decode cX5_ofPilot 62 = .ok (.iload 4, 2) := by decide +kernel
theorem dX5_ofPilot_64 : decode cX5_ofPilot 64 = .ok (.iaload, 1) := by decide +kernel
theorem dX5_ofPilot_65 : decode cX5_ofPilot 65 = .ok (.iload_n 2, 1) := by decide +kernel
theorem dX5_ofPilot_66 : decode cX5_ofPilot 66 = .ok (.iconst 2, 1) := by decide +kernel
theorem dX5_ofPilot_67 : decode cX5_ofPilot 67 = .ok (.if_icmp .ne 7, 3) := by decide +kernel
theorem dX5_ofPilot_70 : decode cX5_ofPilot 70 = .ok (.iconst 3, 1) := by decide +kernel
theorem dX5_ofPilot_71 : decode cX5_ofPilot 71 = .ok (.goto 4, 3) := by decide +kernel
theorem dX5_ofPilot_74 : decode cX5_ofPilot 74 = .ok (.iconst 4, 1) := by decide +kernel
theorem dX5_ofPilot_75 : decode cX5_ofPilot 75 = .ok (.if_icmp .ne 7, 3) := by decide +kernel
theorem dX5_ofPilot_78 : decode cX5_ofPilot 78 = .ok (.iconst 1, 1) := by decide +kernel
theorem dX5_ofPilot_79 : decode cX5_ofPilot 79 = .ok (.goto 4, 3) := by decide +kernel
theorem dX5_ofPilot_82 : decode cX5_ofPilot 82 = .ok (.iconst 0, 1) := by decide +kernel
theorem dX5_ofPilot_83 : decode cX5_ofPilot 83 = .ok (.istore 5, 2) := by decide +kernel
theorem dX5_ofPilot_85 : decode cX5_ofPilot 85 = .ok (.iload_n 3, 1) := by decide +kernel
theorem dX5_ofPilot_86 : decode cX5_ofPilot 86 = .ok (.iload 5, 2) := by decide +kernel
theorem dX5_ofPilot_88 : decode cX5_ofPilot 88 = .ok (.ifCond .ne 7, 3) := by decide +kernel
theorem dX5_ofPilot_91 : decode cX5_ofPilot 91 = .ok (.iconst 0, 1) := by decide +kernel
theorem dX5_ofPilot_92 : decode cX5_ofPilot 92 = .ok (.goto 51, 3) := by decide +kernel
theorem dX5_ofPilot_95 : decode cX5_ofPilot 95 = .ok (.iload_n 2, 1) := by decide +kernel
theorem dX5_ofPilot_96 : decode cX5_ofPilot 96 = .ok (.iconst 1, 1) := by decide +kernel
theorem dX5_ofPilot_97 : decode cX5_ofPilot 97 = .ok (.if_icmp .ne 18, 3) := by decide +kernel
theorem dX5_ofPilot_100 : decode cX5_ofPilot 100 = .ok (.aload_n 0, 1) := by decide +kernel
theorem dX5_ofPilot_101 : decode cX5_ofPilot 101 = .ok (.getfield 26, 3) := by decide +kernel
theorem dX5_ofPilot_104 : decode cX5_ofPilot 104 = .ok (.aload_n 0, 1) := by decide +kernel
theorem dX5_ofPilot_105 : decode cX5_ofPilot 105 = .ok (.getfield 41, 3) := by decide +kernel
theorem dX5_ofPilot_108 : decode cX5_ofPilot 108 = .ok (.iload 4, 2) := by decide +kernel
theorem dX5_ofPilot_110 : decode cX5_ofPilot 110 = .ok (.iaload, 1) := by decide +kernel
theorem dX5_ofPilot_111 : decode cX5_ofPilot 111 = .ok (.iaload, 1) := by decide +kernel
theorem dX5_ofPilot_112 : decode cX5_ofPilot 112 = .ok (.goto 31, 3) := by decide +kernel
theorem dX5_ofPilot_115 : decode cX5_ofPilot 115 = .ok (.iload_n 2, 1) := by decide +kernel
theorem dX5_ofPilot_116 : decode cX5_ofPilot 116 = .ok (.iconst 3, 1) := by decide +kernel
theorem dX5_ofPilot_117 : decode cX5_ofPilot 117 = .ok (.if_icmp .ne 25, 3) := by decide +kernel
theorem dX5_ofPilot_120 : decode cX5_ofPilot 120 = .ok (.aload_n 0, 1) := by decide +kernel
theorem dX5_ofPilot_121 : decode cX5_ofPilot 121 = .ok (.getfield 26, 3) := by decide +kernel
theorem dX5_ofPilot_124 : decode cX5_ofPilot 124 = .ok (.aload_n 0, 1) := by decide +kernel
theorem dX5_ofPilot_125 : decode cX5_ofPilot 125 = .ok (.getfield 41, 3) := by decide +kernel
theorem dX5_ofPilot_128 : decode cX5_ofPilot 128 = .ok (.iload 4, 2) := by decide +kernel
theorem dX5_ofPilot_130 : decode cX5_ofPilot 130 = .ok (.iaload, 1) := by decide +kernel
theorem dX5_ofPilot_131 : decode cX5_ofPilot 131 = .ok (.iaload, 1) := by decide +kernel
theorem dX5_ofPilot_132 : decode cX5_ofPilot 132 = .ok (.aload_n 0, 1) := by decide +kernel
theorem dX5_ofPilot_133 : decode cX5_ofPilot 133 = .ok (.getfield 38, 3) := by decide +kernel
theorem dX5_ofPilot_136 : decode cX5_ofPilot 136 = .ok (.iload_n 1, 1) := by decide +kernel
theorem dX5_ofPilot_137 : decode cX5_ofPilot 137 = .ok (.iaload, 1) := by decide +kernel
theorem dX5_ofPilot_138 : decode cX5_ofPilot 138 = .ok (.imul, 1) := by decide +kernel
theorem dX5_ofPilot_139 : decode cX5_ofPilot 139 = .ok (.goto 4, 3) := by decide +kernel
theorem dX5_ofPilot_142 : decode cX5_ofPilot 142 = .ok (.iconst 1, 1) := by decide +kernel
theorem dX5_ofPilot_143 : decode cX5_ofPilot 143 = .ok (.iadd, 1) := by decide +kernel
theorem dX5_ofPilot_144 : decode cX5_ofPilot 144 = .ok (.istore_n 3, 1) := by decide +kernel
theorem dX5_ofPilot_145 : decode cX5_ofPilot 145 = .ok (.iinc 4 1, 3) := by decide +kernel
theorem dX5_ofPilot_148 : decode cX5_ofPilot 148 = .ok (.goto (-117), 3) := by decide +kernel
theorem dX5_ofPilot_151 : decode cX5_ofPilot 151 = .ok (.iload_n 2, 1) := by decide +kernel
theorem dX5_ofPilot_152 : decode cX5_ofPilot 152 = .ok (.iconst 2, 1) := by decide +kernel
theorem dX5_ofPilot_153 : decode cX5_ofPilot 153 = .ok (.if_icmp .ne 11, 3) := by decide +kernel
theorem dX5_ofPilot_156 : decode cX5_ofPilot 156 = .ok (.iload_n 3, 1) := by decide +kernel
theorem dX5_ofPilot_157 : decode cX5_ofPilot 157 = .ok (.ifCond .le 7, 3) := by decide +kernel
theorem dX5_ofPilot_160 : decode cX5_ofPilot 160 = .ok (.iconst 1, 1) := by decide +kernel
theorem dX5_ofPilot_161 : decode cX5_ofPilot 161 = .ok (.goto 4, 3) := by decide +kernel
theorem dX5_ofPilot_164 : decode cX5_ofPilot 164 = .ok (.iload_n 3, 1) := by decide +kernel
theorem dX5_ofPilot_165 : decode cX5_ofPilot 165 = .ok (.ireturn, 1) := by decide +kernel
theorem dX5_bills_0 : decode cX5_bills 0 = .ok (.iconst 0, 1) := by decide +kernel
theorem dX5_bills_1 : decode cX5_bills 1 = .ok (.istore_n 1, 1) := by decide +kernel
theorem dX5_bills_2 : decode cX5_bills 2 = .ok (.iconst 0, 1) := by decide +kernel
theorem dX5_bills_3 : decode cX5_bills 3 = .ok (.istore_n 2, 1) := by decide +kernel
theorem dX5_bills_4 : decode cX5_bills 4 = .ok (.iload_n 2, 1) := by decide +kernel
theorem dX5_bills_5 : decode cX5_bills 5 = .ok (.aload_n 0, 1) := by decide +kernel
theorem dX5_bills_6 : decode cX5_bills 6 = .ok (.getfield 62, 3) := by decide +kernel
theorem dX5_bills_9 : decode cX5_bills 9 = .ok (.if_icmp .ge 18, 3) := by decide +kernel
theorem dX5_bills_12 : decode cX5_bills 12 = .ok (.iload_n 1, 1) := by decide +kernel
theorem dX5_bills_13 : decode cX5_bills 13 = .ok (.aload_n 0, 1) := by decide +kernel
theorem dX5_bills_14 : decode cX5_bills 14 = .ok (.getfield 32, 3) := by decide +kernel
theorem dX5_bills_17 : decode cX5_bills 17 = .ok (.iload_n 2, 1) := by decide +kernel
theorem dX5_bills_18 : decode cX5_bills 18 = .ok (.iaload, 1) := by decide +kernel
theorem dX5_bills_19 : decode cX5_bills 19 = .ok (.iadd, 1) := by decide +kernel
theorem dX5_bills_20 : decode cX5_bills 20 = .ok (.istore_n 1, 1) := by decide +kernel
theorem dX5_bills_21 : decode cX5_bills 21 = .ok (.iinc 2 1, 3) := by decide +kernel
theorem dX5_bills_24 : decode cX5_bills 24 = .ok (.goto (-20), 3) := by decide +kernel
theorem dX5_bills_27 : decode cX5_bills 27 = .ok (.iload_n 1, 1) := by decide +kernel
theorem dX5_bills_28 : decode cX5_bills 28 = .ok (.ireturn, 1) := by decide +kernel
theorem dX5_count_0 : decode cX5_count 0 = .ok (.aload_n 0, 1) := by decide +kernel
theorem dX5_count_1 : decode cX5_count 1 = .ok (.iload_n 1, 1) := by decide +kernel
theorem dX5_count_2 : decode cX5_count 2 = .ok (.iconst 0, 1) := by decide +kernel
theorem dX5_count_3 : decode cX5_count 3 = .ok (.bipush 7, 2) := by decide +kernel
theorem dX5_count_5 : decode cX5_count 5 = .ok (.invokestatic 65, 3) := by decide +kernel
theorem dX5_count_8 : decode cX5_count 8 = .ok (.ifCond .eq 7, 3) := by decide +kernel
theorem dX5_count_11 : decode cX5_count 11 = .ok (.iconst 0, 1) := by decide +kernel
theorem dX5_count_12 : decode cX5_count 12 = .ok (.goto 4, 3) := by decide +kernel
theorem dX5_count_15 : decode cX5_count 15 = .ok (.iconst 1, 1) := by decide +kernel
theorem dX5_count_16 : decode cX5_count 16 = .ok (.putfield 59, 3) := by decide +kernel
theorem dX5_count_19 : decode cX5_count 19 = .ok (.aload_n 0, 1) := by decide +kernel
theorem dX5_count_20 : decode cX5_count 20 = .ok (.getfield 59, 3) := by decide +kernel
theorem dX5_count_23 : decode cX5_count 23 = .ok (.ifCond .le 5, 3) := by decide +kernel
theorem dX5_count_26 : decode cX5_count 26 = .ok (.iconst 0, 1) := by decide +kernel
theorem dX5_count_27 : decode cX5_count 27 = .ok (.ireturn, 1) := by decide +kernel
theorem dX5_count_28 : decode cX5_count 28 = .ok (.iload_n 1, 1) := by decide +kernel
theorem dX5_count_29 : decode cX5_count 29 = .ok (.iconst 5, 1) := by decide +kernel
theorem dX5_count_30 : decode cX5_count 30 = .ok (.if_icmp .le 21, 3) := by decide +kernel
theorem dX5_count_33 : decode cX5_count 33 = .ok (.iload_n 1, 1) := by decide +kernel
theorem dX5_count_34 : decode cX5_count 34 = .ok (.bipush 6, 2) := by decide +kernel
theorem dX5_count_36 : decode cX5_count 36 = .ok (.if_icmp .ne 10, 3) := by decide +kernel
theorem dX5_count_39 : decode cX5_count 39 = .ok (.aload_n 0, 1) := by decide +kernel
theorem dX5_count_40 : decode cX5_count 40 = .ok (.invokevirtual 143, 3) := by decide +kernel
theorem dX5_count_43 : decode cX5_count 43 = .ok (.goto 7, 3) := by decide +kernel
theorem dX5_count_46 : decode cX5_count 46 = .ok (.aload_n 0, 1) := by decide +kernel
theorem dX5_count_47 : decode cX5_count 47 = .ok (.getfield 127, 3) := by decide +kernel
theorem dX5_count_50 : decode cX5_count 50 = .ok (.ireturn, 1) := by decide +kernel
theorem dX5_count_51 : decode cX5_count 51 = .ok (.iconst 0, 1) := by decide +kernel
theorem dX5_count_52 : decode cX5_count 52 = .ok (.istore_n 2, 1) := by decide +kernel
theorem dX5_count_53 : decode cX5_count 53 = .ok (.iconst 0, 1) := by decide +kernel
theorem dX5_count_54 : decode cX5_count 54 = .ok (.istore_n 3, 1) := by decide +kernel
theorem dX5_count_55 : decode cX5_count 55 = .ok (.iload_n 3, 1) := by decide +kernel
theorem dX5_count_56 : decode cX5_count 56 = .ok (.aload_n 0, 1) := by decide +kernel
theorem dX5_count_57 : decode cX5_count 57 = .ok (.getfield 71, 3) := by decide +kernel
theorem dX5_count_60 : decode cX5_count 60 = .ok (.if_icmp .ge 60, 3) := by decide +kernel
theorem dX5_count_63 : decode cX5_count 63 = .ok (.iload_n 2, 1) := by decide +kernel
theorem dX5_count_64 : decode cX5_count 64 = .ok (.iload_n 1, 1) := by decide +kernel
theorem dX5_count_65 : decode cX5_count 65 = .ok (.iconst 5, 1) := by decide +kernel
theorem dX5_count_66 : decode cX5_count 66 = .ok (.if_icmp .ne 31, 3) := by decide +kernel
theorem dX5_count_69 : decode cX5_count 69 = .ok (.aload_n 0, 1) := by decide +kernel
theorem dX5_count_70 : decode cX5_count 70 = .ok (.getfield 53, 3) := by decide +kernel
theorem dX5_count_73 : decode cX5_count 73 = .ok (.iload_n 3, 1) := by decide +kernel
theorem dX5_count_74 : decode cX5_count 74 = .ok (.iaload, 1) := by decide +kernel
theorem dX5_count_75 : decode cX5_count 75 = .ok (.iconst 3, 1) := by decide +kernel
theorem dX5_count_76 : decode cX5_count 76 = .ok (.if_icmp .ne 17, 3) := by decide +kernel
theorem dX5_count_79 : decode cX5_count 79 = .ok (.aload_n 0, 1) := by decide +kernel
theorem dX5_count_80 : decode cX5_count 80 = .ok (.getfield 29, 3) := by decide +kernel
theorem dX5_count_83 : decode cX5_count 83 = .ok (.aload_n 0, 1) := by decide +kernel
theorem dX5_count_84 : decode cX5_count 84 = .ok (.getfield 41, 3) := by decide +kernel
theorem dX5_count_87 : decode cX5_count 87 = .ok (.iload_n 3, 1) := by decide +kernel
theorem dX5_count_88 : decode cX5_count 88 = .ok (.iaload, 1) := by decide +kernel
theorem dX5_count_89 : decode cX5_count 89 = .ok (.iaload, 1) := by decide +kernel
theorem dX5_count_90 : decode cX5_count 90 = .ok (.goto 22, 3) := by decide +kernel
theorem dX5_count_93 : decode cX5_count 93 = .ok (.iconst 0, 1) := by decide +kernel
theorem dX5_count_94 : decode cX5_count 94 = .ok (.goto 18, 3) := by decide +kernel
theorem dX5_count_97 : decode cX5_count 97 = .ok (.aload_n 0, 1) := by decide +kernel
theorem dX5_count_98 : decode cX5_count 98 = .ok (.getfield 53, 3) := by decide +kernel
theorem dX5_count_101 : decode cX5_count 101 = .ok (.iload_n 3, 1) := by decide +kernel
theorem dX5_count_102 : decode cX5_count 102 = .ok (.iaload, 1) := by decide +kernel
theorem dX5_count_103 : decode cX5_count 103 = .ok (.iload_n 1, 1) := by decide +kernel
theorem dX5_count_104 : decode cX5_count 104 = .ok (.if_icmp .ne 7, 3) := by decide +kernel
theorem dX5_count_107 : decode cX5_count 107 = .ok (.iconst 1, 1) := by decide +kernel
theorem dX5_count_108 : decode cX5_count 108 = .ok (.goto 4, 3) := by decide +kernel
theorem dX5_count_111 : decode cX5_count 111 = .ok (.iconst 0, 1) := by decide +kernel
theorem dX5_count_112 : decode cX5_count 112 = .ok (.iadd, 1) := by decide +kernel
theorem dX5_count_113 : decode cX5_count 113 = .ok (.istore_n 2, 1) := by decide +kernel
theorem dX5_count_114 : decode cX5_count 114 = .ok (.iinc 3 1, 3) := by decide +kernel
theorem dX5_count_117 : decode cX5_count 117 = .ok (.goto (-62), 3) := by decide +kernel
theorem dX5_count_120 : decode cX5_count 120 = .ok (.iload_n 2, 1) := by decide +kernel
theorem dX5_count_121 : decode cX5_count 121 = .ok (.ireturn, 1) := by decide +kernel
theorem dJ9_abs_0f7a4_0 : decode cJ9_abs_0f7a4 0 = .ok (.iload_n 0, 1) := by decide +kernel
theorem dJ9_abs_0f7a4_1 : decode cJ9_abs_0f7a4 1 = .ok (.ifCond .ge 8, 3) := by decide +kernel
theorem dJ9_abs_0f7a4_4 : decode cJ9_abs_0f7a4 4 = .ok (.iload_n 0, 1) := by decide +kernel
theorem dJ9_abs_0f7a4_5 : decode cJ9_abs_0f7a4 5 = .ok (.ineg, 1) := by decide +kernel
theorem dJ9_abs_0f7a4_6 : decode cJ9_abs_0f7a4 6 = .ok (.goto 4, 3) := by decide +kernel
theorem dJ9_abs_0f7a4_9 : decode cJ9_abs_0f7a4 9 = .ok (.iload_n 0, 1) := by decide +kernel
theorem dJ9_abs_0f7a4_10 : decode cJ9_abs_0f7a4 10 = .ok (.ireturn, 1) := by decide +kernel
theorem dJ9_max_7cf53_0 : decode cJ9_max_7cf53 0 = .ok (.iload_n 0, 1) := by decide +kernel
theorem dJ9_max_7cf53_1 : decode cJ9_max_7cf53 1 = .ok (.iload_n 1, 1) := by decide +kernel
theorem dJ9_max_7cf53_2 : decode cJ9_max_7cf53 2 = .ok (.if_icmp .lt 7, 3) := by decide +kernel
theorem dJ9_max_7cf53_5 : decode cJ9_max_7cf53 5 = .ok (.iload_n 0, 1) := by decide +kernel
theorem dJ9_max_7cf53_6 : decode cJ9_max_7cf53 6 = .ok (.goto 4, 3) := by decide +kernel
theorem dJ9_max_7cf53_9 : decode cJ9_max_7cf53 9 = .ok (.iload_n 1, 1) := by decide +kernel
theorem dJ9_max_7cf53_10 : decode cJ9_max_7cf53 10 = .ok (.ireturn, 1) := by decide +kernel
theorem dJ9_min_7cf53_0 : decode cJ9_min_7cf53 0 = .ok (.iload_n 0, 1) := by decide +kernel
theorem dJ9_min_7cf53_1 : decode cJ9_min_7cf53 1 = .ok (.iload_n 1, 1) := by decide +kernel
theorem dJ9_min_7cf53_2 : decode cJ9_min_7cf53 2 = .ok (.if_icmp .gt 7, 3) := by decide +kernel
theorem dJ9_min_7cf53_5 : decode cJ9_min_7cf53 5 = .ok (.iload_n 0, 1) := by decide +kernel
theorem dJ9_min_7cf53_6 : decode cJ9_min_7cf53 6 = .ok (.goto 4, 3) := by decide +kernel
theorem dJ9_min_7cf53_9 : decode cJ9_min_7cf53 9 = .ok (.iload_n 1, 1) := by decide +kernel
theorem dJ9_min_7cf53_10 : decode cJ9_min_7cf53 10 = .ok (.ireturn, 1) := by decide +kernel
theorem dJxa1e45_init_da8c8_0 : decode cJxa1e45_init_da8c8 0 = .ok (.aload_n 0, 1) := by decide +kernel
theorem dJxa1e45_init_da8c8_1 : decode cJxa1e45_init_da8c8 1 = .ok (.invokespecial 1, 3) := by decide +kernel
theorem dJxa1e45_init_da8c8_4 : decode cJxa1e45_init_da8c8 4 = .ok (.return_, 1) := by decide +kernel
theorem dJxc12de_init_da8c8_0 : decode cJxc12de_init_da8c8 0 = .ok (.aload_n 0, 1) := by decide +kernel
theorem dJxc12de_init_da8c8_1 : decode cJxc12de_init_da8c8 1 = .ok (.invokespecial 1, 3) := by decide +kernel
theorem dJxc12de_init_da8c8_4 : decode cJxc12de_init_da8c8 4 = .ok (.aload_n 0, 1) := by decide +kernel
theorem dJxc12de_init_da8c8_5 : decode cJxc12de_init_da8c8 5 = .ok (.iconst 0, 1) := by decide +kernel
theorem dJxc12de_init_da8c8_6 : decode cJxc12de_init_da8c8 6 = .ok (.putfield 7, 3) := by decide +kernel
theorem dJxc12de_init_da8c8_9 : decode cJxc12de_init_da8c8 9 = .ok (.return_, 1) := by decide +kernel
theorem dJx4a65c_init_da8c8_0 : decode cJx4a65c_init_da8c8 0 = .ok (.aload_n 0, 1) := by decide +kernel
theorem dJx4a65c_init_da8c8_1 : decode cJx4a65c_init_da8c8 1 = .ok (.invokespecial 1, 3) := by decide +kernel
theorem dJx4a65c_init_da8c8_4 : decode cJx4a65c_init_da8c8 4 = .ok (.aload_n 0, 1) := by decide +kernel
theorem dJx4a65c_init_da8c8_5 : decode cJx4a65c_init_da8c8 5 = .ok (.getstatic 39, 3) := by decide +kernel
theorem dJx4a65c_init_da8c8_8 : decode cJx4a65c_init_da8c8 8 = .ok (.putfield 9, 3) := by decide +kernel
theorem dJx4a65c_init_da8c8_11 : decode cJx4a65c_init_da8c8 11 = .ok (.return_, 1) := by decide +kernel
theorem dJx4a65c_grow_92f84_0 : decode cJx4a65c_grow_92f84 0 = .ok (.aload_n 0, 1) := by decide +kernel
theorem dJx4a65c_grow_92f84_1 : decode cJx4a65c_grow_92f84 1 = .ok (.getfield 9, 3) := by decide +kernel
theorem dJx4a65c_grow_92f84_4 : decode cJx4a65c_grow_92f84 4 = .ok (.arraylength, 1) := by decide +kernel
theorem dJx4a65c_grow_92f84_5 : decode cJx4a65c_grow_92f84 5 = .ok (.istore_n 2, 1) := by decide +kernel
theorem dJx4a65c_grow_92f84_6 : decode cJx4a65c_grow_92f84 6 = .ok (.iload_n 2, 1) := by decide +kernel
theorem dJx4a65c_grow_92f84_7 : decode cJx4a65c_grow_92f84 7 = .ok (.ifCond .gt 13, 3) := by decide +kernel
theorem dJx4a65c_grow_92f84_10 : decode cJx4a65c_grow_92f84 10 = .ok (.aload_n 0, 1) := by decide +kernel
theorem dJx4a65c_grow_92f84_11 : decode cJx4a65c_grow_92f84 11 = .ok (.getfield 9, 3) := by decide +kernel
theorem dJx4a65c_grow_92f84_14 : decode cJx4a65c_grow_92f84 14 = .ok (.getstatic 39, 3) := by decide +kernel
theorem dJx4a65c_grow_92f84_17 : decode cJx4a65c_grow_92f84 17 = .ok (.if_acmp .eq 28, 3) := by decide +kernel
theorem dJx4a65c_grow_92f84_20 : decode cJx4a65c_grow_92f84 20 = .ok (.iload_n 2, 1) := by decide +kernel
theorem dJx4a65c_grow_92f84_21 : decode cJx4a65c_grow_92f84 21 = .ok (.iload_n 1, 1) := by decide +kernel
theorem dJx4a65c_grow_92f84_22 : decode cJx4a65c_grow_92f84 22 = .ok (.iload_n 2, 1) := by decide +kernel
theorem dJx4a65c_grow_92f84_23 : decode cJx4a65c_grow_92f84 23 = .ok (.isub, 1) := by decide +kernel
theorem dJx4a65c_grow_92f84_24 : decode cJx4a65c_grow_92f84 24 = .ok (.iload_n 2, 1) := by decide +kernel
theorem dJx4a65c_grow_92f84_25 : decode cJx4a65c_grow_92f84 25 = .ok (.iconst 1, 1) := by decide +kernel
theorem dJx4a65c_grow_92f84_26 : decode cJx4a65c_grow_92f84 26 = .ok (.ishr, 1) := by decide +kernel
theorem dJx4a65c_grow_92f84_27 : decode cJx4a65c_grow_92f84 27 = .ok (.invokestatic 73, 3) := by decide +kernel
theorem dJx4a65c_grow_92f84_30 : decode cJx4a65c_grow_92f84 30 = .ok (.istore_n 3, 1) := by decide +kernel
theorem dJx4a65c_grow_92f84_31 : decode cJx4a65c_grow_92f84 31 = .ok (.aload_n 0, 1) := by decide +kernel
theorem dJx4a65c_grow_92f84_32 : decode cJx4a65c_grow_92f84 32 = .ok (.aload_n 0, 1) := by decide +kernel
theorem dJx4a65c_grow_92f84_33 : decode cJx4a65c_grow_92f84 33 = .ok (.getfield 9, 3) := by decide +kernel
theorem dJx4a65c_grow_92f84_36 : decode cJx4a65c_grow_92f84 36 = .ok (.iload_n 3, 1) := by decide +kernel
theorem dJx4a65c_grow_92f84_37 : decode cJx4a65c_grow_92f84 37 = .ok (.invokestatic 66, 3) := by decide +kernel
theorem dJx4a65c_grow_92f84_40 : decode cJx4a65c_grow_92f84 40 = .ok (.dup_x1, 1) := by decide +kernel
theorem dJx4a65c_grow_92f84_41 : decode cJx4a65c_grow_92f84 41 = .ok (.putfield 9, 3) := by decide +kernel
theorem dJx4a65c_grow_92f84_44 : decode cJx4a65c_grow_92f84 44 = .ok (.areturn, 1) := by decide +kernel
theorem dJx4a65c_grow_92f84_45 : decode cJx4a65c_grow_92f84 45 = .ok (.aload_n 0, 1) := by decide +kernel
theorem dJx4a65c_grow_92f84_46 : decode cJx4a65c_grow_92f84 46 = .ok (.bipush 10, 2) := by decide +kernel
theorem dJx4a65c_grow_92f84_48 : decode cJx4a65c_grow_92f84 48 = .ok (.iload_n 1, 1) := by decide +kernel
theorem dJx4a65c_grow_92f84_49 : decode cJx4a65c_grow_92f84 49 = .ok (.invokestatic 79, 3) := by decide +kernel
theorem dJx4a65c_grow_92f84_52 : decode cJx4a65c_grow_92f84 52 = .ok (.anewarray 7, 3) := by decide +kernel
theorem dJx4a65c_grow_92f84_55 : decode cJx4a65c_grow_92f84 55 = .ok (.dup_x1, 1) := by decide +kernel
theorem dJx4a65c_grow_92f84_56 : decode cJx4a65c_grow_92f84 56 = .ok (.putfield 9, 3) := by decide +kernel
theorem dJx4a65c_grow_92f84_59 : decode cJx4a65c_grow_92f84 59 = .ok (.areturn, 1) := by decide +kernel
theorem dJx4a65c_grow_d5877_0 : decode cJx4a65c_grow_d5877 0 = .ok (.aload_n 0, 1) := by decide +kernel
theorem dJx4a65c_grow_d5877_1 : decode cJx4a65c_grow_d5877 1 = .ok (.aload_n 0, 1) := by decide +kernel
theorem dJx4a65c_grow_d5877_2 : decode cJx4a65c_grow_d5877 2 = .ok (.getfield 48, 3) := by decide +kernel
theorem dJx4a65c_grow_d5877_5 : decode cJx4a65c_grow_d5877 5 = .ok (.iconst 1, 1) := by decide +kernel
theorem dJx4a65c_grow_d5877_6 : decode cJx4a65c_grow_d5877 6 = .ok (.iadd, 1) := by decide +kernel
theorem dJx4a65c_grow_d5877_7 : decode cJx4a65c_grow_d5877 7 = .ok (.invokevirtual 69, 3) := by decide +kernel
theorem dJx4a65c_grow_d5877_10 : decode cJx4a65c_grow_d5877 10 = .ok (.areturn, 1) := by decide +kernel
theorem dJx4a65c_size_8abf5_0 : decode cJx4a65c_size_8abf5 0 = .ok (.aload_n 0, 1) := by decide +kernel
theorem dJx4a65c_size_8abf5_1 : decode cJx4a65c_size_8abf5 1 = .ok (.getfield 48, 3) := by decide +kernel
theorem dJx4a65c_size_8abf5_4 : decode cJx4a65c_size_8abf5 4 = .ok (.ireturn, 1) := by decide +kernel
theorem dJx4a65c_elementData_915e3_0 : decode cJx4a65c_elementData_915e3 0 = .ok (.aload_n 0, 1) := by decide +kernel
theorem dJx4a65c_elementData_915e3_1 : decode cJx4a65c_elementData_915e3 1 = .ok (.getfield 9, 3) := by decide +kernel
theorem dJx4a65c_elementData_915e3_4 : decode cJx4a65c_elementData_915e3 4 = .ok (.iload_n 1, 1) := by decide +kernel
theorem dJx4a65c_elementData_915e3_5 : decode cJx4a65c_elementData_915e3 5 = .ok (.aaload, 1) := by decide +kernel
theorem dJx4a65c_elementData_915e3_6 : decode cJx4a65c_elementData_915e3 6 = .ok (.areturn, 1) := by decide +kernel
theorem dJx4a65c_get_915e3_0 : decode cJx4a65c_get_915e3 0 = .ok (.iload_n 1, 1) := by decide +kernel
theorem dJx4a65c_get_915e3_1 : decode cJx4a65c_get_915e3 1 = .ok (.aload_n 0, 1) := by decide +kernel
theorem dJx4a65c_get_915e3_2 : decode cJx4a65c_get_915e3 2 = .ok (.getfield 48, 3) := by decide +kernel
theorem dJx4a65c_get_915e3_5 : decode cJx4a65c_get_915e3 5 = .ok (.invokestatic 118, 3) := by decide +kernel
theorem dJx4a65c_get_915e3_8 : decode cJx4a65c_get_915e3 8 = .ok (.pop, 1) := by decide +kernel
theorem dJx4a65c_get_915e3_9 : decode cJx4a65c_get_915e3 9 = .ok (.aload_n 0, 1) := by decide +kernel
theorem dJx4a65c_get_915e3_10 : decode cJx4a65c_get_915e3 10 = .ok (.iload_n 1, 1) := by decide +kernel
theorem dJx4a65c_get_915e3_11 : decode cJx4a65c_get_915e3 11 = .ok (.invokevirtual 123, 3) := by decide +kernel
theorem dJx4a65c_get_915e3_14 : decode cJx4a65c_get_915e3 14 = .ok (.areturn, 1) := by decide +kernel
theorem dJx4a65c_add_72be8_0 : decode cJx4a65c_add_72be8 0 = .ok (.iload_n 3, 1) := by decide +kernel
theorem dJx4a65c_add_72be8_1 : decode cJx4a65c_add_72be8 1 = .ok (.aload_n 2, 1) := by decide +kernel
theorem dJx4a65c_add_72be8_2 : decode cJx4a65c_add_72be8 2 = .ok (.arraylength, 1) := by decide +kernel
theorem dJx4a65c_add_72be8_3 : decode cJx4a65c_add_72be8 3 = .ok (.if_icmp .ne 8, 3) := by decide +kernel
theorem dJx4a65c_add_72be8_6 : decode cJx4a65c_add_72be8 6 = .ok (.aload_n 0, 1) := by decide +kernel
theorem dJx4a65c_add_72be8_7 : decode cJx4a65c_add_72be8 7 = .ok (.invokevirtual 129, 3) := by decide +kernel
theorem dJx4a65c_add_72be8_10 : decode cJx4a65c_add_72be8 10 = .ok (.astore_n 2, 1) := by decide +kernel
theorem dJx4a65c_add_72be8_11 : decode cJx4a65c_add_72be8 11 = .ok (.aload_n 2, 1) := by decide +kernel
theorem dJx4a65c_add_72be8_12 : decode cJx4a65c_add_72be8 12 = .ok (.iload_n 3, 1) := by decide +kernel
theorem dJx4a65c_add_72be8_13 : decode cJx4a65c_add_72be8 13 = .ok (.aload_n 1, 1) := by decide +kernel
theorem dJx4a65c_add_72be8_14 : decode cJx4a65c_add_72be8 14 = .ok (.aastore, 1) := by decide +kernel
theorem dJx4a65c_add_72be8_15 : decode cJx4a65c_add_72be8 15 = .ok (.aload_n 0, 1) := by decide +kernel
theorem dJx4a65c_add_72be8_16 : decode cJx4a65c_add_72be8 16 = .ok (.iload_n 3, 1) := by decide +kernel
theorem dJx4a65c_add_72be8_17 : decode cJx4a65c_add_72be8 17 = .ok (.iconst 1, 1) := by decide +kernel
theorem dJx4a65c_add_72be8_18 : decode cJx4a65c_add_72be8 18 = .ok (.iadd, 1) := by decide +kernel
theorem dJx4a65c_add_72be8_19 : decode cJx4a65c_add_72be8 19 = .ok (.putfield 48, 3) := by decide +kernel
theorem dJx4a65c_add_72be8_22 : decode cJx4a65c_add_72be8 22 = .ok (.return_, 1) := by decide +kernel
theorem dJx4a65c_add_9ea2d_0 : decode cJx4a65c_add_9ea2d 0 = .ok (.aload_n 0, 1) := by decide +kernel
theorem dJx4a65c_add_9ea2d_1 : decode cJx4a65c_add_9ea2d 1 = .ok (.dup, 1) := by decide +kernel
theorem dJx4a65c_add_9ea2d_2 : decode cJx4a65c_add_9ea2d 2 = .ok (.getfield 63, 3) := by decide +kernel
theorem dJx4a65c_add_9ea2d_5 : decode cJx4a65c_add_9ea2d 5 = .ok (.iconst 1, 1) := by decide +kernel
theorem dJx4a65c_add_9ea2d_6 : decode cJx4a65c_add_9ea2d 6 = .ok (.iadd, 1) := by decide +kernel
theorem dJx4a65c_add_9ea2d_7 : decode cJx4a65c_add_9ea2d 7 = .ok (.putfield 63, 3) := by decide +kernel
theorem dJx4a65c_add_9ea2d_10 : decode cJx4a65c_add_9ea2d 10 = .ok (.aload_n 0, 1) := by decide +kernel
theorem dJx4a65c_add_9ea2d_11 : decode cJx4a65c_add_9ea2d 11 = .ok (.aload_n 1, 1) := by decide +kernel
theorem dJx4a65c_add_9ea2d_12 : decode cJx4a65c_add_9ea2d 12 = .ok (.aload_n 0, 1) := by decide +kernel
theorem dJx4a65c_add_9ea2d_13 : decode cJx4a65c_add_9ea2d 13 = .ok (.getfield 9, 3) := by decide +kernel
theorem dJx4a65c_add_9ea2d_16 : decode cJx4a65c_add_9ea2d 16 = .ok (.aload_n 0, 1) := by decide +kernel
theorem dJx4a65c_add_9ea2d_17 : decode cJx4a65c_add_9ea2d 17 = .ok (.getfield 48, 3) := by decide +kernel
theorem dJx4a65c_add_9ea2d_20 : decode cJx4a65c_add_9ea2d 20 = .ok (.invokevirtual 131, 3) := by decide +kernel
theorem dJx4a65c_add_9ea2d_23 : decode cJx4a65c_add_9ea2d 23 = .ok (.iconst 1, 1) := by decide +kernel
theorem dJx4a65c_add_9ea2d_24 : decode cJx4a65c_add_9ea2d 24 = .ok (.ireturn, 1) := by decide +kernel
theorem dJ7_copyOf_1904c_0 : decode cJ7_copyOf_1904c 0 = .ok (.aload_n 0, 1) := by decide +kernel
theorem dJ7_copyOf_1904c_1 : decode cJ7_copyOf_1904c 1 = .ok (.iload_n 1, 1) := by decide +kernel
theorem dJ7_copyOf_1904c_2 : decode cJ7_copyOf_1904c 2 = .ok (.aload_n 0, 1) := by decide +kernel
theorem dJ7_copyOf_1904c_3 : decode cJ7_copyOf_1904c 3 = .ok (.invokevirtual 86, 3) := by decide +kernel
theorem dJ7_copyOf_1904c_6 : decode cJ7_copyOf_1904c 6 = .ok (.invokestatic 300, 3) := by decide +kernel
theorem dJ7_copyOf_1904c_9 : decode cJ7_copyOf_1904c 9 = .ok (.areturn, 1) := by decide +kernel
theorem dJ7_copyOf_6403c_0 : decode cJ7_copyOf_6403c 0 = .ok (.aload_n 2, 1) := by decide +kernel
theorem dJ7_copyOf_6403c_1 : decode cJ7_copyOf_6403c 1 = .ok (.ldc 110, 2) := by decide +kernel
theorem dJ7_copyOf_6403c_3 : decode cJ7_copyOf_6403c 3 = .ok (.if_acmp .ne 10, 3) := by decide +kernel
theorem dJ7_copyOf_6403c_6 : decode cJ7_copyOf_6403c 6 = .ok (.iload_n 1, 1) := by decide +kernel
theorem dJ7_copyOf_6403c_7 : decode cJ7_copyOf_6403c 7 = .ok (.anewarray 2, 3) := by decide +kernel
theorem dJ7_copyOf_6403c_10 : decode cJ7_copyOf_6403c 10 = .ok (.goto 14, 3) := by decide +kernel
theorem dJ7_copyOf_6403c_13 : decode cJ7_copyOf_6403c 13 = .ok (.aload_n 2, 1) := by decide +kernel
theorem dJ7_copyOf_6403c_14 : decode cJ7_copyOf_6403c 14 = .ok (.invokevirtual 90, 3) := by decide +kernel
theorem dJ7_copyOf_6403c_17 : decode cJ7_copyOf_6403c 17 = .ok (.iload_n 1, 1) := by decide +kernel
theorem dJ7_copyOf_6403c_18 : decode cJ7_copyOf_6403c 18 = .ok (.invokestatic 95, 3) := by decide +kernel
theorem dJ7_copyOf_6403c_21 : decode cJ7_copyOf_6403c 21 = .ok (.checkcast 110, 3) := by decide +kernel
theorem dJ7_copyOf_6403c_24 : decode cJ7_copyOf_6403c 24 = .ok (.astore_n 3, 1) := by decide +kernel
theorem dJ7_copyOf_6403c_25 : decode cJ7_copyOf_6403c 25 = .ok (.aload_n 0, 1) := by decide +kernel
theorem dJ7_copyOf_6403c_26 : decode cJ7_copyOf_6403c 26 = .ok (.iconst 0, 1) := by decide +kernel
theorem dJ7_copyOf_6403c_27 : decode cJ7_copyOf_6403c 27 = .ok (.aload_n 3, 1) := by decide +kernel
theorem dJ7_copyOf_6403c_28 : decode cJ7_copyOf_6403c 28 = .ok (.iconst 0, 1) := by decide +kernel
theorem dJ7_copyOf_6403c_29 : decode cJ7_copyOf_6403c 29 = .ok (.aload_n 0, 1) := by decide +kernel
theorem dJ7_copyOf_6403c_30 : decode cJ7_copyOf_6403c 30 = .ok (.arraylength, 1) := by decide +kernel
theorem dJ7_copyOf_6403c_31 : decode cJ7_copyOf_6403c 31 = .ok (.iload_n 1, 1) := by decide +kernel
theorem dJ7_copyOf_6403c_32 : decode cJ7_copyOf_6403c 32 = .ok (.invokestatic 304, 3) := by decide +kernel
theorem dJ7_copyOf_6403c_35 : decode cJ7_copyOf_6403c 35 = .ok (.invokestatic 150, 3) := by decide +kernel
theorem dJ7_copyOf_6403c_38 : decode cJ7_copyOf_6403c 38 = .ok (.aload_n 3, 1) := by decide +kernel
theorem dJ7_copyOf_6403c_39 : decode cJ7_copyOf_6403c 39 = .ok (.areturn, 1) := by decide +kernel
theorem dJ15_checkIndex_7cf53_0 : decode cJ15_checkIndex_7cf53 0 = .ok (.iload_n 0, 1) := by decide +kernel
theorem dJ15_checkIndex_7cf53_1 : decode cJ15_checkIndex_7cf53 1 = .ok (.iload_n 1, 1) := by decide +kernel
theorem dJ15_checkIndex_7cf53_2 : decode cJ15_checkIndex_7cf53 2 = .ok (.aconst_null, 1) := by decide +kernel
theorem dJ15_checkIndex_7cf53_3 : decode cJ15_checkIndex_7cf53 3 = .ok (.invokestatic 105, 3) := by decide +kernel
theorem dJ15_checkIndex_7cf53_6 : decode cJ15_checkIndex_7cf53 6 = .ok (.ireturn, 1) := by decide +kernel
theorem dJ8_newLength_cabcc_0 : decode cJ8_newLength_cabcc 0 = .ok (.iload_n 0, 1) := by decide +kernel
theorem dJ8_newLength_cabcc_1 : decode cJ8_newLength_cabcc 1 = .ok (.iload_n 1, 1) := by decide +kernel
theorem dJ8_newLength_cabcc_2 : decode cJ8_newLength_cabcc 2 = .ok (.iload_n 2, 1) := by decide +kernel
theorem dJ8_newLength_cabcc_3 : decode cJ8_newLength_cabcc 3 = .ok (.invokestatic 194, 3) := by decide +kernel
theorem dJ8_newLength_cabcc_6 : decode cJ8_newLength_cabcc 6 = .ok (.iadd, 1) := by decide +kernel
theorem dJ8_newLength_cabcc_7 : decode cJ8_newLength_cabcc 7 = .ok (.istore_n 3, 1) := by decide +kernel
theorem dJ8_newLength_cabcc_8 : decode cJ8_newLength_cabcc 8 = .ok (.iconst 0, 1) := by decide +kernel
theorem dJ8_newLength_cabcc_9 : decode cJ8_newLength_cabcc 9 = .ok (.iload_n 3, 1) := by decide +kernel
theorem dJ8_newLength_cabcc_10 : decode cJ8_newLength_cabcc 10 = .ok (.if_icmp .ge 11, 3) := by decide +kernel
theorem dJ8_newLength_cabcc_13 : decode cJ8_newLength_cabcc 13 = .ok (.iload_n 3, 1) := by decide +kernel
theorem dJ8_newLength_cabcc_14 : decode cJ8_newLength_cabcc 14 = .ok (.ldc 200, 2) := by decide +kernel
theorem dJ8_newLength_cabcc_16 : decode cJ8_newLength_cabcc 16 = .ok (.if_icmp .gt 5, 3) := by decide +kernel
theorem dJ8_newLength_cabcc_19 : decode cJ8_newLength_cabcc 19 = .ok (.iload_n 3, 1) := by decide +kernel
theorem dJ8_newLength_cabcc_20 : decode cJ8_newLength_cabcc 20 = .ok (.ireturn, 1) := by decide +kernel
theorem dJ8_newLength_cabcc_21 : decode cJ8_newLength_cabcc 21 = .ok (.iload_n 0, 1) := by decide +kernel
theorem dJ8_newLength_cabcc_22 : decode cJ8_newLength_cabcc 22 = .ok (.iload_n 1, 1) := by decide +kernel
theorem dJ8_newLength_cabcc_23 : decode cJ8_newLength_cabcc 23 = .ok (.invokestatic 201, 3) := by decide +kernel
theorem dJ8_newLength_cabcc_26 : decode cJ8_newLength_cabcc 26 = .ok (.ireturn, 1) := by decide +kernel
theorem dJ8_hugeLength_7cf53_0 : decode cJ8_hugeLength_7cf53 0 = .ok (.iload_n 0, 1) := by decide +kernel
theorem dJ8_hugeLength_7cf53_1 : decode cJ8_hugeLength_7cf53 1 = .ok (.iload_n 1, 1) := by decide +kernel
theorem dJ8_hugeLength_7cf53_2 : decode cJ8_hugeLength_7cf53 2 = .ok (.iadd, 1) := by decide +kernel
theorem dJ8_hugeLength_7cf53_3 : decode cJ8_hugeLength_7cf53 3 = .ok (.istore_n 2, 1) := by decide +kernel
theorem dJ8_hugeLength_7cf53_4 : decode cJ8_hugeLength_7cf53 4 = .ok (.iload_n 2, 1) := by decide +kernel
theorem dJ8_hugeLength_7cf53_5 : decode cJ8_hugeLength_7cf53 5 = .ok (.ifCond .ge 44, 3) := by decide +kernel
theorem dJ8_hugeLength_7cf53_8 : decode cJ8_hugeLength_7cf53 8 = .ok (.new 204, 3) := by decide +kernel
theorem dJ8_hugeLength_7cf53_11 : decode cJ8_hugeLength_7cf53 11 = .ok (.dup, 1) := by decide +kernel
theorem dJ8_hugeLength_7cf53_12 : decode cJ8_hugeLength_7cf53 12 = .ok (.new 89, 3) := by decide +kernel
theorem dJ8_hugeLength_7cf53_15 : decode cJ8_hugeLength_7cf53 15 = .ok (.dup, 1) := by decide +kernel
theorem dJ8_hugeLength_7cf53_16 : decode cJ8_hugeLength_7cf53 16 = .ok (.invokespecial 91, 3) := by decide +kernel
theorem dJ8_hugeLength_7cf53_19 : decode cJ8_hugeLength_7cf53 19 = .ok (.ldc 206, 2) := by decide +kernel
theorem dJ8_hugeLength_7cf53_21 : decode cJ8_hugeLength_7cf53 21 = .ok (.invokevirtual 94, 3) := by decide +kernel
theorem dJ8_hugeLength_7cf53_24 : decode cJ8_hugeLength_7cf53 24 = .ok (.iload_n 0, 1) := by decide +kernel
theorem dJ8_hugeLength_7cf53_25 : decode cJ8_hugeLength_7cf53 25 = .ok (.invokevirtual 98, 3) := by decide +kernel
theorem dJ8_hugeLength_7cf53_28 : decode cJ8_hugeLength_7cf53 28 = .ok (.ldc 208, 2) := by decide +kernel
theorem dJ8_hugeLength_7cf53_30 : decode cJ8_hugeLength_7cf53 30 = .ok (.invokevirtual 94, 3) := by decide +kernel
theorem dJ8_hugeLength_7cf53_33 : decode cJ8_hugeLength_7cf53 33 = .ok (.iload_n 1, 1) := by decide +kernel
theorem dJ8_hugeLength_7cf53_34 : decode cJ8_hugeLength_7cf53 34 = .ok (.invokevirtual 98, 3) := by decide +kernel
theorem dJ8_hugeLength_7cf53_37 : decode cJ8_hugeLength_7cf53 37 = .ok (.ldc 210, 2) := by decide +kernel
theorem dJ8_hugeLength_7cf53_39 : decode cJ8_hugeLength_7cf53 39 = .ok (.invokevirtual 94, 3) := by decide +kernel
theorem dJ8_hugeLength_7cf53_42 : decode cJ8_hugeLength_7cf53 42 = .ok (.invokevirtual 101, 3) := by decide +kernel
theorem dJ8_hugeLength_7cf53_45 : decode cJ8_hugeLength_7cf53 45 = .ok (.invokespecial 212, 3) := by decide +kernel
theorem dJ8_hugeLength_7cf53_48 : decode cJ8_hugeLength_7cf53 48 = .ok (.athrow, 1) := by decide +kernel
theorem dJ8_hugeLength_7cf53_49 : decode cJ8_hugeLength_7cf53 49 = .ok (.iload_n 2, 1) := by decide +kernel
theorem dJ8_hugeLength_7cf53_50 : decode cJ8_hugeLength_7cf53 50 = .ok (.ldc 200, 2) := by decide +kernel
theorem dJ8_hugeLength_7cf53_52 : decode cJ8_hugeLength_7cf53 52 = .ok (.if_icmp .gt 6, 3) := by decide +kernel
theorem dJ8_hugeLength_7cf53_55 : decode cJ8_hugeLength_7cf53 55 = .ok (.ldc 200, 2) := by decide +kernel
theorem dJ8_hugeLength_7cf53_57 : decode cJ8_hugeLength_7cf53 57 = .ok (.ireturn, 1) := by decide +kernel
theorem dJ8_hugeLength_7cf53_58 : decode cJ8_hugeLength_7cf53 58 = .ok (.iload_n 2, 1) := by decide +kernel
theorem dJ8_hugeLength_7cf53_59 : decode cJ8_hugeLength_7cf53 59 = .ok (.ireturn, 1) := by decide +kernel
theorem dJ3_checkIndex_8e157_0 : decode cJ3_checkIndex_8e157 0 = .ok (.iload_n 0, 1) := by decide +kernel
theorem dJ3_checkIndex_8e157_1 : decode cJ3_checkIndex_8e157 1 = .ok (.ifCond .lt 8, 3) := by decide +kernel
theorem dJ3_checkIndex_8e157_4 : decode cJ3_checkIndex_8e157 4 = .ok (.iload_n 0, 1) := by decide +kernel
theorem dJ3_checkIndex_8e157_5 : decode cJ3_checkIndex_8e157 5 = .ok (.iload_n 1, 1) := by decide +kernel
theorem dJ3_checkIndex_8e157_6 : decode cJ3_checkIndex_8e157 6 = .ok (.if_icmp .lt 10, 3) := by decide +kernel
theorem dJ3_checkIndex_8e157_9 : decode cJ3_checkIndex_8e157 9 = .ok (.aload_n 2, 1) := by decide +kernel
theorem dJ3_checkIndex_8e157_10 : decode cJ3_checkIndex_8e157 10 = .ok (.iload_n 0, 1) := by decide +kernel
theorem dJ3_checkIndex_8e157_11 : decode cJ3_checkIndex_8e157 11 = .ok (.iload_n 1, 1) := by decide +kernel
theorem dJ3_checkIndex_8e157_12 : decode cJ3_checkIndex_8e157 12 = .ok (.invokestatic 95, 3) := by decide +kernel
theorem dJ3_checkIndex_8e157_15 : decode cJ3_checkIndex_8e157 15 = .ok (.athrow, 1) := by decide +kernel
theorem dJ3_checkIndex_8e157_16 : decode cJ3_checkIndex_8e157 16 = .ok (.iload_n 0, 1) := by decide +kernel
theorem dJ3_checkIndex_8e157_17 : decode cJ3_checkIndex_8e157 17 = .ok (.ireturn, 1) := by decide +kernel
theorem dL_tide_0 : decode cL_tide 0 = .ok (.aload_n 0, 1) := by decide +kernel
theorem dL_tide_1 : decode cL_tide 1 = .ok (.iload_n 1, 1) := by decide +kernel
theorem dL_tide_2 : decode cL_tide 2 = .ok (.iload_n 2, 1) := by decide +kernel
theorem dL_tide_3 : decode cL_tide 3 = .ok (.invokevirtual 7, 3) := by decide +kernel
theorem dL_tide_6 : decode cL_tide 6 = .ok (.goto 6, 3) := by decide +kernel
theorem dL_tide_9 : decode cL_tide 9 = .ok (.astore_n 3, 1) := by decide +kernel
theorem dL_tide_10 : decode cL_tide 10 = .ok (.iconst 1, 1) := by decide +kernel
theorem dL_tide_11 : decode cL_tide 11 = .ok (.ireturn, 1) := by decide +kernel
theorem dL_tide_12 : decode cL_tide 12 = .ok (.iconst 0, 1) := by decide +kernel
theorem dL_tide_13 : decode cL_tide 13 = .ok (.ireturn, 1) := by decide +kernel
theorem dL_tugs_0 : decode cL_tugs 0 = .ok (.aload_n 2, 1) := by decide +kernel
theorem dL_tugs_1 : decode cL_tugs 1 = .ok (.iconst 0, 1) := by decide +kernel
theorem dL_tugs_2 : decode cL_tugs 2 = .ok (.aload_n 0, 1) := by decide +kernel
theorem dL_tugs_3 : decode cL_tugs 3 = .ok (.iload_n 1, 1) := by decide +kernel
theorem dL_tugs_4 : decode cL_tugs 4 = .ok (.invokevirtual 15, 3) := by decide +kernel
theorem dL_tugs_7 : decode cL_tugs 7 = .ok (.i2l, 1) := by decide +kernel
theorem dL_tugs_8 : decode cL_tugs 8 = .ok (.lastore, 1) := by decide +kernel
theorem dL_tugs_9 : decode cL_tugs 9 = .ok (.goto 6, 3) := by decide +kernel
theorem dL_tugs_12 : decode cL_tugs 12 = .ok (.astore_n 3, 1) := by decide +kernel
theorem dL_tugs_13 : decode cL_tugs 13 = .ok (.iconst 1, 1) := by decide +kernel
theorem dL_tugs_14 : decode cL_tugs 14 = .ok (.ireturn, 1) := by decide +kernel
theorem dL_tugs_15 : decode cL_tugs 15 = .ok (.iconst 0, 1) := by decide +kernel
theorem dL_tugs_16 : decode cL_tugs 16 = .ok (.ireturn, 1) := by decide +kernel
theorem dL_ship_0 : decode cL_ship 0 = .ok (.aload 5, 2) := by decide +kernel
theorem dL_ship_2 : decode cL_ship 2 = .ok (.iconst 0, 1) := by decide +kernel
theorem dL_ship_3 : decode cL_ship 3 = .ok (.aload_n 0, 1) := by decide +kernel
theorem dL_ship_4 : decode cL_ship 4 = .ok (.iload_n 1, 1) := by decide +kernel
theorem dL_ship_5 : decode cL_ship 5 = .ok (.iload_n 2, 1) := by decide +kernel
theorem dL_ship_6 : decode cL_ship 6 = .ok (.iload_n 3, 1) := by decide +kernel
theorem dL_ship_7 : decode cL_ship 7 = .ok (.iload 4, 2) := by decide +kernel
theorem dL_ship_9 : decode cL_ship 9 = .ok (.invokevirtual 19, 3) := by decide +kernel
theorem dL_ship_12 : decode cL_ship 12 = .ok (.i2l, 1) := by decide +kernel
theorem dL_ship_13 : decode cL_ship 13 = .ok (.lastore, 1) := by decide +kernel
theorem dL_ship_14 : decode cL_ship 14 = .ok (.goto 11, 3) := by decide +kernel
theorem dL_ship_17 : decode cL_ship 17 = .ok (.astore 6, 2) := by decide +kernel
theorem dL_ship_19 : decode cL_ship 19 = .ok (.iconst 1, 1) := by decide +kernel
theorem dL_ship_20 : decode cL_ship 20 = .ok (.ireturn, 1) := by decide +kernel
theorem dL_ship_21 : decode cL_ship 21 = .ok (.astore 6, 2) := by decide +kernel
theorem dL_ship_23 : decode cL_ship 23 = .ok (.iconst 2, 1) := by decide +kernel
theorem dL_ship_24 : decode cL_ship 24 = .ok (.ireturn, 1) := by decide +kernel
theorem dL_ship_25 : decode cL_ship 25 = .ok (.iconst 0, 1) := by decide +kernel
theorem dL_ship_26 : decode cL_ship 26 = .ok (.ireturn, 1) := by decide +kernel
theorem dL_pilot_0 : decode cL_pilot 0 = .ok (.aload_n 3, 1) := by decide +kernel
theorem dL_pilot_1 : decode cL_pilot 1 = .ok (.iconst 0, 1) := by decide +kernel
theorem dL_pilot_2 : decode cL_pilot 2 = .ok (.aload_n 0, 1) := by decide +kernel
theorem dL_pilot_3 : decode cL_pilot 3 = .ok (.iload_n 1, 1) := by decide +kernel
theorem dL_pilot_4 : decode cL_pilot 4 = .ok (.iload_n 2, 1) := by decide +kernel
theorem dL_pilot_5 : decode cL_pilot 5 = .ok (.invokevirtual 25, 3) := by decide +kernel
theorem dL_pilot_8 : decode cL_pilot 8 = .ok (.i2l, 1) := by decide +kernel
theorem dL_pilot_9 : decode cL_pilot 9 = .ok (.lastore, 1) := by decide +kernel
theorem dL_pilot_10 : decode cL_pilot 10 = .ok (.goto 11, 3) := by decide +kernel
theorem dL_pilot_13 : decode cL_pilot 13 = .ok (.astore 4, 2) := by decide +kernel
theorem dL_pilot_15 : decode cL_pilot 15 = .ok (.iconst 1, 1) := by decide +kernel
theorem dL_pilot_16 : decode cL_pilot 16 = .ok (.ireturn, 1) := by decide +kernel
theorem dL_pilot_17 : decode cL_pilot 17 = .ok (.astore 4, 2) := by decide +kernel
theorem dL_pilot_19 : decode cL_pilot 19 = .ok (.iconst 2, 1) := by decide +kernel
theorem dL_pilot_20 : decode cL_pilot 20 = .ok (.ireturn, 1) := by decide +kernel
theorem dL_pilot_21 : decode cL_pilot 21 = .ok (.iconst 0, 1) := by decide +kernel
theorem dL_pilot_22 : decode cL_pilot 22 = .ok (.ireturn, 1) := by decide +kernel
theorem dL_call_0 : decode cL_call 0 = .ok (.aload_n 3, 1) := by decide +kernel
theorem dL_call_1 : decode cL_call 1 = .ok (.iconst 0, 1) := by decide +kernel
theorem dL_call_2 : decode cL_call 2 = .ok (.aload_n 0, 1) := by decide +kernel
theorem dL_call_3 : decode cL_call 3 = .ok (.iload_n 1, 1) := by decide +kernel
theorem dL_call_4 : decode cL_call 4 = .ok (.iload_n 2, 1) := by decide +kernel
theorem dL_call_5 : decode cL_call 5 = .ok (.invokevirtual 29, 3) := by decide +kernel
theorem dL_call_8 : decode cL_call 8 = .ok (.i2l, 1) := by decide +kernel
theorem dL_call_9 : decode cL_call 9 = .ok (.lastore, 1) := by decide +kernel
theorem dL_call_10 : decode cL_call 10 = .ok (.goto 15, 3) := by decide +kernel
theorem dL_call_13 : decode cL_call 13 = .ok (.astore 4, 2) := by decide +kernel
theorem dL_call_15 : decode cL_call 15 = .ok (.iconst 1, 1) := by decide +kernel
theorem dL_call_16 : decode cL_call 16 = .ok (.ireturn, 1) := by decide +kernel
theorem dL_call_17 : decode cL_call 17 = .ok (.astore 4, 2) := by decide +kernel
theorem dL_call_19 : decode cL_call 19 = .ok (.iconst 2, 1) := by decide +kernel
theorem dL_call_20 : decode cL_call 20 = .ok (.ireturn, 1) := by decide +kernel
theorem dL_call_21 : decode cL_call 21 = .ok (.astore 4, 2) := by decide +kernel
theorem dL_call_23 : decode cL_call 23 = .ok (.iconst 3, 1) := by decide +kernel
theorem dL_call_24 : decode cL_call 24 = .ok (.ireturn, 1) := by decide +kernel
theorem dL_call_25 : decode cL_call 25 = .ok (.iconst 0, 1) := by decide +kernel
theorem dL_call_26 : decode cL_call 26 = .ok (.ireturn, 1) := by decide +kernel
theorem dL_join_0 : decode cL_join 0 = .ok (.aload 4, 2) := by decide +kernel
theorem dL_join_2 : decode cL_join 2 = .ok (.iconst 0, 1) := by decide +kernel
theorem dL_join_3 : decode cL_join 3 = .ok (.aload_n 0, 1) := by decide +kernel
theorem dL_join_4 : decode cL_join 4 = .ok (.iload_n 1, 1) := by decide +kernel
theorem dL_join_5 : decode cL_join 5 = .ok (.iload_n 2, 1) := by decide +kernel
theorem dL_join_6 : decode cL_join 6 = .ok (.iload_n 3, 1) := by decide +kernel
theorem dL_join_7 : decode cL_join 7 = .ok (.invokevirtual 34, 3) := by decide +kernel
theorem dL_join_10 : decode cL_join 10 = .ok (.i2l, 1) := by decide +kernel
theorem dL_join_11 : decode cL_join 11 = .ok (.lastore, 1) := by decide +kernel
theorem dL_join_12 : decode cL_join 12 = .ok (.goto 11, 3) := by decide +kernel
theorem dL_join_15 : decode cL_join 15 = .ok (.astore 5, 2) := by decide +kernel
theorem dL_join_17 : decode cL_join 17 = .ok (.iconst 1, 1) := by decide +kernel
theorem dL_join_18 : decode cL_join 18 = .ok (.ireturn, 1) := by decide +kernel
theorem dL_join_19 : decode cL_join 19 = .ok (.astore 5, 2) := by decide +kernel
theorem dL_join_21 : decode cL_join 21 = .ok (.iconst 2, 1) := by decide +kernel
theorem dL_join_22 : decode cL_join 22 = .ok (.ireturn, 1) := by decide +kernel
theorem dL_join_23 : decode cL_join 23 = .ok (.iconst 0, 1) := by decide +kernel
theorem dL_join_24 : decode cL_join 24 = .ok (.ireturn, 1) := by decide +kernel
theorem dL_again_0 : decode cL_again 0 = .ok (.aload_n 2, 1) := by decide +kernel
theorem dL_again_1 : decode cL_again 1 = .ok (.iconst 0, 1) := by decide +kernel
theorem dL_again_2 : decode cL_again 2 = .ok (.aload_n 0, 1) := by decide +kernel
theorem dL_again_3 : decode cL_again 3 = .ok (.iload_n 1, 1) := by decide +kernel
theorem dL_again_4 : decode cL_again 4 = .ok (.invokevirtual 38, 3) := by decide +kernel
theorem dL_again_7 : decode cL_again 7 = .ok (.i2l, 1) := by decide +kernel
theorem dL_again_8 : decode cL_again 8 = .ok (.lastore, 1) := by decide +kernel
theorem dL_again_9 : decode cL_again 9 = .ok (.goto 9, 3) := by decide +kernel
theorem dL_again_12 : decode cL_again 12 = .ok (.astore_n 3, 1) := by decide +kernel
theorem dL_again_13 : decode cL_again 13 = .ok (.iconst 1, 1) := by decide +kernel
theorem dL_again_14 : decode cL_again 14 = .ok (.ireturn, 1) := by decide +kernel
theorem dL_again_15 : decode cL_again 15 = .ok (.astore_n 3, 1) := by decide +kernel
theorem dL_again_16 : decode cL_again 16 = .ok (.iconst 2, 1) := by decide +kernel
theorem dL_again_17 : decode cL_again 17 = .ok (.ireturn, 1) := by decide +kernel
theorem dL_again_18 : decode cL_again 18 = .ok (.iconst 0, 1) := by decide +kernel
theorem dL_again_19 : decode cL_again 19 = .ok (.ireturn, 1) := by decide +kernel
theorem dL_drop_0 : decode cL_drop 0 = .ok (.aload_n 3, 1) := by decide +kernel
theorem dL_drop_1 : decode cL_drop 1 = .ok (.iconst 0, 1) := by decide +kernel
theorem dL_drop_2 : decode cL_drop 2 = .ok (.aload_n 0, 1) := by decide +kernel
theorem dL_drop_3 : decode cL_drop 3 = .ok (.iload_n 1, 1) := by decide +kernel
theorem dL_drop_4 : decode cL_drop 4 = .ok (.iload_n 2, 1) := by decide +kernel
theorem dL_drop_5 : decode cL_drop 5 = .ok (.invokevirtual 41, 3) := by decide +kernel
theorem dL_drop_8 : decode cL_drop 8 = .ok (.i2l, 1) := by decide +kernel
theorem dL_drop_9 : decode cL_drop 9 = .ok (.lastore, 1) := by decide +kernel
theorem dL_drop_10 : decode cL_drop 10 = .ok (.goto 11, 3) := by decide +kernel
theorem dL_drop_13 : decode cL_drop 13 = .ok (.astore 4, 2) := by decide +kernel
theorem dL_drop_15 : decode cL_drop 15 = .ok (.iconst 1, 1) := by decide +kernel
theorem dL_drop_16 : decode cL_drop 16 = .ok (.ireturn, 1) := by decide +kernel
theorem dL_drop_17 : decode cL_drop 17 = .ok (.astore 4, 2) := by decide +kernel
theorem dL_drop_19 : decode cL_drop 19 = .ok (.iconst 2, 1) := by decide +kernel
theorem dL_drop_20 : decode cL_drop 20 = .ok (.ireturn, 1) := by decide +kernel
theorem dL_drop_21 : decode cL_drop 21 = .ok (.iconst 0, 1) := by decide +kernel
theorem dL_drop_22 : decode cL_drop 22 = .ok (.ireturn, 1) := by decide +kernel
theorem dL_pass_0 : decode cL_pass 0 = .ok (.aload_n 2, 1) := by decide +kernel
theorem dL_pass_1 : decode cL_pass 1 = .ok (.iconst 0, 1) := by decide +kernel
theorem dL_pass_2 : decode cL_pass 2 = .ok (.aload_n 0, 1) := by decide +kernel
theorem dL_pass_3 : decode cL_pass 3 = .ok (.iload_n 1, 1) := by decide +kernel
theorem dL_pass_4 : decode cL_pass 4 = .ok (.invokevirtual 44, 3) := by decide +kernel
theorem dL_pass_7 : decode cL_pass 7 = .ok (.i2l, 1) := by decide +kernel
theorem dL_pass_8 : decode cL_pass 8 = .ok (.lastore, 1) := by decide +kernel
theorem dL_pass_9 : decode cL_pass 9 = .ok (.goto 9, 3) := by decide +kernel
theorem dL_pass_12 : decode cL_pass 12 = .ok (.astore_n 3, 1) := by decide +kernel
theorem dL_pass_13 : decode cL_pass 13 = .ok (.iconst 1, 1) := by decide +kernel
theorem dL_pass_14 : decode cL_pass 14 = .ok (.ireturn, 1) := by decide +kernel
theorem dL_pass_15 : decode cL_pass 15 = .ok (.astore_n 3, 1) := by decide +kernel
theorem dL_pass_16 : decode cL_pass 16 = .ok (.iconst 2, 1) := by decide +kernel
theorem dL_pass_17 : decode cL_pass 17 = .ok (.ireturn, 1) := by decide +kernel
theorem dL_pass_18 : decode cL_pass 18 = .ok (.iconst 0, 1) := by decide +kernel
theorem dL_pass_19 : decode cL_pass 19 = .ok (.ireturn, 1) := by decide +kernel
theorem dL_level_0 : decode cL_level 0 = .ok (.aload_n 2, 1) := by decide +kernel
theorem dL_level_1 : decode cL_level 1 = .ok (.iconst 0, 1) := by decide +kernel
theorem dL_level_2 : decode cL_level 2 = .ok (.aload_n 0, 1) := by decide +kernel
theorem dL_level_3 : decode cL_level 3 = .ok (.iload_n 1, 1) := by decide +kernel
theorem dL_level_4 : decode cL_level 4 = .ok (.invokevirtual 47, 3) := by decide +kernel
theorem dL_level_7 : decode cL_level 7 = .ok (.i2l, 1) := by decide +kernel
theorem dL_level_8 : decode cL_level 8 = .ok (.lastore, 1) := by decide +kernel
theorem dL_level_9 : decode cL_level 9 = .ok (.goto 6, 3) := by decide +kernel
theorem dL_level_12 : decode cL_level 12 = .ok (.astore_n 3, 1) := by decide +kernel
theorem dL_level_13 : decode cL_level 13 = .ok (.iconst 1, 1) := by decide +kernel
theorem dL_level_14 : decode cL_level 14 = .ok (.ireturn, 1) := by decide +kernel
theorem dL_level_15 : decode cL_level 15 = .ok (.iconst 0, 1) := by decide +kernel
theorem dL_level_16 : decode cL_level 16 = .ok (.ireturn, 1) := by decide +kernel
theorem dL_window_0 : decode cL_window 0 = .ok (.aload_n 3, 1) := by decide +kernel
theorem dL_window_1 : decode cL_window 1 = .ok (.iconst 0, 1) := by decide +kernel
theorem dL_window_2 : decode cL_window 2 = .ok (.aload_n 0, 1) := by decide +kernel
theorem dL_window_3 : decode cL_window 3 = .ok (.iload_n 1, 1) := by decide +kernel
theorem dL_window_4 : decode cL_window 4 = .ok (.iload_n 2, 1) := by decide +kernel
theorem dL_window_5 : decode cL_window 5 = .ok (.invokevirtual 50, 3) := by decide +kernel
theorem dL_window_8 : decode cL_window 8 = .ok (.i2l, 1) := by decide +kernel
theorem dL_window_9 : decode cL_window 9 = .ok (.lastore, 1) := by decide +kernel
theorem dL_window_10 : decode cL_window 10 = .ok (.goto 11, 3) := by decide +kernel
theorem dL_window_13 : decode cL_window 13 = .ok (.astore 4, 2) := by decide +kernel
theorem dL_window_15 : decode cL_window 15 = .ok (.iconst 1, 1) := by decide +kernel
theorem dL_window_16 : decode cL_window 16 = .ok (.ireturn, 1) := by decide +kernel
theorem dL_window_17 : decode cL_window 17 = .ok (.astore 4, 2) := by decide +kernel
theorem dL_window_19 : decode cL_window 19 = .ok (.iconst 2, 1) := by decide +kernel
theorem dL_window_20 : decode cL_window 20 = .ok (.ireturn, 1) := by decide +kernel
theorem dL_window_21 : decode cL_window 21 = .ok (.iconst 0, 1) := by decide +kernel
theorem dL_window_22 : decode cL_window 22 = .ok (.ireturn, 1) := by decide +kernel
theorem dL_ofConference_0 : decode cL_ofConference 0 = .ok (.aload_n 3, 1) := by decide +kernel
theorem dL_ofConference_1 : decode cL_ofConference 1 = .ok (.iconst 0, 1) := by decide +kernel
theorem dL_ofConference_2 : decode cL_ofConference 2 = .ok (.aload_n 0, 1) := by decide +kernel
theorem dL_ofConference_3 : decode cL_ofConference 3 = .ok (.iload_n 1, 1) := by decide +kernel
theorem dL_ofConference_4 : decode cL_ofConference 4 = .ok (.iload_n 2, 1) := by decide +kernel
theorem dL_ofConference_5 : decode cL_ofConference 5 = .ok (.invokevirtual 53, 3) := by decide +kernel
theorem dL_ofConference_8 : decode cL_ofConference 8 = .ok (.i2l, 1) := by decide +kernel
theorem dL_ofConference_9 : decode cL_ofConference 9 = .ok (.lastore, 1) := by decide +kernel
theorem dL_ofConference_10 : decode cL_ofConference 10 = .ok (.goto 7, 3) := by decide +kernel
theorem dL_ofConference_13 : decode cL_ofConference 13 = .ok (.astore 4, 2) := by decide +kernel
theorem dL_ofConference_15 : decode cL_ofConference 15 = .ok (.iconst 1, 1) := by decide +kernel
theorem dL_ofConference_16 : decode cL_ofConference 16 = .ok (.ireturn, 1) := by decide +kernel
theorem dL_ofConference_17 : decode cL_ofConference 17 = .ok (.iconst 0, 1) := by decide +kernel
theorem dL_ofConference_18 : decode cL_ofConference 18 = .ok (.ireturn, 1) := by decide +kernel
theorem dL_why_0 : decode cL_why 0 = .ok (.aload_n 3, 1) := by decide +kernel
theorem dL_why_1 : decode cL_why 1 = .ok (.iconst 0, 1) := by decide +kernel
theorem dL_why_2 : decode cL_why 2 = .ok (.aload_n 0, 1) := by decide +kernel
theorem dL_why_3 : decode cL_why 3 = .ok (.iload_n 1, 1) := by decide +kernel
theorem dL_why_4 : decode cL_why 4 = .ok (.iload_n 2, 1) := by decide +kernel
theorem dL_why_5 : decode cL_why 5 = .ok (.invokevirtual 56, 3) := by decide +kernel
theorem dL_why_8 : decode cL_why 8 = .ok (.i2l, 1) := by decide +kernel
theorem dL_why_9 : decode cL_why 9 = .ok (.lastore, 1) := by decide +kernel
theorem dL_why_10 : decode cL_why 10 = .ok (.goto 15, 3) := by decide +kernel
theorem dL_why_13 : decode cL_why 13 = .ok (.astore 4, 2) := by decide +kernel
theorem dL_why_15 : decode cL_why 15 = .ok (.iconst 1, 1) := by decide +kernel
theorem dL_why_16 : decode cL_why 16 = .ok (.ireturn, 1) := by decide +kernel
theorem dL_why_17 : decode cL_why 17 = .ok (.astore 4, 2) := by decide +kernel
theorem dL_why_19 : decode cL_why 19 = .ok (.iconst 2, 1) := by decide +kernel
theorem dL_why_20 : decode cL_why 20 = .ok (.ireturn, 1) := by decide +kernel
theorem dL_why_21 : decode cL_why 21 = .ok (.astore 4, 2) := by decide +kernel
theorem dL_why_23 : decode cL_why 23 = .ok (.iconst 3, 1) := by decide +kernel
theorem dL_why_24 : decode cL_why 24 = .ok (.ireturn, 1) := by decide +kernel
theorem dL_why_25 : decode cL_why 25 = .ok (.iconst 0, 1) := by decide +kernel
theorem dL_why_26 : decode cL_why 26 = .ok (.ireturn, 1) := by decide +kernel
theorem dL_rested_0 : decode cL_rested 0 = .ok (.aload_n 2, 1) := by decide +kernel
theorem dL_rested_1 : decode cL_rested 1 = .ok (.iconst 0, 1) := by decide +kernel
theorem dL_rested_2 : decode cL_rested 2 = .ok (.aload_n 0, 1) := by decide +kernel
theorem dL_rested_3 : decode cL_rested 3 = .ok (.iload_n 1, 1) := by decide +kernel
theorem dL_rested_4 : decode cL_rested 4 = .ok (.invokevirtual 59, 3) := by decide +kernel
theorem dL_rested_7 : decode cL_rested 7 = .ok (.i2l, 1) := by decide +kernel
theorem dL_rested_8 : decode cL_rested 8 = .ok (.lastore, 1) := by decide +kernel
theorem dL_rested_9 : decode cL_rested 9 = .ok (.goto 6, 3) := by decide +kernel
theorem dL_rested_12 : decode cL_rested 12 = .ok (.astore_n 3, 1) := by decide +kernel
theorem dL_rested_13 : decode cL_rested 13 = .ok (.iconst 1, 1) := by decide +kernel
theorem dL_rested_14 : decode cL_rested 14 = .ok (.ireturn, 1) := by decide +kernel
theorem dL_rested_15 : decode cL_rested 15 = .ok (.iconst 0, 1) := by decide +kernel
theorem dL_rested_16 : decode cL_rested 16 = .ok (.ireturn, 1) := by decide +kernel
theorem dL_restedAnew_0 : decode cL_restedAnew 0 = .ok (.aload_n 2, 1) := by decide +kernel
theorem dL_restedAnew_1 : decode cL_restedAnew 1 = .ok (.iconst 0, 1) := by decide +kernel
theorem dL_restedAnew_2 : decode cL_restedAnew 2 = .ok (.aload_n 0, 1) := by decide +kernel
theorem dL_restedAnew_3 : decode cL_restedAnew 3 = .ok (.iload_n 1, 1) := by decide +kernel
theorem dL_restedAnew_4 : decode cL_restedAnew 4 = .ok (.invokevirtual 62, 3) := by decide +kernel
theorem dL_restedAnew_7 : decode cL_restedAnew 7 = .ok (.i2l, 1) := by decide +kernel
theorem dL_restedAnew_8 : decode cL_restedAnew 8 = .ok (.lastore, 1) := by decide +kernel
theorem dL_restedAnew_9 : decode cL_restedAnew 9 = .ok (.goto 6, 3) := by decide +kernel
theorem dL_restedAnew_12 : decode cL_restedAnew 12 = .ok (.astore_n 3, 1) := by decide +kernel
theorem dL_restedAnew_13 : decode cL_restedAnew 13 = .ok (.iconst 1, 1) := by decide +kernel
theorem dL_restedAnew_14 : decode cL_restedAnew 14 = .ok (.ireturn, 1) := by decide +kernel
theorem dL_restedAnew_15 : decode cL_restedAnew 15 = .ok (.iconst 0, 1) := by decide +kernel
theorem dL_restedAnew_16 : decode cL_restedAnew 16 = .ok (.ireturn, 1) := by decide +kernel
theorem dL_bill_0 : decode cL_bill 0 = .ok (.aload_n 2, 1) := by decide +kernel
theorem dL_bill_1 : decode cL_bill 1 = .ok (.iconst 0, 1) := by decide +kernel
theorem dL_bill_2 : decode cL_bill 2 = .ok (.aload_n 0, 1) := by decide +kernel
theorem dL_bill_3 : decode cL_bill 3 = .ok (.iload_n 1, 1) := by decide +kernel
theorem dL_bill_4 : decode cL_bill 4 = .ok (.invokevirtual 65, 3) := by decide +kernel
theorem dL_bill_7 : decode cL_bill 7 = .ok (.i2l, 1) := by decide +kernel
theorem dL_bill_8 : decode cL_bill 8 = .ok (.lastore, 1) := by decide +kernel
theorem dL_bill_9 : decode cL_bill 9 = .ok (.goto 6, 3) := by decide +kernel
theorem dL_bill_12 : decode cL_bill 12 = .ok (.astore_n 3, 1) := by decide +kernel
theorem dL_bill_13 : decode cL_bill 13 = .ok (.iconst 1, 1) := by decide +kernel
theorem dL_bill_14 : decode cL_bill 14 = .ok (.ireturn, 1) := by decide +kernel
theorem dL_bill_15 : decode cL_bill 15 = .ok (.iconst 0, 1) := by decide +kernel
theorem dL_bill_16 : decode cL_bill 16 = .ok (.ireturn, 1) := by decide +kernel
theorem dL_ofPilot_0 : decode cL_ofPilot 0 = .ok (.aload_n 3, 1) := by decide +kernel
theorem dL_ofPilot_1 : decode cL_ofPilot 1 = .ok (.iconst 0, 1) := by decide +kernel
theorem dL_ofPilot_2 : decode cL_ofPilot 2 = .ok (.aload_n 0, 1) := by decide +kernel
theorem dL_ofPilot_3 : decode cL_ofPilot 3 = .ok (.iload_n 1, 1) := by decide +kernel
theorem dL_ofPilot_4 : decode cL_ofPilot 4 = .ok (.iload_n 2, 1) := by decide +kernel
theorem dL_ofPilot_5 : decode cL_ofPilot 5 = .ok (.invokevirtual 68, 3) := by decide +kernel
theorem dL_ofPilot_8 : decode cL_ofPilot 8 = .ok (.i2l, 1) := by decide +kernel
theorem dL_ofPilot_9 : decode cL_ofPilot 9 = .ok (.lastore, 1) := by decide +kernel
theorem dL_ofPilot_10 : decode cL_ofPilot 10 = .ok (.goto 7, 3) := by decide +kernel
theorem dL_ofPilot_13 : decode cL_ofPilot 13 = .ok (.astore 4, 2) := by decide +kernel
theorem dL_ofPilot_15 : decode cL_ofPilot 15 = .ok (.iconst 1, 1) := by decide +kernel
theorem dL_ofPilot_16 : decode cL_ofPilot 16 = .ok (.ireturn, 1) := by decide +kernel
theorem dL_ofPilot_17 : decode cL_ofPilot 17 = .ok (.iconst 0, 1) := by decide +kernel
theorem dL_ofPilot_18 : decode cL_ofPilot 18 = .ok (.ireturn, 1) := by decide +kernel
theorem dL_count_0 : decode cL_count 0 = .ok (.aload_n 2, 1) := by decide +kernel
theorem dL_count_1 : decode cL_count 1 = .ok (.iconst 0, 1) := by decide +kernel
theorem dL_count_2 : decode cL_count 2 = .ok (.aload_n 0, 1) := by decide +kernel
theorem dL_count_3 : decode cL_count 3 = .ok (.iload_n 1, 1) := by decide +kernel
theorem dL_count_4 : decode cL_count 4 = .ok (.invokevirtual 71, 3) := by decide +kernel
theorem dL_count_7 : decode cL_count 7 = .ok (.i2l, 1) := by decide +kernel
theorem dL_count_8 : decode cL_count 8 = .ok (.lastore, 1) := by decide +kernel
theorem dL_count_9 : decode cL_count 9 = .ok (.goto 6, 3) := by decide +kernel
theorem dL_count_12 : decode cL_count 12 = .ok (.astore_n 3, 1) := by decide +kernel
theorem dL_count_13 : decode cL_count 13 = .ok (.iconst 1, 1) := by decide +kernel
theorem dL_count_14 : decode cL_count 14 = .ok (.ireturn, 1) := by decide +kernel
theorem dL_count_15 : decode cL_count 15 = .ok (.iconst 0, 1) := by decide +kernel
theorem dL_count_16 : decode cL_count 16 = .ok (.ireturn, 1) := by decide +kernel
