/-! what the instructions of the class are (printed rows) -/
theorem dX0_init_0 : decode cX0_init 0 = .ok (.aload_n 0, 1) := by decide +kernel
theorem dX0_init_1 : decode cX0_init 1 = .ok (.invokespecial 3, 3) := by decide +kernel
theorem dX0_init_4 : decode cX0_init 4 = .ok (.aload_n 0, 1) := by decide +kernel
theorem dX0_init_5 : decode cX0_init 5 = .ok (.bipush 6, 2) := by decide +kernel
theorem dX0_init_7 : decode cX0_init 7 = .ok (.newarray .int, 2) := by decide +kernel
theorem dX0_init_9 : decode cX0_init 9 = .ok (.putfield 9, 3) := by decide +kernel
theorem dX0_init_12 : decode cX0_init 12 = .ok (.return_, 1) := by decide +kernel
theorem dX0_copyFrom_0 : decode cX0_copyFrom 0 = .ok (.aload_n 0, 1) := by decide +kernel
theorem dX0_copyFrom_1 : decode cX0_copyFrom 1 = .ok (.aload_n 1, 1) := by decide +kernel
theorem dX0_copyFrom_2 : decode cX0_copyFrom 2 = .ok (.getfield 15, 3) := by decide +kernel
theorem dX0_copyFrom_5 : decode cX0_copyFrom 5 = .ok (.putfield 15, 3) := by decide +kernel
theorem dX0_copyFrom_8 : decode cX0_copyFrom 8 = .ok (.aload_n 0, 1) := by decide +kernel
theorem dX0_copyFrom_9 : decode cX0_copyFrom 9 = .ok (.aload_n 1, 1) := by decide +kernel
theorem dX0_copyFrom_10 : decode cX0_copyFrom 10 = .ok (.getfield 19, 3) := by decide +kernel
theorem dX0_copyFrom_13 : decode cX0_copyFrom 13 = .ok (.putfield 19, 3) := by decide +kernel
theorem dX0_copyFrom_16 : decode cX0_copyFrom 16 = .ok (.aload_n 0, 1) := by decide +kernel
theorem dX0_copyFrom_17 : decode cX0_copyFrom 17 = .ok (.aload_n 1, 1) := by decide +kernel
theorem dX0_copyFrom_18 : decode cX0_copyFrom 18 = .ok (.getfield 22, 3) := by decide +kernel
theorem dX0_copyFrom_21 : decode cX0_copyFrom 21 = .ok (.putfield 22, 3) := by decide +kernel
theorem dX0_copyFrom_24 : decode cX0_copyFrom 24 = .ok (.aload_n 0, 1) := by decide +kernel
theorem dX0_copyFrom_25 : decode cX0_copyFrom 25 = .ok (.aload_n 1, 1) := by decide +kernel
theorem dX0_copyFrom_26 : decode cX0_copyFrom 26 = .ok (.getfield 25, 3) := by decide +kernel
theorem dX0_copyFrom_29 : decode cX0_copyFrom 29 = .ok (.putfield 25, 3) := by decide +kernel
theorem dX0_copyFrom_32 : decode cX0_copyFrom 32 = .ok (.aload_n 0, 1) := by decide +kernel
theorem dX0_copyFrom_33 : decode cX0_copyFrom 33 = .ok (.aload_n 1, 1) := by decide +kernel
theorem dX0_copyFrom_34 : decode cX0_copyFrom 34 = .ok (.getfield 28, 3) := by decide +kernel
theorem dX0_copyFrom_37 : decode cX0_copyFrom 37 = .ok (.putfield 28, 3) := by decide +kernel
theorem dX0_copyFrom_40 : decode cX0_copyFrom 40 = .ok (.aload_n 1, 1) := by decide +kernel
theorem dX0_copyFrom_41 : decode cX0_copyFrom 41 = .ok (.getfield 9, 3) := by decide +kernel
theorem dX0_copyFrom_44 : decode cX0_copyFrom 44 = .ok (.aload_n 0, 1) := by decide +kernel
theorem dX0_copyFrom_45 : decode cX0_copyFrom 45 = .ok (.getfield 9, 3) := by decide +kernel
theorem dX0_copyFrom_48 : decode cX0_copyFrom 48 = .ok (.invokestatic 31, 3) := by decide +kernel
theorem dX0_copyFrom_51 : decode cX0_copyFrom 51 = .ok (.return_, 1) := by decide +kernel
theorem dX0_countQuestionTo_0 : decode cX0_countQuestionTo 0 = .ok (.aload_n 0, 1) := by decide +kernel
theorem dX0_countQuestionTo_1 : decode cX0_countQuestionTo 1 = .ok (.dup, 1) := by decide +kernel
theorem dX0_countQuestionTo_2 : decode cX0_countQuestionTo 2 = .ok (.getfield 19, 3) := by decide +kernel
theorem dX0_countQuestionTo_5 : decode cX0_countQuestionTo 5 = .ok (.iconst 1, 1) := by decide +kernel
theorem dX0_countQuestionTo_6 : decode cX0_countQuestionTo 6 = .ok (.iadd, 1) := by decide +kernel
theorem dX0_countQuestionTo_7 : decode cX0_countQuestionTo 7 = .ok (.putfield 19, 3) := by decide +kernel
theorem dX0_countQuestionTo_10 : decode cX0_countQuestionTo 10 = .ok (.aload_n 0, 1) := by decide +kernel
theorem dX0_countQuestionTo_11 : decode cX0_countQuestionTo 11 = .ok (.getfield 9, 3) := by decide +kernel
theorem dX0_countQuestionTo_14 : decode cX0_countQuestionTo 14 = .ok (.iload_n 1, 1) := by decide +kernel
theorem dX0_countQuestionTo_15 : decode cX0_countQuestionTo 15 = .ok (.aload_n 0, 1) := by decide +kernel
theorem dX0_countQuestionTo_16 : decode cX0_countQuestionTo 16 = .ok (.getfield 9, 3) := by decide +kernel
theorem dX0_countQuestionTo_19 : decode cX0_countQuestionTo 19 = .ok (.iload_n 1, 1) := by decide +kernel
theorem dX0_countQuestionTo_20 : decode cX0_countQuestionTo 20 = .ok (.invokestatic 35, 3) := by decide +kernel
theorem dX0_countQuestionTo_23 : decode cX0_countQuestionTo 23 = .ok (.iconst 1, 1) := by decide +kernel
theorem dX0_countQuestionTo_24 : decode cX0_countQuestionTo 24 = .ok (.iadd, 1) := by decide +kernel
theorem dX0_countQuestionTo_25 : decode cX0_countQuestionTo 25 = .ok (.invokestatic 39, 3) := by decide +kernel
theorem dX0_countQuestionTo_28 : decode cX0_countQuestionTo 28 = .ok (.return_, 1) := by decide +kernel
theorem dX1_init_0 : decode cX1_init 0 = .ok (.aload_n 0, 1) := by decide +kernel
theorem dX1_init_1 : decode cX1_init 1 = .ok (.invokespecial 3, 3) := by decide +kernel
theorem dX1_init_4 : decode cX1_init 4 = .ok (.aload_n 0, 1) := by decide +kernel
theorem dX1_init_5 : decode cX1_init 5 = .ok (.bipush 60, 2) := by decide +kernel
theorem dX1_init_7 : decode cX1_init 7 = .ok (.newarray .int, 2) := by decide +kernel
theorem dX1_init_9 : decode cX1_init 9 = .ok (.putfield 9, 3) := by decide +kernel
theorem dX1_init_12 : decode cX1_init 12 = .ok (.aload_n 0, 1) := by decide +kernel
theorem dX1_init_13 : decode cX1_init 13 = .ok (.bipush 20, 2) := by decide +kernel
theorem dX1_init_15 : decode cX1_init 15 = .ok (.newarray .int, 2) := by decide +kernel
theorem dX1_init_17 : decode cX1_init 17 = .ok (.putfield 15, 3) := by decide +kernel
theorem dX1_init_20 : decode cX1_init 20 = .ok (.aload_n 0, 1) := by decide +kernel
theorem dX1_init_21 : decode cX1_init 21 = .ok (.bipush 20, 2) := by decide +kernel
theorem dX1_init_23 : decode cX1_init 23 = .ok (.newarray .int, 2) := by decide +kernel
theorem dX1_init_25 : decode cX1_init 25 = .ok (.putfield 18, 3) := by decide +kernel
theorem dX1_init_28 : decode cX1_init 28 = .ok (.return_, 1) := by decide +kernel
theorem dX2_init_0 : decode cX2_init 0 = .ok (.aload_n 0, 1) := by decide +kernel
theorem dX2_init_1 : decode cX2_init 1 = .ok (.invokespecial 3, 3) := by decide +kernel
theorem dX2_init_4 : decode cX2_init 4 = .ok (.aload_n 0, 1) := by decide +kernel
theorem dX2_init_5 : decode cX2_init 5 = .ok (.bipush 36, 2) := by decide +kernel
theorem dX2_init_7 : decode cX2_init 7 = .ok (.newarray .int, 2) := by decide +kernel
theorem dX2_init_9 : decode cX2_init 9 = .ok (.putfield 9, 3) := by decide +kernel
theorem dX2_init_12 : decode cX2_init 12 = .ok (.aload_n 0, 1) := by decide +kernel
theorem dX2_init_13 : decode cX2_init 13 = .ok (.bipush 36, 2) := by decide +kernel
theorem dX2_init_15 : decode cX2_init 15 = .ok (.newarray .int, 2) := by decide +kernel
theorem dX2_init_17 : decode cX2_init 17 = .ok (.putfield 15, 3) := by decide +kernel
theorem dX2_init_20 : decode cX2_init 20 = .ok (.aload_n 0, 1) := by decide +kernel
theorem dX2_init_21 : decode cX2_init 21 = .ok (.bipush 36, 2) := by decide +kernel
theorem dX2_init_23 : decode cX2_init 23 = .ok (.newarray .int, 2) := by decide +kernel
theorem dX2_init_25 : decode cX2_init 25 = .ok (.putfield 18, 3) := by decide +kernel
theorem dX2_init_28 : decode cX2_init 28 = .ok (.iconst 0, 1) := by decide +kernel
theorem dX2_init_29 : decode cX2_init 29 = .ok (.istore_n 1, 1) := by decide +kernel
theorem dX2_init_30 : decode cX2_init 30 = .ok (.iload_n 1, 1) := by decide +kernel
theorem dX2_init_31 : decode cX2_init 31 = .ok (.bipush 36, 2) := by decide +kernel
theorem dX2_init_33 : decode cX2_init 33 = .ok (.if_icmp .ge 30, 3) := by decide +kernel
theorem dX2_init_36 : decode cX2_init 36 = .ok (.aload_n 0, 1) := by decide +kernel
theorem dX2_init_37 : decode cX2_init 37 = .ok (.getfield 9, 3) := by decide +kernel
theorem dX2_init_40 : decode cX2_init 40 = .ok (.iload_n 1, 1) := by decide +kernel
theorem dX2_init_41 : decode cX2_init 41 = .ok (.iconst 0, 1) := by decide +kernel
theorem dX2_init_42 : decode cX2_init 42 = .ok (.iastore, 1) := by decide +kernel
theorem dX2_init_43 : decode cX2_init 43 = .ok (.aload_n 0, 1) := by decide +kernel
theorem dX2_init_44 : decode cX2_init 44 = .ok (.getfield 15, 3) := by decide +kernel
theorem dX2_init_47 : decode cX2_init 47 = .ok (.iload_n 1, 1) := by decide +kernel
theorem dX2_init_48 : decode cX2_init 48 = .ok (.iconst (-1), 1) := by decide +kernel
theorem dX2_init_49 : decode cX2_init 49 = .ok (.iastore, 1) := by decide +kernel
theorem dX2_init_50 : decode cX2_init 50 = .ok (.aload_n 0, 1) := by decide +kernel
theorem dX2_init_51 : decode cX2_init 51 = .ok (.getfield 18, 3) := by decide +kernel
theorem dX2_init_54 : decode cX2_init 54 = .ok (.iload_n 1, 1) := by decide +kernel
theorem dX2_init_55 : decode cX2_init 55 = .ok (.iconst 0, 1) := by decide +kernel
theorem dX2_init_56 : decode cX2_init 56 = .ok (.iastore, 1) := by decide +kernel
theorem dX2_init_57 : decode cX2_init 57 = .ok (.iinc 1 1, 3) := by decide +kernel
theorem dX2_init_60 : decode cX2_init 60 = .ok (.goto (-30), 3) := by decide +kernel
theorem dX2_init_63 : decode cX2_init 63 = .ok (.return_, 1) := by decide +kernel
theorem dX2_copyFrom_0 : decode cX2_copyFrom 0 = .ok (.aload_n 1, 1) := by decide +kernel
theorem dX2_copyFrom_1 : decode cX2_copyFrom 1 = .ok (.getfield 9, 3) := by decide +kernel
theorem dX2_copyFrom_4 : decode cX2_copyFrom 4 = .ok (.aload_n 0, 1) := by decide +kernel
theorem dX2_copyFrom_5 : decode cX2_copyFrom 5 = .ok (.getfield 9, 3) := by decide +kernel
theorem dX2_copyFrom_8 : decode cX2_copyFrom 8 = .ok (.invokestatic 21, 3) := by decide +kernel
theorem dX2_copyFrom_11 : decode cX2_copyFrom 11 = .ok (.aload_n 1, 1) := by decide +kernel
theorem dX2_copyFrom_12 : decode cX2_copyFrom 12 = .ok (.getfield 15, 3) := by decide +kernel
theorem dX2_copyFrom_15 : decode cX2_copyFrom 15 = .ok (.aload_n 0, 1) := by decide +kernel
theorem dX2_copyFrom_16 : decode cX2_copyFrom 16 = .ok (.getfield 15, 3) := by decide +kernel
theorem dX2_copyFrom_19 : decode cX2_copyFrom 19 = .ok (.invokestatic 21, 3) := by decide +kernel
theorem dX2_copyFrom_22 : decode cX2_copyFrom 22 = .ok (.aload_n 1, 1) := by decide +kernel
theorem dX2_copyFrom_23 : decode cX2_copyFrom 23 = .ok (.getfield 18, 3) := by decide +kernel
theorem dX2_copyFrom_26 : decode cX2_copyFrom 26 = .ok (.aload_n 0, 1) := by decide +kernel
theorem dX2_copyFrom_27 : decode cX2_copyFrom 27 = .ok (.getfield 18, 3) := by decide +kernel
theorem dX2_copyFrom_30 : decode cX2_copyFrom 30 = .ok (.invokestatic 21, 3) := by decide +kernel
theorem dX2_copyFrom_33 : decode cX2_copyFrom 33 = .ok (.return_, 1) := by decide +kernel
theorem dX2_put_0 : decode cX2_put 0 = .ok (.aload_n 0, 1) := by decide +kernel
theorem dX2_put_1 : decode cX2_put 1 = .ok (.getfield 9, 3) := by decide +kernel
theorem dX2_put_4 : decode cX2_put 4 = .ok (.iload_n 1, 1) := by decide +kernel
theorem dX2_put_5 : decode cX2_put 5 = .ok (.iload_n 2, 1) := by decide +kernel
theorem dX2_put_6 : decode cX2_put 6 = .ok (.invokestatic 25, 3) := by decide +kernel
theorem dX2_put_9 : decode cX2_put 9 = .ok (.aload_n 0, 1) := by decide +kernel
theorem dX2_put_10 : decode cX2_put 10 = .ok (.getfield 15, 3) := by decide +kernel
theorem dX2_put_13 : decode cX2_put 13 = .ok (.iload_n 1, 1) := by decide +kernel
theorem dX2_put_14 : decode cX2_put 14 = .ok (.iload_n 3, 1) := by decide +kernel
theorem dX2_put_15 : decode cX2_put 15 = .ok (.invokestatic 25, 3) := by decide +kernel
theorem dX2_put_18 : decode cX2_put 18 = .ok (.aload_n 0, 1) := by decide +kernel
theorem dX2_put_19 : decode cX2_put 19 = .ok (.getfield 18, 3) := by decide +kernel
theorem dX2_put_22 : decode cX2_put 22 = .ok (.iload_n 1, 1) := by decide +kernel
theorem dX2_put_23 : decode cX2_put 23 = .ok (.iload 4, 2) := by decide +kernel
theorem dX2_put_25 : decode cX2_put 25 = .ok (.invokestatic 25, 3) := by decide +kernel
theorem dX2_put_28 : decode cX2_put 28 = .ok (.return_, 1) := by decide +kernel
theorem dX2_kind_0 : decode cX2_kind 0 = .ok (.aload_n 0, 1) := by decide +kernel
theorem dX2_kind_1 : decode cX2_kind 1 = .ok (.getfield 9, 3) := by decide +kernel
theorem dX2_kind_4 : decode cX2_kind 4 = .ok (.iload_n 1, 1) := by decide +kernel
theorem dX2_kind_5 : decode cX2_kind 5 = .ok (.invokestatic 29, 3) := by decide +kernel
theorem dX2_kind_8 : decode cX2_kind 8 = .ok (.ireturn, 1) := by decide +kernel
theorem dX2_value_0 : decode cX2_value 0 = .ok (.aload_n 0, 1) := by decide +kernel
theorem dX2_value_1 : decode cX2_value 1 = .ok (.getfield 15, 3) := by decide +kernel
theorem dX2_value_4 : decode cX2_value 4 = .ok (.iload_n 1, 1) := by decide +kernel
theorem dX2_value_5 : decode cX2_value 5 = .ok (.invokestatic 29, 3) := by decide +kernel
theorem dX2_value_8 : decode cX2_value 8 = .ok (.ireturn, 1) := by decide +kernel
theorem dX2_ticks_0 : decode cX2_ticks 0 = .ok (.aload_n 0, 1) := by decide +kernel
theorem dX2_ticks_1 : decode cX2_ticks 1 = .ok (.getfield 18, 3) := by decide +kernel
theorem dX2_ticks_4 : decode cX2_ticks 4 = .ok (.iload_n 1, 1) := by decide +kernel
theorem dX2_ticks_5 : decode cX2_ticks 5 = .ok (.invokestatic 29, 3) := by decide +kernel
theorem dX2_ticks_8 : decode cX2_ticks 8 = .ok (.ireturn, 1) := by decide +kernel
theorem dX3_init_0 : decode cX3_init 0 = .ok (.aload_n 0, 1) := by decide +kernel
theorem dX3_init_1 : decode cX3_init 1 = .ok (.invokespecial 3, 3) := by decide +kernel
theorem dX3_init_4 : decode cX3_init 4 = .ok (.aload_n 0, 1) := by decide +kernel
theorem dX3_init_5 : decode cX3_init 5 = .ok (.new 9, 3) := by decide +kernel
theorem dX3_init_8 : decode cX3_init 8 = .ok (.dup, 1) := by decide +kernel
theorem dX3_init_9 : decode cX3_init 9 = .ok (.invokespecial 11, 3) := by decide +kernel
theorem dX3_init_12 : decode cX3_init 12 = .ok (.putfield 12, 3) := by decide +kernel
theorem dX3_init_15 : decode cX3_init 15 = .ok (.aload_n 0, 1) := by decide +kernel
theorem dX3_init_16 : decode cX3_init 16 = .ok (.new 18, 3) := by decide +kernel
theorem dX3_init_19 : decode cX3_init 19 = .ok (.dup, 1) := by decide +kernel
theorem dX3_init_20 : decode cX3_init 20 = .ok (.invokespecial 20, 3) := by decide +kernel
theorem dX3_init_23 : decode cX3_init 23 = .ok (.putfield 21, 3) := by decide +kernel
theorem dX3_init_26 : decode cX3_init 26 = .ok (.aload_n 0, 1) := by decide +kernel
theorem dX3_init_27 : decode cX3_init 27 = .ok (.new 18, 3) := by decide +kernel
theorem dX3_init_30 : decode cX3_init 30 = .ok (.dup, 1) := by decide +kernel
theorem dX3_init_31 : decode cX3_init 31 = .ok (.invokespecial 20, 3) := by decide +kernel
theorem dX3_init_34 : decode cX3_init 34 = .ok (.putfield 25, 3) := by decide +kernel
theorem dX3_init_37 : decode cX3_init 37 = .ok (.aload_n 0, 1) := by decide +kernel
theorem dX3_init_38 : decode cX3_init 38 = .ok (.bipush 6, 2) := by decide +kernel
theorem dX3_init_40 : decode cX3_init 40 = .ok (.newarray .int, 2) := by decide +kernel
theorem dX3_init_42 : decode cX3_init 42 = .ok (.putfield 28, 3) := by decide +kernel
theorem dX3_init_45 : decode cX3_init 45 = .ok (.aload_n 0, 1) := by decide +kernel
theorem dX3_init_46 : decode cX3_init 46 = .ok (.new 32, 3) := by decide +kernel
theorem dX3_init_49 : decode cX3_init 49 = .ok (.dup, 1) := by decide +kernel
theorem dX3_init_50 : decode cX3_init 50 = .ok (.invokespecial 34, 3) := by decide +kernel
theorem dX3_init_53 : decode cX3_init 53 = .ok (.putfield 35, 3) := by decide +kernel
theorem dX3_init_56 : decode cX3_init 56 = .ok (.return_, 1) := by decide +kernel
theorem dX3_copyFrom_0 : decode cX3_copyFrom 0 = .ok (.aload_n 0, 1) := by decide +kernel
theorem dX3_copyFrom_1 : decode cX3_copyFrom 1 = .ok (.aload_n 1, 1) := by decide +kernel
theorem dX3_copyFrom_2 : decode cX3_copyFrom 2 = .ok (.getfield 39, 3) := by decide +kernel
theorem dX3_copyFrom_5 : decode cX3_copyFrom 5 = .ok (.putfield 39, 3) := by decide +kernel
theorem dX3_copyFrom_8 : decode cX3_copyFrom 8 = .ok (.aload_n 0, 1) := by decide +kernel
theorem dX3_copyFrom_9 : decode cX3_copyFrom 9 = .ok (.getfield 12, 3) := by decide +kernel
theorem dX3_copyFrom_12 : decode cX3_copyFrom 12 = .ok (.aload_n 1, 1) := by decide +kernel
theorem dX3_copyFrom_13 : decode cX3_copyFrom 13 = .ok (.getfield 12, 3) := by decide +kernel
theorem dX3_copyFrom_16 : decode cX3_copyFrom 16 = .ok (.invokevirtual 43, 3) := by decide +kernel
theorem dX3_copyFrom_19 : decode cX3_copyFrom 19 = .ok (.aload_n 0, 1) := by decide +kernel
theorem dX3_copyFrom_20 : decode cX3_copyFrom 20 = .ok (.getfield 21, 3) := by decide +kernel
theorem dX3_copyFrom_23 : decode cX3_copyFrom 23 = .ok (.aload_n 1, 1) := by decide +kernel
theorem dX3_copyFrom_24 : decode cX3_copyFrom 24 = .ok (.getfield 21, 3) := by decide +kernel
theorem dX3_copyFrom_27 : decode cX3_copyFrom 27 = .ok (.invokevirtual 47, 3) := by decide +kernel
theorem dX3_copyFrom_30 : decode cX3_copyFrom 30 = .ok (.aload_n 0, 1) := by decide +kernel
theorem dX3_copyFrom_31 : decode cX3_copyFrom 31 = .ok (.getfield 25, 3) := by decide +kernel
theorem dX3_copyFrom_34 : decode cX3_copyFrom 34 = .ok (.aload_n 1, 1) := by decide +kernel
theorem dX3_copyFrom_35 : decode cX3_copyFrom 35 = .ok (.getfield 25, 3) := by decide +kernel
theorem dX3_copyFrom_38 : decode cX3_copyFrom 38 = .ok (.invokevirtual 47, 3) := by decide +kernel
theorem dX3_copyFrom_41 : decode cX3_copyFrom 41 = .ok (.aload_n 1, 1) := by decide +kernel
theorem dX3_copyFrom_42 : decode cX3_copyFrom 42 = .ok (.getfield 28, 3) := by decide +kernel
theorem dX3_copyFrom_45 : decode cX3_copyFrom 45 = .ok (.aload_n 0, 1) := by decide +kernel
theorem dX3_copyFrom_46 : decode cX3_copyFrom 46 = .ok (.getfield 28, 3) := by decide +kernel
theorem dX3_copyFrom_49 : decode cX3_copyFrom 49 = .ok (.invokestatic 50, 3) := by decide +kernel
theorem dX3_copyFrom_52 : decode cX3_copyFrom 52 = .ok (.aload_n 0, 1) := by decide +kernel
theorem dX3_copyFrom_53 : decode cX3_copyFrom 53 = .ok (.getfield 35, 3) := by decide +kernel
theorem dX3_copyFrom_56 : decode cX3_copyFrom 56 = .ok (.aload_n 1, 1) := by decide +kernel
theorem dX3_copyFrom_57 : decode cX3_copyFrom 57 = .ok (.getfield 35, 3) := by decide +kernel
theorem dX3_copyFrom_60 : decode cX3_copyFrom 60 = .ok (.invokevirtual 54, 3) := by decide +kernel
theorem dX3_copyFrom_63 : decode cX3_copyFrom 63 = .ok (.return_, 1) := by decide +kernel
theorem dX3_findResult_0 : decode cX3_findResult 0 = .ok (.aload_n 0, 1) := by decide +kernel
theorem dX3_findResult_1 : decode cX3_findResult 1 = .ok (.getfield 35, 3) := by decide +kernel
theorem dX3_findResult_4 : decode cX3_findResult 4 = .ok (.dup, 1) := by decide +kernel
theorem dX3_findResult_5 : decode cX3_findResult 5 = .ok (.getfield 57, 3) := by decide +kernel
theorem dX3_findResult_8 : decode cX3_findResult 8 = .ok (.iconst 1, 1) := by decide +kernel
theorem dX3_findResult_9 : decode cX3_findResult 9 = .ok (.iadd, 1) := by decide +kernel
theorem dX3_findResult_10 : decode cX3_findResult 10 = .ok (.putfield 57, 3) := by decide +kernel
theorem dX3_findResult_13 : decode cX3_findResult 13 = .ok (.iload_n 1, 1) := by decide +kernel
theorem dX3_findResult_14 : decode cX3_findResult 14 = .ok (.istore_n 2, 1) := by decide +kernel
theorem dX3_findResult_15 : decode cX3_findResult 15 = .ok (.iconst 0, 1) := by decide +kernel
theorem dX3_findResult_16 : decode cX3_findResult 16 = .ok (.istore_n 3, 1) := by decide +kernel
theorem dX3_findResult_17 : decode cX3_findResult 17 = .ok (.iload_n 3, 1) := by decide +kernel
theorem dX3_findResult_18 : decode cX3_findResult 18 = .ok (.bipush 6, 2) := by decide +kernel
theorem dX3_findResult_20 : decode cX3_findResult 20 = .ok (.if_icmp .gt 44, 3) := by decide +kernel
theorem dX3_findResult_23 : decode cX3_findResult 23 = .ok (.aload_n 0, 1) := by decide +kernel
theorem dX3_findResult_24 : decode cX3_findResult 24 = .ok (.iload_n 2, 1) := by decide +kernel
theorem dX3_findResult_25 : decode cX3_findResult 25 = .ok (.invokevirtual 60, 3) := by decide +kernel
theorem dX3_findResult_28 : decode cX3_findResult 28 = .ok (.aload_n 0, 1) := by decide +kernel
theorem dX3_findResult_29 : decode cX3_findResult 29 = .ok (.getfield 25, 3) := by decide +kernel
theorem dX3_findResult_32 : decode cX3_findResult 32 = .ok (.iload_n 2, 1) := by decide +kernel
theorem dX3_findResult_33 : decode cX3_findResult 33 = .ok (.invokevirtual 64, 3) := by decide +kernel
theorem dX3_findResult_36 : decode cX3_findResult 36 = .ok (.iconst 2, 1) := by decide +kernel
theorem dX3_findResult_37 : decode cX3_findResult 37 = .ok (.if_icmp .eq 12, 3) := by decide +kernel
theorem dX3_findResult_40 : decode cX3_findResult 40 = .ok (.aload_n 0, 1) := by decide +kernel
theorem dX3_findResult_41 : decode cX3_findResult 41 = .ok (.getfield 25, 3) := by decide +kernel
theorem dX3_findResult_44 : decode cX3_findResult 44 = .ok (.iload_n 2, 1) := by decide +kernel
theorem dX3_findResult_45 : decode cX3_findResult 45 = .ok (.invokevirtual 68, 3) := by decide +kernel
theorem dX3_findResult_48 : decode cX3_findResult 48 = .ok (.ireturn, 1) := by decide +kernel
theorem dX3_findResult_49 : decode cX3_findResult 49 = .ok (.aload_n 0, 1) := by decide +kernel
theorem dX3_findResult_50 : decode cX3_findResult 50 = .ok (.getfield 25, 3) := by decide +kernel
theorem dX3_findResult_53 : decode cX3_findResult 53 = .ok (.iload_n 2, 1) := by decide +kernel
theorem dX3_findResult_54 : decode cX3_findResult 54 = .ok (.invokevirtual 68, 3) := by decide +kernel
theorem dX3_findResult_57 : decode cX3_findResult 57 = .ok (.istore_n 2, 1) := by decide +kernel
theorem dX3_findResult_58 : decode cX3_findResult 58 = .ok (.iinc 3 1, 3) := by decide +kernel
theorem dX3_findResult_61 : decode cX3_findResult 61 = .ok (.goto (-44), 3) := by decide +kernel
theorem dX3_findResult_64 : decode cX3_findResult 64 = .ok (.bipush (-2), 2) := by decide +kernel
theorem dX3_findResult_66 : decode cX3_findResult 66 = .ok (.ireturn, 1) := by decide +kernel
theorem dX3_takeReply_0 : decode cX3_takeReply 0 = .ok (.aload_n 0, 1) := by decide +kernel
theorem dX3_takeReply_1 : decode cX3_takeReply 1 = .ok (.getfield 25, 3) := by decide +kernel
theorem dX3_takeReply_4 : decode cX3_takeReply 4 = .ok (.iload_n 1, 1) := by decide +kernel
theorem dX3_takeReply_5 : decode cX3_takeReply 5 = .ok (.invokevirtual 64, 3) := by decide +kernel
theorem dX3_takeReply_8 : decode cX3_takeReply 8 = .ok (.ifCond .eq 17, 3) := by decide +kernel
theorem dX3_takeReply_11 : decode cX3_takeReply 11 = .ok (.aload_n 0, 1) := by decide +kernel
theorem dX3_takeReply_12 : decode cX3_takeReply 12 = .ok (.getfield 35, 3) := by decide +kernel
theorem dX3_takeReply_15 : decode cX3_takeReply 15 = .ok (.dup, 1) := by decide +kernel
theorem dX3_takeReply_16 : decode cX3_takeReply 16 = .ok (.getfield 71, 3) := by decide +kernel
theorem dX3_takeReply_19 : decode cX3_takeReply 19 = .ok (.iconst 1, 1) := by decide +kernel
theorem dX3_takeReply_20 : decode cX3_takeReply 20 = .ok (.iadd, 1) := by decide +kernel
theorem dX3_takeReply_21 : decode cX3_takeReply 21 = .ok (.putfield 71, 3) := by decide +kernel
theorem dX3_takeReply_24 : decode cX3_takeReply 24 = .ok (.return_, 1) := by decide +kernel
theorem dX3_takeReply_25 : decode cX3_takeReply 25 = .ok (.iload_n 1, 1) := by decide +kernel
theorem dX3_takeReply_26 : decode cX3_takeReply 26 = .ok (.bipush 6, 2) := by decide +kernel
theorem dX3_takeReply_28 : decode cX3_takeReply 28 = .ok (.idiv, 1) := by decide +kernel
theorem dX3_takeReply_29 : decode cX3_takeReply 29 = .ok (.istore_n 2, 1) := by decide +kernel
theorem dX3_takeReply_30 : decode cX3_takeReply 30 = .ok (.aload_n 0, 1) := by decide +kernel
theorem dX3_takeReply_31 : decode cX3_takeReply 31 = .ok (.iload_n 2, 1) := by decide +kernel
theorem dX3_takeReply_32 : decode cX3_takeReply 32 = .ok (.invokevirtual 74, 3) := by decide +kernel
theorem dX3_takeReply_35 : decode cX3_takeReply 35 = .ok (.aload_n 0, 1) := by decide +kernel
theorem dX3_takeReply_36 : decode cX3_takeReply 36 = .ok (.iload_n 1, 1) := by decide +kernel
theorem dX3_takeReply_37 : decode cX3_takeReply 37 = .ok (.iload_n 2, 1) := by decide +kernel
theorem dX3_takeReply_38 : decode cX3_takeReply 38 = .ok (.invokevirtual 77, 3) := by decide +kernel
theorem dX3_takeReply_41 : decode cX3_takeReply 41 = .ok (.return_, 1) := by decide +kernel
theorem dX3_askTheWay_0 : decode cX3_askTheWay 0 = .ok (.aload_n 0, 1) := by decide +kernel
theorem dX3_askTheWay_1 : decode cX3_askTheWay 1 = .ok (.iload_n 1, 1) := by decide +kernel
theorem dX3_askTheWay_2 : decode cX3_askTheWay 2 = .ok (.iconst 0, 1) := by decide +kernel
theorem dX3_askTheWay_3 : decode cX3_askTheWay 3 = .ok (.invokevirtual 81, 3) := by decide +kernel
theorem dX3_askTheWay_6 : decode cX3_askTheWay 6 = .ok (.istore_n 2, 1) := by decide +kernel
theorem dX3_askTheWay_7 : decode cX3_askTheWay 7 = .ok (.iconst 0, 1) := by decide +kernel
theorem dX3_askTheWay_8 : decode cX3_askTheWay 8 = .ok (.istore_n 3, 1) := by decide +kernel
theorem dX3_askTheWay_9 : decode cX3_askTheWay 9 = .ok (.iload_n 3, 1) := by decide +kernel
theorem dX3_askTheWay_10 : decode cX3_askTheWay 10 = .ok (.bipush 6, 2) := by decide +kernel
theorem dX3_askTheWay_12 : decode cX3_askTheWay 12 = .ok (.if_icmp .ge 77, 3) := by decide +kernel
theorem dX3_askTheWay_15 : decode cX3_askTheWay 15 = .ok (.iload_n 2, 1) := by decide +kernel
theorem dX3_askTheWay_16 : decode cX3_askTheWay 16 = .ok (.iload_n 3, 1) := by decide +kernel
theorem dX3_askTheWay_17 : decode cX3_askTheWay 17 = .ok (.ishr, 1) := by decide +kernel
theorem dX3_askTheWay_18 : decode cX3_askTheWay 18 = .ok (.iconst 1, 1) := by decide +kernel
theorem dX3_askTheWay_19 : decode cX3_askTheWay 19 = .ok (.iand, 1) := by decide +kernel
theorem dX3_askTheWay_20 : decode cX3_askTheWay 20 = .ok (.ifCond .eq 63, 3) := by decide +kernel
theorem dX3_askTheWay_23 : decode cX3_askTheWay 23 = .ok (.aload_n 0, 1) := by decide +kernel
theorem dX3_askTheWay_24 : decode cX3_askTheWay 24 = .ok (.getfield 12, 3) := by decide +kernel
theorem dX3_askTheWay_27 : decode cX3_askTheWay 27 = .ok (.getfield 85, 3) := by decide +kernel
theorem dX3_askTheWay_30 : decode cX3_askTheWay 30 = .ok (.iload_n 3, 1) := by decide +kernel
theorem dX3_askTheWay_31 : decode cX3_askTheWay 31 = .ok (.invokestatic 88, 3) := by decide +kernel
theorem dX3_askTheWay_34 : decode cX3_askTheWay 34 = .ok (.istore 4, 2) := by decide +kernel
theorem dX3_askTheWay_36 : decode cX3_askTheWay 36 = .ok (.aload_n 0, 1) := by decide +kernel
theorem dX3_askTheWay_37 : decode cX3_askTheWay 37 = .ok (.getfield 35, 3) := by decide +kernel
theorem dX3_askTheWay_40 : decode cX3_askTheWay 40 = .ok (.iload 4, 2) := by decide +kernel
theorem dX3_askTheWay_42 : decode cX3_askTheWay 42 = .ok (.invokevirtual 92, 3) := by decide +kernel
theorem dX3_askTheWay_45 : decode cX3_askTheWay 45 = .ok (.aload_n 0, 1) := by decide +kernel
theorem dX3_askTheWay_46 : decode cX3_askTheWay 46 = .ok (.getfield 28, 3) := by decide +kernel
theorem dX3_askTheWay_49 : decode cX3_askTheWay 49 = .ok (.iload_n 3, 1) := by decide +kernel
theorem dX3_askTheWay_50 : decode cX3_askTheWay 50 = .ok (.aload_n 0, 1) := by decide +kernel
theorem dX3_askTheWay_51 : decode cX3_askTheWay 51 = .ok (.getfield 39, 3) := by decide +kernel
theorem dX3_askTheWay_54 : decode cX3_askTheWay 54 = .ok (.aload_n 0, 1) := by decide +kernel
theorem dX3_askTheWay_55 : decode cX3_askTheWay 55 = .ok (.getfield 12, 3) := by decide +kernel
theorem dX3_askTheWay_58 : decode cX3_askTheWay 58 = .ok (.getfield 95, 3) := by decide +kernel
theorem dX3_askTheWay_61 : decode cX3_askTheWay 61 = .ok (.iload 4, 2) := by decide +kernel
theorem dX3_askTheWay_63 : decode cX3_askTheWay 63 = .ok (.invokestatic 88, 3) := by decide +kernel
theorem dX3_askTheWay_66 : decode cX3_askTheWay 66 = .ok (.iadd, 1) := by decide +kernel
theorem dX3_askTheWay_67 : decode cX3_askTheWay 67 = .ok (.invokestatic 98, 3) := by decide +kernel
theorem dX3_askTheWay_70 : decode cX3_askTheWay 70 = .ok (.aload_n 0, 1) := by decide +kernel
theorem dX3_askTheWay_71 : decode cX3_askTheWay 71 = .ok (.getfield 35, 3) := by decide +kernel
theorem dX3_askTheWay_74 : decode cX3_askTheWay 74 = .ok (.dup, 1) := by decide +kernel
theorem dX3_askTheWay_75 : decode cX3_askTheWay 75 = .ok (.getfield 102, 3) := by decide +kernel
theorem dX3_askTheWay_78 : decode cX3_askTheWay 78 = .ok (.iconst 1, 1) := by decide +kernel
theorem dX3_askTheWay_79 : decode cX3_askTheWay 79 = .ok (.iadd, 1) := by decide +kernel
theorem dX3_askTheWay_80 : decode cX3_askTheWay 80 = .ok (.putfield 102, 3) := by decide +kernel
theorem dX3_askTheWay_83 : decode cX3_askTheWay 83 = .ok (.iinc 3 1, 3) := by decide +kernel
theorem dX3_askTheWay_86 : decode cX3_askTheWay 86 = .ok (.goto (-77), 3) := by decide +kernel
theorem dX3_askTheWay_89 : decode cX3_askTheWay 89 = .ok (.return_, 1) := by decide +kernel
theorem dX3_askRiddle_0 : decode cX3_askRiddle 0 = .ok (.aload_n 0, 1) := by decide +kernel
theorem dX3_askRiddle_1 : decode cX3_askRiddle 1 = .ok (.getfield 35, 3) := by decide +kernel
theorem dX3_askRiddle_4 : decode cX3_askRiddle 4 = .ok (.iload_n 2, 1) := by decide +kernel
theorem dX3_askRiddle_5 : decode cX3_askRiddle 5 = .ok (.invokevirtual 92, 3) := by decide +kernel
theorem dX3_askRiddle_8 : decode cX3_askRiddle 8 = .ok (.aload_n 0, 1) := by decide +kernel
theorem dX3_askRiddle_9 : decode cX3_askRiddle 9 = .ok (.getfield 21, 3) := by decide +kernel
theorem dX3_askRiddle_12 : decode cX3_askRiddle 12 = .ok (.iload_n 1, 1) := by decide +kernel
theorem dX3_askRiddle_13 : decode cX3_askRiddle 13 = .ok (.invokevirtual 64, 3) := by decide +kernel
theorem dX3_askRiddle_16 : decode cX3_askRiddle 16 = .ok (.istore_n 3, 1) := by decide +kernel
theorem dX3_askRiddle_17 : decode cX3_askRiddle 17 = .ok (.iload_n 3, 1) := by decide +kernel
theorem dX3_askRiddle_18 : decode cX3_askRiddle 18 = .ok (.ifCond .ne 32, 3) := by decide +kernel
theorem dX3_askRiddle_21 : decode cX3_askRiddle 21 = .ok (.aload_n 0, 1) := by decide +kernel
theorem dX3_askRiddle_22 : decode cX3_askRiddle 22 = .ok (.getfield 25, 3) := by decide +kernel
theorem dX3_askRiddle_25 : decode cX3_askRiddle 25 = .ok (.iload_n 1, 1) := by decide +kernel
theorem dX3_askRiddle_26 : decode cX3_askRiddle 26 = .ok (.iconst 3, 1) := by decide +kernel
theorem dX3_askRiddle_27 : decode cX3_askRiddle 27 = .ok (.iconst (-1), 1) := by decide +kernel
theorem dX3_askRiddle_28 : decode cX3_askRiddle 28 = .ok (.aload_n 0, 1) := by decide +kernel
theorem dX3_askRiddle_29 : decode cX3_askRiddle 29 = .ok (.getfield 39, 3) := by decide +kernel
theorem dX3_askRiddle_32 : decode cX3_askRiddle 32 = .ok (.aload_n 0, 1) := by decide +kernel
theorem dX3_askRiddle_33 : decode cX3_askRiddle 33 = .ok (.getfield 12, 3) := by decide +kernel
theorem dX3_askRiddle_36 : decode cX3_askRiddle 36 = .ok (.getfield 105, 3) := by decide +kernel
theorem dX3_askRiddle_39 : decode cX3_askRiddle 39 = .ok (.iload_n 2, 1) := by decide +kernel
theorem dX3_askRiddle_40 : decode cX3_askRiddle 40 = .ok (.invokestatic 88, 3) := by decide +kernel
theorem dX3_askRiddle_43 : decode cX3_askRiddle 43 = .ok (.iadd, 1) := by decide +kernel
theorem dX3_askRiddle_44 : decode cX3_askRiddle 44 = .ok (.invokevirtual 108, 3) := by decide +kernel
theorem dX3_askRiddle_47 : decode cX3_askRiddle 47 = .ok (.goto 33, 3) := by decide +kernel
theorem dX3_askRiddle_50 : decode cX3_askRiddle 50 = .ok (.aload_n 0, 1) := by decide +kernel
theorem dX3_askRiddle_51 : decode cX3_askRiddle 51 = .ok (.getfield 25, 3) := by decide +kernel
theorem dX3_askRiddle_54 : decode cX3_askRiddle 54 = .ok (.iload_n 1, 1) := by decide +kernel
theorem dX3_askRiddle_55 : decode cX3_askRiddle 55 = .ok (.iload_n 3, 1) := by decide +kernel
theorem dX3_askRiddle_56 : decode cX3_askRiddle 56 = .ok (.aload_n 0, 1) := by decide +kernel
theorem dX3_askRiddle_57 : decode cX3_askRiddle 57 = .ok (.getfield 21, 3) := by decide +kernel
theorem dX3_askRiddle_60 : decode cX3_askRiddle 60 = .ok (.iload_n 1, 1) := by decide +kernel
theorem dX3_askRiddle_61 : decode cX3_askRiddle 61 = .ok (.invokevirtual 68, 3) := by decide +kernel
theorem dX3_askRiddle_64 : decode cX3_askRiddle 64 = .ok (.aload_n 0, 1) := by decide +kernel
theorem dX3_askRiddle_65 : decode cX3_askRiddle 65 = .ok (.getfield 39, 3) := by decide +kernel
theorem dX3_askRiddle_68 : decode cX3_askRiddle 68 = .ok (.aload_n 0, 1) := by decide +kernel
theorem dX3_askRiddle_69 : decode cX3_askRiddle 69 = .ok (.getfield 21, 3) := by decide +kernel
theorem dX3_askRiddle_72 : decode cX3_askRiddle 72 = .ok (.iload_n 1, 1) := by decide +kernel
theorem dX3_askRiddle_73 : decode cX3_askRiddle 73 = .ok (.invokevirtual 112, 3) := by decide +kernel
theorem dX3_askRiddle_76 : decode cX3_askRiddle 76 = .ok (.iadd, 1) := by decide +kernel
theorem dX3_askRiddle_77 : decode cX3_askRiddle 77 = .ok (.invokevirtual 108, 3) := by decide +kernel
theorem dX3_askRiddle_80 : decode cX3_askRiddle 80 = .ok (.aload_n 0, 1) := by decide +kernel
theorem dX3_askRiddle_81 : decode cX3_askRiddle 81 = .ok (.getfield 35, 3) := by decide +kernel
theorem dX3_askRiddle_84 : decode cX3_askRiddle 84 = .ok (.dup, 1) := by decide +kernel
theorem dX3_askRiddle_85 : decode cX3_askRiddle 85 = .ok (.getfield 102, 3) := by decide +kernel
theorem dX3_askRiddle_88 : decode cX3_askRiddle 88 = .ok (.iconst 1, 1) := by decide +kernel
theorem dX3_askRiddle_89 : decode cX3_askRiddle 89 = .ok (.iadd, 1) := by decide +kernel
theorem dX3_askRiddle_90 : decode cX3_askRiddle 90 = .ok (.putfield 102, 3) := by decide +kernel
theorem dX3_askRiddle_93 : decode cX3_askRiddle 93 = .ok (.return_, 1) := by decide +kernel
theorem dX3_lackingReferrals_0 : decode cX3_lackingReferrals 0 = .ok (.iconst 0, 1) := by decide +kernel
theorem dX3_lackingReferrals_1 : decode cX3_lackingReferrals 1 = .ok (.istore_n 3, 1) := by decide +kernel
theorem dX3_lackingReferrals_2 : decode cX3_lackingReferrals 2 = .ok (.iload_n 1, 1) := by decide +kernel
theorem dX3_lackingReferrals_3 : decode cX3_lackingReferrals 3 = .ok (.istore 4, 2) := by decide +kernel
theorem dX3_lackingReferrals_5 : decode cX3_lackingReferrals 5 = .ok (.iconst 0, 1) := by decide +kernel
theorem dX3_lackingReferrals_6 : decode cX3_lackingReferrals 6 = .ok (.istore 5, 2) := by decide +kernel
theorem dX3_lackingReferrals_8 : decode cX3_lackingReferrals 8 = .ok (.iload 5, 2) := by decide +kernel
theorem dX3_lackingReferrals_10 : decode cX3_lackingReferrals 10 = .ok (.bipush 6, 2) := by decide +kernel
theorem dX3_lackingReferrals_12 : decode cX3_lackingReferrals 12 = .ok (.if_icmp .ge 40, 3) := by decide +kernel
theorem dX3_lackingReferrals_15 : decode cX3_lackingReferrals 15 = .ok (.aload_n 0, 1) := by decide +kernel
theorem dX3_lackingReferrals_16 : decode cX3_lackingReferrals 16 = .ok (.iload 4, 2) := by decide +kernel
theorem dX3_lackingReferrals_18 : decode cX3_lackingReferrals 18 = .ok (.iload_n 2, 1) := by decide +kernel
theorem dX3_lackingReferrals_19 : decode cX3_lackingReferrals 19 = .ok (.invokevirtual 115, 3) := by decide +kernel
theorem dX3_lackingReferrals_22 : decode cX3_lackingReferrals 22 = .ok (.ifCond .eq 30, 3) := by decide +kernel
theorem dX3_lackingReferrals_25 : decode cX3_lackingReferrals 25 = .ok (.iload_n 3, 1) := by decide +kernel
theorem dX3_lackingReferrals_26 : decode cX3_lackingReferrals 26 = .ok (.iconst 1, 1) := by decide +kernel
theorem dX3_lackingReferrals_27 : decode cX3_lackingReferrals 27 = .ok (.iload 4, 2) := by decide +kernel
theorem dX3_lackingReferrals_29 : decode cX3_lackingReferrals 29 = .ok (.ishl, 1) := by decide +kernel
theorem dX3_lackingReferrals_30 : decode cX3_lackingReferrals 30 = .ok (.ior, 1) := by decide +kernel
theorem dX3_lackingReferrals_31 : decode cX3_lackingReferrals 31 = .ok (.istore_n 3, 1) := by decide +kernel
theorem dX3_lackingReferrals_32 : decode cX3_lackingReferrals 32 = .ok (.aload_n 0, 1) := by decide +kernel
theorem dX3_lackingReferrals_33 : decode cX3_lackingReferrals 33 = .ok (.getfield 12, 3) := by decide +kernel
theorem dX3_lackingReferrals_36 : decode cX3_lackingReferrals 36 = .ok (.getfield 85, 3) := by decide +kernel
theorem dX3_lackingReferrals_39 : decode cX3_lackingReferrals 39 = .ok (.iload 4, 2) := by decide +kernel
theorem dX3_lackingReferrals_41 : decode cX3_lackingReferrals 41 = .ok (.invokestatic 88, 3) := by decide +kernel
theorem dX3_lackingReferrals_44 : decode cX3_lackingReferrals 44 = .ok (.istore 4, 2) := by decide +kernel
theorem dX3_lackingReferrals_46 : decode cX3_lackingReferrals 46 = .ok (.iinc 5 1, 3) := by decide +kernel
theorem dX3_lackingReferrals_49 : decode cX3_lackingReferrals 49 = .ok (.goto (-41), 3) := by decide +kernel
theorem dX3_lackingReferrals_52 : decode cX3_lackingReferrals 52 = .ok (.iload_n 3, 1) := by decide +kernel
theorem dX3_lackingReferrals_53 : decode cX3_lackingReferrals 53 = .ok (.ireturn, 1) := by decide +kernel
theorem dX3_lacksReferral_0 : decode cX3_lacksReferral 0 = .ok (.iload_n 1, 1) := by decide +kernel
theorem dX3_lacksReferral_1 : decode cX3_lacksReferral 1 = .ok (.ifCond .le 33, 3) := by decide +kernel
theorem dX3_lacksReferral_4 : decode cX3_lacksReferral 4 = .ok (.iload_n 1, 1) := by decide +kernel
theorem dX3_lacksReferral_5 : decode cX3_lacksReferral 5 = .ok (.aload_n 0, 1) := by decide +kernel
theorem dX3_lacksReferral_6 : decode cX3_lacksReferral 6 = .ok (.getfield 28, 3) := by decide +kernel
theorem dX3_lacksReferral_9 : decode cX3_lacksReferral 9 = .ok (.arraylength, 1) := by decide +kernel
theorem dX3_lacksReferral_10 : decode cX3_lacksReferral 10 = .ok (.if_icmp .ge 24, 3) := by decide +kernel
theorem dX3_lacksReferral_13 : decode cX3_lacksReferral 13 = .ok (.aload_n 0, 1) := by decide +kernel
theorem dX3_lacksReferral_14 : decode cX3_lacksReferral 14 = .ok (.getfield 28, 3) := by decide +kernel
theorem dX3_lacksReferral_17 : decode cX3_lacksReferral 17 = .ok (.iload_n 1, 1) := by decide +kernel
theorem dX3_lacksReferral_18 : decode cX3_lacksReferral 18 = .ok (.iaload, 1) := by decide +kernel
theorem dX3_lacksReferral_19 : decode cX3_lacksReferral 19 = .ok (.ifCond .ne 15, 3) := by decide +kernel
theorem dX3_lacksReferral_22 : decode cX3_lacksReferral 22 = .ok (.iload_n 2, 1) := by decide +kernel
theorem dX3_lacksReferral_23 : decode cX3_lacksReferral 23 = .ok (.iload_n 1, 1) := by decide +kernel
theorem dX3_lacksReferral_24 : decode cX3_lacksReferral 24 = .ok (.ishr, 1) := by decide +kernel
theorem dX3_lacksReferral_25 : decode cX3_lacksReferral 25 = .ok (.iconst 1, 1) := by decide +kernel
theorem dX3_lacksReferral_26 : decode cX3_lacksReferral 26 = .ok (.iand, 1) := by decide +kernel
theorem dX3_lacksReferral_27 : decode cX3_lacksReferral 27 = .ok (.ifCond .ne 7, 3) := by decide +kernel
theorem dX3_lacksReferral_30 : decode cX3_lacksReferral 30 = .ok (.iconst 1, 1) := by decide +kernel
theorem dX3_lacksReferral_31 : decode cX3_lacksReferral 31 = .ok (.goto 4, 3) := by decide +kernel
theorem dX3_lacksReferral_34 : decode cX3_lacksReferral 34 = .ok (.iconst 0, 1) := by decide +kernel
theorem dX3_lacksReferral_35 : decode cX3_lacksReferral 35 = .ok (.ireturn, 1) := by decide +kernel
theorem dX3_dropReply_0 : decode cX3_dropReply 0 = .ok (.aload_n 0, 1) := by decide +kernel
theorem dX3_dropReply_1 : decode cX3_dropReply 1 = .ok (.getfield 25, 3) := by decide +kernel
theorem dX3_dropReply_4 : decode cX3_dropReply 4 = .ok (.iload_n 1, 1) := by decide +kernel
theorem dX3_dropReply_5 : decode cX3_dropReply 5 = .ok (.iconst 0, 1) := by decide +kernel
theorem dX3_dropReply_6 : decode cX3_dropReply 6 = .ok (.iconst (-1), 1) := by decide +kernel
theorem dX3_dropReply_7 : decode cX3_dropReply 7 = .ok (.iconst 0, 1) := by decide +kernel
theorem dX3_dropReply_8 : decode cX3_dropReply 8 = .ok (.invokevirtual 108, 3) := by decide +kernel
theorem dX3_dropReply_11 : decode cX3_dropReply 11 = .ok (.aload_n 0, 1) := by decide +kernel
theorem dX3_dropReply_12 : decode cX3_dropReply 12 = .ok (.getfield 35, 3) := by decide +kernel
theorem dX3_dropReply_15 : decode cX3_dropReply 15 = .ok (.dup, 1) := by decide +kernel
theorem dX3_dropReply_16 : decode cX3_dropReply 16 = .ok (.getfield 119, 3) := by decide +kernel
theorem dX3_dropReply_19 : decode cX3_dropReply 19 = .ok (.iconst 1, 1) := by decide +kernel
theorem dX3_dropReply_20 : decode cX3_dropReply 20 = .ok (.iadd, 1) := by decide +kernel
theorem dX3_dropReply_21 : decode cX3_dropReply 21 = .ok (.putfield 119, 3) := by decide +kernel
theorem dX3_dropReply_24 : decode cX3_dropReply 24 = .ok (.return_, 1) := by decide +kernel
theorem dX3_dropReferral_0 : decode cX3_dropReferral 0 = .ok (.aload_n 0, 1) := by decide +kernel
theorem dX3_dropReferral_1 : decode cX3_dropReferral 1 = .ok (.getfield 28, 3) := by decide +kernel
theorem dX3_dropReferral_4 : decode cX3_dropReferral 4 = .ok (.iload_n 1, 1) := by decide +kernel
theorem dX3_dropReferral_5 : decode cX3_dropReferral 5 = .ok (.iconst 0, 1) := by decide +kernel
theorem dX3_dropReferral_6 : decode cX3_dropReferral 6 = .ok (.invokestatic 98, 3) := by decide +kernel
theorem dX3_dropReferral_9 : decode cX3_dropReferral 9 = .ok (.aload_n 0, 1) := by decide +kernel
theorem dX3_dropReferral_10 : decode cX3_dropReferral 10 = .ok (.getfield 35, 3) := by decide +kernel
theorem dX3_dropReferral_13 : decode cX3_dropReferral 13 = .ok (.dup, 1) := by decide +kernel
theorem dX3_dropReferral_14 : decode cX3_dropReferral 14 = .ok (.getfield 119, 3) := by decide +kernel
theorem dX3_dropReferral_17 : decode cX3_dropReferral 17 = .ok (.iconst 1, 1) := by decide +kernel
theorem dX3_dropReferral_18 : decode cX3_dropReferral 18 = .ok (.iadd, 1) := by decide +kernel
theorem dX3_dropReferral_19 : decode cX3_dropReferral 19 = .ok (.putfield 119, 3) := by decide +kernel
theorem dX3_dropReferral_22 : decode cX3_dropReferral 22 = .ok (.return_, 1) := by decide +kernel
theorem dX3_hasRoomFor_0 : decode cX3_hasRoomFor 0 = .ok (.aload_n 0, 1) := by decide +kernel
theorem dX3_hasRoomFor_1 : decode cX3_hasRoomFor 1 = .ok (.getfield 39, 3) := by decide +kernel
theorem dX3_hasRoomFor_4 : decode cX3_hasRoomFor 4 = .ok (.iload_n 1, 1) := by decide +kernel
theorem dX3_hasRoomFor_5 : decode cX3_hasRoomFor 5 = .ok (.iadd, 1) := by decide +kernel
theorem dX3_hasRoomFor_6 : decode cX3_hasRoomFor 6 = .ok (.sipush 9999, 3) := by decide +kernel
theorem dX3_hasRoomFor_9 : decode cX3_hasRoomFor 9 = .ok (.if_icmp .gt 7, 3) := by decide +kernel
theorem dX3_hasRoomFor_12 : decode cX3_hasRoomFor 12 = .ok (.iconst 1, 1) := by decide +kernel
theorem dX3_hasRoomFor_13 : decode cX3_hasRoomFor 13 = .ok (.goto 4, 3) := by decide +kernel
theorem dX3_hasRoomFor_16 : decode cX3_hasRoomFor 16 = .ok (.iconst 0, 1) := by decide +kernel
theorem dX3_hasRoomFor_17 : decode cX3_hasRoomFor 17 = .ok (.ireturn, 1) := by decide +kernel
theorem dX3_letPass_0 : decode cX3_letPass 0 = .ok (.aload_n 0, 1) := by decide +kernel
theorem dX3_letPass_1 : decode cX3_letPass 1 = .ok (.dup, 1) := by decide +kernel
theorem dX3_letPass_2 : decode cX3_letPass 2 = .ok (.getfield 39, 3) := by decide +kernel
theorem dX3_letPass_5 : decode cX3_letPass 5 = .ok (.iload_n 1, 1) := by decide +kernel
theorem dX3_letPass_6 : decode cX3_letPass 6 = .ok (.iadd, 1) := by decide +kernel
theorem dX3_letPass_7 : decode cX3_letPass 7 = .ok (.putfield 39, 3) := by decide +kernel
theorem dX3_letPass_10 : decode cX3_letPass 10 = .ok (.aload_n 0, 1) := by decide +kernel
theorem dX3_letPass_11 : decode cX3_letPass 11 = .ok (.getfield 35, 3) := by decide +kernel
theorem dX3_letPass_14 : decode cX3_letPass 14 = .ok (.getfield 119, 3) := by decide +kernel
theorem dX3_letPass_17 : decode cX3_letPass 17 = .ok (.istore_n 2, 1) := by decide +kernel
theorem dX3_letPass_18 : decode cX3_letPass 18 = .ok (.iconst 0, 1) := by decide +kernel
theorem dX3_letPass_19 : decode cX3_letPass 19 = .ok (.istore_n 3, 1) := by decide +kernel
theorem dX3_letPass_20 : decode cX3_letPass 20 = .ok (.iload_n 3, 1) := by decide +kernel
theorem dX3_letPass_21 : decode cX3_letPass 21 = .ok (.bipush 6, 2) := by decide +kernel
theorem dX3_letPass_23 : decode cX3_letPass 23 = .ok (.if_icmp .ge 29, 3) := by decide +kernel
theorem dX3_letPass_26 : decode cX3_letPass 26 = .ok (.aload_n 0, 1) := by decide +kernel
theorem dX3_letPass_27 : decode cX3_letPass 27 = .ok (.aload_n 0, 1) := by decide +kernel
theorem dX3_letPass_28 : decode cX3_letPass 28 = .ok (.getfield 28, 3) := by decide +kernel
theorem dX3_letPass_31 : decode cX3_letPass 31 = .ok (.iload_n 3, 1) := by decide +kernel
theorem dX3_letPass_32 : decode cX3_letPass 32 = .ok (.invokestatic 88, 3) := by decide +kernel
theorem dX3_letPass_35 : decode cX3_letPass 35 = .ok (.invokevirtual 122, 3) := by decide +kernel
theorem dX3_letPass_38 : decode cX3_letPass 38 = .ok (.ifCond .eq 8, 3) := by decide +kernel
theorem dX3_letPass_41 : decode cX3_letPass 41 = .ok (.aload_n 0, 1) := by decide +kernel
theorem dX3_letPass_42 : decode cX3_letPass 42 = .ok (.iload_n 3, 1) := by decide +kernel
theorem dX3_letPass_43 : decode cX3_letPass 43 = .ok (.invokevirtual 126, 3) := by decide +kernel
theorem dX3_letPass_46 : decode cX3_letPass 46 = .ok (.iinc 3 1, 3) := by decide +kernel
theorem dX3_letPass_49 : decode cX3_letPass 49 = .ok (.goto (-29), 3) := by decide +kernel
theorem dX3_letPass_52 : decode cX3_letPass 52 = .ok (.iconst 0, 1) := by decide +kernel
theorem dX3_letPass_53 : decode cX3_letPass 53 = .ok (.istore_n 3, 1) := by decide +kernel
theorem dX3_letPass_54 : decode cX3_letPass 54 = .ok (.iload_n 3, 1) := by decide +kernel
theorem dX3_letPass_55 : decode cX3_letPass 55 = .ok (.bipush 36, 2) := by decide +kernel
theorem dX3_letPass_57 : decode cX3_letPass 57 = .ok (.if_icmp .ge 29, 3) := by decide +kernel
theorem dX3_letPass_60 : decode cX3_letPass 60 = .ok (.aload_n 0, 1) := by decide +kernel
theorem dX3_letPass_61 : decode cX3_letPass 61 = .ok (.aload_n 0, 1) := by decide +kernel
theorem dX3_letPass_62 : decode cX3_letPass 62 = .ok (.getfield 25, 3) := by decide +kernel
theorem dX3_letPass_65 : decode cX3_letPass 65 = .ok (.iload_n 3, 1) := by decide +kernel
theorem dX3_letPass_66 : decode cX3_letPass 66 = .ok (.invokevirtual 112, 3) := by decide +kernel
theorem dX3_letPass_69 : decode cX3_letPass 69 = .ok (.invokevirtual 122, 3) := by decide +kernel
theorem dX3_letPass_72 : decode cX3_letPass 72 = .ok (.ifCond .eq 8, 3) := by decide +kernel
theorem dX3_letPass_75 : decode cX3_letPass 75 = .ok (.aload_n 0, 1) := by decide +kernel
theorem dX3_letPass_76 : decode cX3_letPass 76 = .ok (.iload_n 3, 1) := by decide +kernel
theorem dX3_letPass_77 : decode cX3_letPass 77 = .ok (.invokevirtual 129, 3) := by decide +kernel
theorem dX3_letPass_80 : decode cX3_letPass 80 = .ok (.iinc 3 1, 3) := by decide +kernel
theorem dX3_letPass_83 : decode cX3_letPass 83 = .ok (.goto (-29), 3) := by decide +kernel
theorem dX3_letPass_86 : decode cX3_letPass 86 = .ok (.aload_n 0, 1) := by decide +kernel
theorem dX3_letPass_87 : decode cX3_letPass 87 = .ok (.getfield 35, 3) := by decide +kernel
theorem dX3_letPass_90 : decode cX3_letPass 90 = .ok (.getfield 119, 3) := by decide +kernel
theorem dX3_letPass_93 : decode cX3_letPass 93 = .ok (.iload_n 2, 1) := by decide +kernel
theorem dX3_letPass_94 : decode cX3_letPass 94 = .ok (.isub, 1) := by decide +kernel
theorem dX3_letPass_95 : decode cX3_letPass 95 = .ok (.ireturn, 1) := by decide +kernel
theorem dX3_isOver_0 : decode cX3_isOver 0 = .ok (.iload_n 1, 1) := by decide +kernel
theorem dX3_isOver_1 : decode cX3_isOver 1 = .ok (.ifCond .eq 15, 3) := by decide +kernel
theorem dX3_isOver_4 : decode cX3_isOver 4 = .ok (.iload_n 1, 1) := by decide +kernel
theorem dX3_isOver_5 : decode cX3_isOver 5 = .ok (.aload_n 0, 1) := by decide +kernel
theorem dX3_isOver_6 : decode cX3_isOver 6 = .ok (.getfield 39, 3) := by decide +kernel
theorem dX3_isOver_9 : decode cX3_isOver 9 = .ok (.if_icmp .gt 7, 3) := by decide +kernel
theorem dX3_isOver_12 : decode cX3_isOver 12 = .ok (.iconst 1, 1) := by decide +kernel
theorem dX3_isOver_13 : decode cX3_isOver 13 = .ok (.goto 4, 3) := by decide +kernel
theorem dX3_isOver_16 : decode cX3_isOver 16 = .ok (.iconst 0, 1) := by decide +kernel
theorem dX3_isOver_17 : decode cX3_isOver 17 = .ok (.ireturn, 1) := by decide +kernel
theorem dX3_ticksTo_0 : decode cX3_ticksTo 0 = .ok (.iload_n 1, 1) := by decide +kernel
theorem dX3_ticksTo_1 : decode cX3_ticksTo 1 = .ok (.ifCond .ne 7, 3) := by decide +kernel
theorem dX3_ticksTo_4 : decode cX3_ticksTo 4 = .ok (.iconst (-1), 1) := by decide +kernel
theorem dX3_ticksTo_5 : decode cX3_ticksTo 5 = .ok (.goto 9, 3) := by decide +kernel
theorem dX3_ticksTo_8 : decode cX3_ticksTo 8 = .ok (.iload_n 1, 1) := by decide +kernel
theorem dX3_ticksTo_9 : decode cX3_ticksTo 9 = .ok (.aload_n 0, 1) := by decide +kernel
theorem dX3_ticksTo_10 : decode cX3_ticksTo 10 = .ok (.getfield 39, 3) := by decide +kernel
theorem dX3_ticksTo_13 : decode cX3_ticksTo 13 = .ok (.isub, 1) := by decide +kernel
theorem dX3_ticksTo_14 : decode cX3_ticksTo 14 = .ok (.ireturn, 1) := by decide +kernel
theorem dX3_countMemory_0 : decode cX3_countMemory 0 = .ok (.iconst 0, 1) := by decide +kernel
theorem dX3_countMemory_1 : decode cX3_countMemory 1 = .ok (.istore_n 1, 1) := by decide +kernel
theorem dX3_countMemory_2 : decode cX3_countMemory 2 = .ok (.iconst 0, 1) := by decide +kernel
theorem dX3_countMemory_3 : decode cX3_countMemory 3 = .ok (.istore_n 2, 1) := by decide +kernel
theorem dX3_countMemory_4 : decode cX3_countMemory 4 = .ok (.iload_n 2, 1) := by decide +kernel
theorem dX3_countMemory_5 : decode cX3_countMemory 5 = .ok (.bipush 6, 2) := by decide +kernel
theorem dX3_countMemory_7 : decode cX3_countMemory 7 = .ok (.if_icmp .ge 28, 3) := by decide +kernel
theorem dX3_countMemory_10 : decode cX3_countMemory 10 = .ok (.iload_n 1, 1) := by decide +kernel
theorem dX3_countMemory_11 : decode cX3_countMemory 11 = .ok (.aload_n 0, 1) := by decide +kernel
theorem dX3_countMemory_12 : decode cX3_countMemory 12 = .ok (.getfield 28, 3) := by decide +kernel
theorem dX3_countMemory_15 : decode cX3_countMemory 15 = .ok (.iload_n 2, 1) := by decide +kernel
theorem dX3_countMemory_16 : decode cX3_countMemory 16 = .ok (.invokestatic 88, 3) := by decide +kernel
theorem dX3_countMemory_19 : decode cX3_countMemory 19 = .ok (.ifCond .eq 7, 3) := by decide +kernel
theorem dX3_countMemory_22 : decode cX3_countMemory 22 = .ok (.iconst 1, 1) := by decide +kernel
theorem dX3_countMemory_23 : decode cX3_countMemory 23 = .ok (.goto 4, 3) := by decide +kernel
theorem dX3_countMemory_26 : decode cX3_countMemory 26 = .ok (.iconst 0, 1) := by decide +kernel
theorem dX3_countMemory_27 : decode cX3_countMemory 27 = .ok (.iadd, 1) := by decide +kernel
theorem dX3_countMemory_28 : decode cX3_countMemory 28 = .ok (.istore_n 1, 1) := by decide +kernel
theorem dX3_countMemory_29 : decode cX3_countMemory 29 = .ok (.iinc 2 1, 3) := by decide +kernel
theorem dX3_countMemory_32 : decode cX3_countMemory 32 = .ok (.goto (-28), 3) := by decide +kernel
theorem dX3_countMemory_35 : decode cX3_countMemory 35 = .ok (.iconst 0, 1) := by decide +kernel
theorem dX3_countMemory_36 : decode cX3_countMemory 36 = .ok (.istore_n 2, 1) := by decide +kernel
theorem dX3_countMemory_37 : decode cX3_countMemory 37 = .ok (.iload_n 2, 1) := by decide +kernel
theorem dX3_countMemory_38 : decode cX3_countMemory 38 = .ok (.bipush 36, 2) := by decide +kernel
theorem dX3_countMemory_40 : decode cX3_countMemory 40 = .ok (.if_icmp .ge 28, 3) := by decide +kernel
theorem dX3_countMemory_43 : decode cX3_countMemory 43 = .ok (.iload_n 1, 1) := by decide +kernel
theorem dX3_countMemory_44 : decode cX3_countMemory 44 = .ok (.aload_n 0, 1) := by decide +kernel
theorem dX3_countMemory_45 : decode cX3_countMemory 45 = .ok (.getfield 25, 3) := by decide +kernel
theorem dX3_countMemory_48 : decode cX3_countMemory 48 = .ok (.iload_n 2, 1) := by decide +kernel
theorem dX3_countMemory_49 : decode cX3_countMemory 49 = .ok (.invokevirtual 64, 3) := by decide +kernel
theorem dX3_countMemory_52 : decode cX3_countMemory 52 = .ok (.ifCond .eq 7, 3) := by decide +kernel
theorem dX3_countMemory_55 : decode cX3_countMemory 55 = .ok (.iconst 1, 1) := by decide +kernel
theorem dX3_countMemory_56 : decode cX3_countMemory 56 = .ok (.goto 4, 3) := by decide +kernel
theorem dX3_countMemory_59 : decode cX3_countMemory 59 = .ok (.iconst 0, 1) := by decide +kernel
theorem dX3_countMemory_60 : decode cX3_countMemory 60 = .ok (.iadd, 1) := by decide +kernel
theorem dX3_countMemory_61 : decode cX3_countMemory 61 = .ok (.istore_n 1, 1) := by decide +kernel
theorem dX3_countMemory_62 : decode cX3_countMemory 62 = .ok (.iinc 2 1, 3) := by decide +kernel
theorem dX3_countMemory_65 : decode cX3_countMemory 65 = .ok (.goto (-28), 3) := by decide +kernel
theorem dX3_countMemory_68 : decode cX3_countMemory 68 = .ok (.iload_n 1, 1) := by decide +kernel
theorem dX3_countMemory_69 : decode cX3_countMemory 69 = .ok (.ireturn, 1) := by decide +kernel
theorem dX3_nextEnd_0 : decode cX3_nextEnd 0 = .ok (.iconst 0, 1) := by decide +kernel
theorem dX3_nextEnd_1 : decode cX3_nextEnd 1 = .ok (.istore_n 1, 1) := by decide +kernel
theorem dX3_nextEnd_2 : decode cX3_nextEnd 2 = .ok (.iconst 0, 1) := by decide +kernel
theorem dX3_nextEnd_3 : decode cX3_nextEnd 3 = .ok (.istore_n 2, 1) := by decide +kernel
theorem dX3_nextEnd_4 : decode cX3_nextEnd 4 = .ok (.iload_n 2, 1) := by decide +kernel
theorem dX3_nextEnd_5 : decode cX3_nextEnd 5 = .ok (.bipush 6, 2) := by decide +kernel
theorem dX3_nextEnd_7 : decode cX3_nextEnd 7 = .ok (.if_icmp .ge 22, 3) := by decide +kernel
theorem dX3_nextEnd_10 : decode cX3_nextEnd 10 = .ok (.iload_n 1, 1) := by decide +kernel
theorem dX3_nextEnd_11 : decode cX3_nextEnd 11 = .ok (.aload_n 0, 1) := by decide +kernel
theorem dX3_nextEnd_12 : decode cX3_nextEnd 12 = .ok (.getfield 28, 3) := by decide +kernel
theorem dX3_nextEnd_15 : decode cX3_nextEnd 15 = .ok (.iload_n 2, 1) := by decide +kernel
theorem dX3_nextEnd_16 : decode cX3_nextEnd 16 = .ok (.invokestatic 88, 3) := by decide +kernel
theorem dX3_nextEnd_19 : decode cX3_nextEnd 19 = .ok (.invokestatic 132, 3) := by decide +kernel
theorem dX3_nextEnd_22 : decode cX3_nextEnd 22 = .ok (.istore_n 1, 1) := by decide +kernel
theorem dX3_nextEnd_23 : decode cX3_nextEnd 23 = .ok (.iinc 2 1, 3) := by decide +kernel
theorem dX3_nextEnd_26 : decode cX3_nextEnd 26 = .ok (.goto (-22), 3) := by decide +kernel
theorem dX3_nextEnd_29 : decode cX3_nextEnd 29 = .ok (.iconst 0, 1) := by decide +kernel
theorem dX3_nextEnd_30 : decode cX3_nextEnd 30 = .ok (.istore_n 2, 1) := by decide +kernel
theorem dX3_nextEnd_31 : decode cX3_nextEnd 31 = .ok (.iload_n 2, 1) := by decide +kernel
theorem dX3_nextEnd_32 : decode cX3_nextEnd 32 = .ok (.bipush 36, 2) := by decide +kernel
theorem dX3_nextEnd_34 : decode cX3_nextEnd 34 = .ok (.if_icmp .ge 22, 3) := by decide +kernel
theorem dX3_nextEnd_37 : decode cX3_nextEnd 37 = .ok (.iload_n 1, 1) := by decide +kernel
theorem dX3_nextEnd_38 : decode cX3_nextEnd 38 = .ok (.aload_n 0, 1) := by decide +kernel
theorem dX3_nextEnd_39 : decode cX3_nextEnd 39 = .ok (.getfield 25, 3) := by decide +kernel
theorem dX3_nextEnd_42 : decode cX3_nextEnd 42 = .ok (.iload_n 2, 1) := by decide +kernel
theorem dX3_nextEnd_43 : decode cX3_nextEnd 43 = .ok (.invokevirtual 112, 3) := by decide +kernel
theorem dX3_nextEnd_46 : decode cX3_nextEnd 46 = .ok (.invokestatic 132, 3) := by decide +kernel
theorem dX3_nextEnd_49 : decode cX3_nextEnd 49 = .ok (.istore_n 1, 1) := by decide +kernel
theorem dX3_nextEnd_50 : decode cX3_nextEnd 50 = .ok (.iinc 2 1, 3) := by decide +kernel
theorem dX3_nextEnd_53 : decode cX3_nextEnd 53 = .ok (.goto (-22), 3) := by decide +kernel
theorem dX3_nextEnd_56 : decode cX3_nextEnd 56 = .ok (.iload_n 1, 1) := by decide +kernel
theorem dX3_nextEnd_57 : decode cX3_nextEnd 57 = .ok (.ireturn, 1) := by decide +kernel
theorem dX3_earlierEnd_0 : decode cX3_earlierEnd 0 = .ok (.iload_n 0, 1) := by decide +kernel
theorem dX3_earlierEnd_1 : decode cX3_earlierEnd 1 = .ok (.ifCond .ne 5, 3) := by decide +kernel
theorem dX3_earlierEnd_4 : decode cX3_earlierEnd 4 = .ok (.iload_n 1, 1) := by decide +kernel
theorem dX3_earlierEnd_5 : decode cX3_earlierEnd 5 = .ok (.ireturn, 1) := by decide +kernel
theorem dX3_earlierEnd_6 : decode cX3_earlierEnd 6 = .ok (.iload_n 1, 1) := by decide +kernel
theorem dX3_earlierEnd_7 : decode cX3_earlierEnd 7 = .ok (.ifCond .ne 7, 3) := by decide +kernel
theorem dX3_earlierEnd_10 : decode cX3_earlierEnd 10 = .ok (.iload_n 0, 1) := by decide +kernel
theorem dX3_earlierEnd_11 : decode cX3_earlierEnd 11 = .ok (.goto 8, 3) := by decide +kernel
theorem dX3_earlierEnd_14 : decode cX3_earlierEnd 14 = .ok (.iload_n 0, 1) := by decide +kernel
theorem dX3_earlierEnd_15 : decode cX3_earlierEnd 15 = .ok (.iload_n 1, 1) := by decide +kernel
theorem dX3_earlierEnd_16 : decode cX3_earlierEnd 16 = .ok (.invokestatic 135, 3) := by decide +kernel
theorem dX3_earlierEnd_19 : decode cX3_earlierEnd 19 = .ok (.ireturn, 1) := by decide +kernel
theorem dX3_differsFromTruth_0 : decode cX3_differsFromTruth 0 = .ok (.aload_n 0, 1) := by decide +kernel
theorem dX3_differsFromTruth_1 : decode cX3_differsFromTruth 1 = .ok (.getfield 25, 3) := by decide +kernel
theorem dX3_differsFromTruth_4 : decode cX3_differsFromTruth 4 = .ok (.iload_n 1, 1) := by decide +kernel
theorem dX3_differsFromTruth_5 : decode cX3_differsFromTruth 5 = .ok (.invokevirtual 64, 3) := by decide +kernel
theorem dX3_differsFromTruth_8 : decode cX3_differsFromTruth 8 = .ok (.istore_n 2, 1) := by decide +kernel
theorem dX3_differsFromTruth_9 : decode cX3_differsFromTruth 9 = .ok (.iload_n 2, 1) := by decide +kernel
theorem dX3_differsFromTruth_10 : decode cX3_differsFromTruth 10 = .ok (.ifCond .ne 5, 3) := by decide +kernel
theorem dX3_differsFromTruth_13 : decode cX3_differsFromTruth 13 = .ok (.iconst 0, 1) := by decide +kernel
theorem dX3_differsFromTruth_14 : decode cX3_differsFromTruth 14 = .ok (.ireturn, 1) := by decide +kernel
theorem dX3_differsFromTruth_15 : decode cX3_differsFromTruth 15 = .ok (.aload_n 0, 1) := by decide +kernel
theorem dX3_differsFromTruth_16 : decode cX3_differsFromTruth 16 = .ok (.getfield 21, 3) := by decide +kernel
theorem dX3_differsFromTruth_19 : decode cX3_differsFromTruth 19 = .ok (.iload_n 1, 1) := by decide +kernel
theorem dX3_differsFromTruth_20 : decode cX3_differsFromTruth 20 = .ok (.invokevirtual 64, 3) := by decide +kernel
theorem dX3_differsFromTruth_23 : decode cX3_differsFromTruth 23 = .ok (.ifCond .ne 7, 3) := by decide +kernel
theorem dX3_differsFromTruth_26 : decode cX3_differsFromTruth 26 = .ok (.iconst 3, 1) := by decide +kernel
theorem dX3_differsFromTruth_27 : decode cX3_differsFromTruth 27 = .ok (.goto 11, 3) := by decide +kernel
theorem dX3_differsFromTruth_30 : decode cX3_differsFromTruth 30 = .ok (.aload_n 0, 1) := by decide +kernel
theorem dX3_differsFromTruth_31 : decode cX3_differsFromTruth 31 = .ok (.getfield 21, 3) := by decide +kernel
theorem dX3_differsFromTruth_34 : decode cX3_differsFromTruth 34 = .ok (.iload_n 1, 1) := by decide +kernel
theorem dX3_differsFromTruth_35 : decode cX3_differsFromTruth 35 = .ok (.invokevirtual 64, 3) := by decide +kernel
theorem dX3_differsFromTruth_38 : decode cX3_differsFromTruth 38 = .ok (.istore_n 3, 1) := by decide +kernel
theorem dX3_differsFromTruth_39 : decode cX3_differsFromTruth 39 = .ok (.iload_n 2, 1) := by decide +kernel
theorem dX3_differsFromTruth_40 : decode cX3_differsFromTruth 40 = .ok (.iload_n 3, 1) := by decide +kernel
theorem dX3_differsFromTruth_41 : decode cX3_differsFromTruth 41 = .ok (.if_icmp .ne 22, 3) := by decide +kernel
theorem dX3_differsFromTruth_44 : decode cX3_differsFromTruth 44 = .ok (.aload_n 0, 1) := by decide +kernel
theorem dX3_differsFromTruth_45 : decode cX3_differsFromTruth 45 = .ok (.getfield 25, 3) := by decide +kernel
theorem dX3_differsFromTruth_48 : decode cX3_differsFromTruth 48 = .ok (.iload_n 1, 1) := by decide +kernel
theorem dX3_differsFromTruth_49 : decode cX3_differsFromTruth 49 = .ok (.invokevirtual 68, 3) := by decide +kernel
theorem dX3_differsFromTruth_52 : decode cX3_differsFromTruth 52 = .ok (.aload_n 0, 1) := by decide +kernel
theorem dX3_differsFromTruth_53 : decode cX3_differsFromTruth 53 = .ok (.getfield 21, 3) := by decide +kernel
theorem dX3_differsFromTruth_56 : decode cX3_differsFromTruth 56 = .ok (.iload_n 1, 1) := by decide +kernel
theorem dX3_differsFromTruth_57 : decode cX3_differsFromTruth 57 = .ok (.invokevirtual 68, 3) := by decide +kernel
theorem dX3_differsFromTruth_60 : decode cX3_differsFromTruth 60 = .ok (.if_icmp .eq 7, 3) := by decide +kernel
theorem dX3_differsFromTruth_63 : decode cX3_differsFromTruth 63 = .ok (.iconst 1, 1) := by decide +kernel
theorem dX3_differsFromTruth_64 : decode cX3_differsFromTruth 64 = .ok (.goto 4, 3) := by decide +kernel
theorem dX3_differsFromTruth_67 : decode cX3_differsFromTruth 67 = .ok (.iconst 0, 1) := by decide +kernel
theorem dX3_differsFromTruth_68 : decode cX3_differsFromTruth 68 = .ok (.ireturn, 1) := by decide +kernel
theorem dX3_resultAfter_0 : decode cX3_resultAfter 0 = .ok (.iload_n 2, 1) := by decide +kernel
theorem dX3_resultAfter_1 : decode cX3_resultAfter 1 = .ok (.istore_n 3, 1) := by decide +kernel
theorem dX3_resultAfter_2 : decode cX3_resultAfter 2 = .ok (.iconst 0, 1) := by decide +kernel
theorem dX3_resultAfter_3 : decode cX3_resultAfter 3 = .ok (.istore 4, 2) := by decide +kernel
theorem dX3_resultAfter_5 : decode cX3_resultAfter 5 = .ok (.iload 4, 2) := by decide +kernel
theorem dX3_resultAfter_7 : decode cX3_resultAfter 7 = .ok (.bipush 6, 2) := by decide +kernel
theorem dX3_resultAfter_9 : decode cX3_resultAfter 9 = .ok (.if_icmp .gt 63, 3) := by decide +kernel
theorem dX3_resultAfter_12 : decode cX3_resultAfter 12 = .ok (.aload_n 0, 1) := by decide +kernel
theorem dX3_resultAfter_13 : decode cX3_resultAfter 13 = .ok (.getfield 25, 3) := by decide +kernel
theorem dX3_resultAfter_16 : decode cX3_resultAfter 16 = .ok (.iload_n 3, 1) := by decide +kernel
theorem dX3_resultAfter_17 : decode cX3_resultAfter 17 = .ok (.invokevirtual 112, 3) := by decide +kernel
theorem dX3_resultAfter_20 : decode cX3_resultAfter 20 = .ok (.aload_n 0, 1) := by decide +kernel
theorem dX3_resultAfter_21 : decode cX3_resultAfter 21 = .ok (.getfield 39, 3) := by decide +kernel
theorem dX3_resultAfter_24 : decode cX3_resultAfter 24 = .ok (.iload_n 1, 1) := by decide +kernel
theorem dX3_resultAfter_25 : decode cX3_resultAfter 25 = .ok (.iadd, 1) := by decide +kernel
theorem dX3_resultAfter_26 : decode cX3_resultAfter 26 = .ok (.if_icmp .le 10, 3) := by decide +kernel
theorem dX3_resultAfter_29 : decode cX3_resultAfter 29 = .ok (.aload_n 0, 1) := by decide +kernel
theorem dX3_resultAfter_30 : decode cX3_resultAfter 30 = .ok (.getfield 25, 3) := by decide +kernel
theorem dX3_resultAfter_33 : decode cX3_resultAfter 33 = .ok (.goto 7, 3) := by decide +kernel
theorem dX3_resultAfter_36 : decode cX3_resultAfter 36 = .ok (.aload_n 0, 1) := by decide +kernel
theorem dX3_resultAfter_37 : decode cX3_resultAfter 37 = .ok (.getfield 21, 3) := by decide +kernel
theorem dX3_resultAfter_40 : decode cX3_resultAfter 40 = .ok (.astore 5, 2) := by decide +kernel
theorem dX3_resultAfter_42 : decode cX3_resultAfter 42 = .ok (.aload 5, 2) := by decide +kernel
theorem dX3_resultAfter_44 : decode cX3_resultAfter 44 = .ok (.iload_n 3, 1) := by decide +kernel
theorem dX3_resultAfter_45 : decode cX3_resultAfter 45 = .ok (.invokevirtual 64, 3) := by decide +kernel
theorem dX3_resultAfter_48 : decode cX3_resultAfter 48 = .ok (.iconst 2, 1) := by decide +kernel
theorem dX3_resultAfter_49 : decode cX3_resultAfter 49 = .ok (.if_icmp .eq 10, 3) := by decide +kernel
theorem dX3_resultAfter_52 : decode cX3_resultAfter 52 = .ok (.aload 5, 2) := by decide +kernel
theorem dX3_resultAfter_54 : decode cX3_resultAfter 54 = .ok (.iload_n 3, 1) := by decide +kernel
theorem dX3_resultAfter_55 : decode cX3_resultAfter 55 = .ok (.invokevirtual 68, 3) := by decide +kernel
theorem dX3_resultAfter_58 : decode cX3_resultAfter 58 = .ok (.ireturn, 1) := by decide +kernel
theorem dX3_resultAfter_59 : decode cX3_resultAfter 59 = .ok (.aload 5, 2) := by decide +kernel
theorem dX3_resultAfter_61 : decode cX3_resultAfter 61 = .ok (.iload_n 3, 1) := by decide +kernel
theorem dX3_resultAfter_62 : decode cX3_resultAfter 62 = .ok (.invokevirtual 68, 3) := by decide +kernel
theorem dX3_resultAfter_65 : decode cX3_resultAfter 65 = .ok (.istore_n 3, 1) := by decide +kernel
theorem dX3_resultAfter_66 : decode cX3_resultAfter 66 = .ok (.iinc 4 1, 3) := by decide +kernel
theorem dX3_resultAfter_69 : decode cX3_resultAfter 69 = .ok (.goto (-64), 3) := by decide +kernel
theorem dX3_resultAfter_72 : decode cX3_resultAfter 72 = .ok (.bipush (-2), 2) := by decide +kernel
theorem dX3_resultAfter_74 : decode cX3_resultAfter 74 = .ok (.ireturn, 1) := by decide +kernel
theorem dX3_trueResult_0 : decode cX3_trueResult 0 = .ok (.aload_n 0, 1) := by decide +kernel
theorem dX3_trueResult_1 : decode cX3_trueResult 1 = .ok (.bipush 99, 2) := by decide +kernel
theorem dX3_trueResult_3 : decode cX3_trueResult 3 = .ok (.iload_n 1, 1) := by decide +kernel
theorem dX3_trueResult_4 : decode cX3_trueResult 4 = .ok (.invokevirtual 140, 3) := by decide +kernel
theorem dX3_trueResult_7 : decode cX3_trueResult 7 = .ok (.ireturn, 1) := by decide +kernel
theorem dX3_waitForTruth_0 : decode cX3_waitForTruth 0 = .ok (.aload_n 0, 1) := by decide +kernel
theorem dX3_waitForTruth_1 : decode cX3_waitForTruth 1 = .ok (.iload_n 1, 1) := by decide +kernel
theorem dX3_waitForTruth_2 : decode cX3_waitForTruth 2 = .ok (.invokevirtual 143, 3) := by decide +kernel
theorem dX3_waitForTruth_5 : decode cX3_waitForTruth 5 = .ok (.istore_n 2, 1) := by decide +kernel
theorem dX3_waitForTruth_6 : decode cX3_waitForTruth 6 = .ok (.iconst 0, 1) := by decide +kernel
theorem dX3_waitForTruth_7 : decode cX3_waitForTruth 7 = .ok (.istore_n 3, 1) := by decide +kernel
theorem dX3_waitForTruth_8 : decode cX3_waitForTruth 8 = .ok (.iload_n 3, 1) := by decide +kernel
theorem dX3_waitForTruth_9 : decode cX3_waitForTruth 9 = .ok (.bipush 99, 2) := by decide +kernel
theorem dX3_waitForTruth_11 : decode cX3_waitForTruth 11 = .ok (.if_icmp .ge 19, 3) := by decide +kernel
theorem dX3_waitForTruth_14 : decode cX3_waitForTruth 14 = .ok (.aload_n 0, 1) := by decide +kernel
theorem dX3_waitForTruth_15 : decode cX3_waitForTruth 15 = .ok (.iload_n 3, 1) := by decide +kernel
theorem dX3_waitForTruth_16 : decode cX3_waitForTruth 16 = .ok (.iload_n 1, 1) := by decide +kernel
theorem dX3_waitForTruth_17 : decode cX3_waitForTruth 17 = .ok (.invokevirtual 140, 3) := by decide +kernel
theorem dX3_waitForTruth_20 : decode cX3_waitForTruth 20 = .ok (.iload_n 2, 1) := by decide +kernel
theorem dX3_waitForTruth_21 : decode cX3_waitForTruth 21 = .ok (.if_icmp .eq 9, 3) := by decide +kernel
theorem dX3_waitForTruth_24 : decode cX3_waitForTruth 24 = .ok (.iinc 3 1, 3) := by decide +kernel
theorem dX3_waitForTruth_27 : decode cX3_waitForTruth 27 = .ok (.goto (-19), 3) := by decide +kernel
theorem dX3_waitForTruth_30 : decode cX3_waitForTruth 30 = .ok (.iload_n 3, 1) := by decide +kernel
theorem dX3_waitForTruth_31 : decode cX3_waitForTruth 31 = .ok (.ireturn, 1) := by decide +kernel
theorem dX3_countQuestions_0 : decode cX3_countQuestions 0 = .ok (.iconst 0, 1) := by decide +kernel
theorem dX3_countQuestions_1 : decode cX3_countQuestions 1 = .ok (.istore_n 2, 1) := by decide +kernel
theorem dX3_countQuestions_2 : decode cX3_countQuestions 2 = .ok (.iconst 0, 1) := by decide +kernel
theorem dX3_countQuestions_3 : decode cX3_countQuestions 3 = .ok (.istore_n 3, 1) := by decide +kernel
theorem dX3_countQuestions_4 : decode cX3_countQuestions 4 = .ok (.lconst 0, 1) := by decide +kernel
theorem dX3_countQuestions_5 : decode cX3_countQuestions 5 = .ok (.lstore 4, 2) := by decide +kernel
theorem dX3_countQuestions_7 : decode cX3_countQuestions 7 = .ok (.iload_n 1, 1) := by decide +kernel
theorem dX3_countQuestions_8 : decode cX3_countQuestions 8 = .ok (.istore 6, 2) := by decide +kernel
theorem dX3_countQuestions_10 : decode cX3_countQuestions 10 = .ok (.iconst 0, 1) := by decide +kernel
theorem dX3_countQuestions_11 : decode cX3_countQuestions 11 = .ok (.istore 7, 2) := by decide +kernel
theorem dX3_countQuestions_13 : decode cX3_countQuestions 13 = .ok (.iload 7, 2) := by decide +kernel
theorem dX3_countQuestions_15 : decode cX3_countQuestions 15 = .ok (.bipush 6, 2) := by decide +kernel
theorem dX3_countQuestions_17 : decode cX3_countQuestions 17 = .ok (.if_icmp .gt 121, 3) := by decide +kernel
theorem dX3_countQuestions_20 : decode cX3_countQuestions 20 = .ok (.aload_n 0, 1) := by decide +kernel
theorem dX3_countQuestions_21 : decode cX3_countQuestions 21 = .ok (.getfield 25, 3) := by decide +kernel
theorem dX3_countQuestions_24 : decode cX3_countQuestions 24 = .ok (.iload 6, 2) := by decide +kernel
theorem dX3_countQuestions_26 : decode cX3_countQuestions 26 = .ok (.invokevirtual 64, 3) := by decide +kernel
theorem dX3_countQuestions_29 : decode cX3_countQuestions 29 = .ok (.ifCond .eq 7, 3) := by decide +kernel
theorem dX3_countQuestions_32 : decode cX3_countQuestions 32 = .ok (.iconst 1, 1) := by decide +kernel
theorem dX3_countQuestions_33 : decode cX3_countQuestions 33 = .ok (.goto 4, 3) := by decide +kernel
theorem dX3_countQuestions_36 : decode cX3_countQuestions 36 = .ok (.iconst 0, 1) := by decide +kernel
theorem dX3_countQuestions_37 : decode cX3_countQuestions 37 = .ok (.istore 8, 2) := by decide +kernel
theorem dX3_countQuestions_39 : decode cX3_countQuestions 39 = .ok (.iload 8, 2) := by decide +kernel
theorem dX3_countQuestions_41 : decode cX3_countQuestions 41 = .ok (.ifCond .ne 51, 3) := by decide +kernel
theorem dX3_countQuestions_44 : decode cX3_countQuestions 44 = .ok (.lload 4, 2) := by decide +kernel
theorem dX3_countQuestions_46 : decode cX3_countQuestions 46 = .ok (.iload 6, 2) := by decide +kernel
theorem dX3_countQuestions_48 : decode cX3_countQuestions 48 = .ok (.lshr, 1) := by decide +kernel
theorem dX3_countQuestions_49 : decode cX3_countQuestions 49 = .ok (.lconst 1, 1) := by decide +kernel
theorem dX3_countQuestions_50 : decode cX3_countQuestions 50 = .ok (.land, 1) := by decide +kernel
theorem dX3_countQuestions_51 : decode cX3_countQuestions 51 = .ok (.lconst 0, 1) := by decide +kernel
theorem dX3_countQuestions_52 : decode cX3_countQuestions 52 = .ok (.lcmp, 1) := by decide +kernel
theorem dX3_countQuestions_53 : decode cX3_countQuestions 53 = .ok (.ifCond .ne 39, 3) := by decide +kernel
theorem dX3_countQuestions_56 : decode cX3_countQuestions 56 = .ok (.aload_n 0, 1) := by decide +kernel
theorem dX3_countQuestions_57 : decode cX3_countQuestions 57 = .ok (.iload 6, 2) := by decide +kernel
theorem dX3_countQuestions_59 : decode cX3_countQuestions 59 = .ok (.bipush 6, 2) := by decide +kernel
theorem dX3_countQuestions_61 : decode cX3_countQuestions 61 = .ok (.idiv, 1) := by decide +kernel
theorem dX3_countQuestions_62 : decode cX3_countQuestions 62 = .ok (.iload_n 3, 1) := by decide +kernel
theorem dX3_countQuestions_63 : decode cX3_countQuestions 63 = .ok (.invokevirtual 81, 3) := by decide +kernel
theorem dX3_countQuestions_66 : decode cX3_countQuestions 66 = .ok (.istore 9, 2) := by decide +kernel
theorem dX3_countQuestions_68 : decode cX3_countQuestions 68 = .ok (.iload_n 2, 1) := by decide +kernel
theorem dX3_countQuestions_69 : decode cX3_countQuestions 69 = .ok (.iload 9, 2) := by decide +kernel
theorem dX3_countQuestions_71 : decode cX3_countQuestions 71 = .ok (.invokestatic 146, 3) := by decide +kernel
theorem dX3_countQuestions_74 : decode cX3_countQuestions 74 = .ok (.iconst 1, 1) := by decide +kernel
theorem dX3_countQuestions_75 : decode cX3_countQuestions 75 = .ok (.iadd, 1) := by decide +kernel
theorem dX3_countQuestions_76 : decode cX3_countQuestions 76 = .ok (.iadd, 1) := by decide +kernel
theorem dX3_countQuestions_77 : decode cX3_countQuestions 77 = .ok (.istore_n 2, 1) := by decide +kernel
theorem dX3_countQuestions_78 : decode cX3_countQuestions 78 = .ok (.iload_n 3, 1) := by decide +kernel
theorem dX3_countQuestions_79 : decode cX3_countQuestions 79 = .ok (.iload 9, 2) := by decide +kernel
theorem dX3_countQuestions_81 : decode cX3_countQuestions 81 = .ok (.ior, 1) := by decide +kernel
theorem dX3_countQuestions_82 : decode cX3_countQuestions 82 = .ok (.istore_n 3, 1) := by decide +kernel
theorem dX3_countQuestions_83 : decode cX3_countQuestions 83 = .ok (.lload 4, 2) := by decide +kernel
theorem dX3_countQuestions_85 : decode cX3_countQuestions 85 = .ok (.lconst 1, 1) := by decide +kernel
theorem dX3_countQuestions_86 : decode cX3_countQuestions 86 = .ok (.iload 6, 2) := by decide +kernel
theorem dX3_countQuestions_88 : decode cX3_countQuestions 88 = .ok (.lshl, 1) := by decide +kernel
theorem dX3_countQuestions_89 : decode cX3_countQuestions 89 = .ok (.lor, 1) := by decide +kernel
theorem dX3_countQuestions_90 : decode cX3_countQuestions 90 = .ok (.lstore 4, 2) := by decide +kernel
theorem dX3_countQuestions_92 : decode cX3_countQuestions 92 = .ok (.iload 8, 2) := by decide +kernel
theorem dX3_countQuestions_94 : decode cX3_countQuestions 94 = .ok (.ifCond .eq 10, 3) := by decide +kernel
theorem dX3_countQuestions_97 : decode cX3_countQuestions 97 = .ok (.aload_n 0, 1) := by decide +kernel
theorem dX3_countQuestions_98 : decode cX3_countQuestions 98 = .ok (.getfield 25, 3) := by decide +kernel
theorem dX3_countQuestions_101 : decode cX3_countQuestions 101 = .ok (.goto 7, 3) := by decide +kernel
theorem dX3_countQuestions_104 : decode cX3_countQuestions 104 = .ok (.aload_n 0, 1) := by decide +kernel
theorem dX3_countQuestions_105 : decode cX3_countQuestions 105 = .ok (.getfield 21, 3) := by decide +kernel
theorem dX3_countQuestions_108 : decode cX3_countQuestions 108 = .ok (.astore 9, 2) := by decide +kernel
theorem dX3_countQuestions_110 : decode cX3_countQuestions 110 = .ok (.aload 9, 2) := by decide +kernel
theorem dX3_countQuestions_112 : decode cX3_countQuestions 112 = .ok (.iload 6, 2) := by decide +kernel
theorem dX3_countQuestions_114 : decode cX3_countQuestions 114 = .ok (.invokevirtual 64, 3) := by decide +kernel
theorem dX3_countQuestions_117 : decode cX3_countQuestions 117 = .ok (.iconst 2, 1) := by decide +kernel
theorem dX3_countQuestions_118 : decode cX3_countQuestions 118 = .ok (.if_icmp .eq 5, 3) := by decide +kernel
theorem dX3_countQuestions_121 : decode cX3_countQuestions 121 = .ok (.iload_n 2, 1) := by decide +kernel
theorem dX3_countQuestions_122 : decode cX3_countQuestions 122 = .ok (.ireturn, 1) := by decide +kernel
theorem dX3_countQuestions_123 : decode cX3_countQuestions 123 = .ok (.aload 9, 2) := by decide +kernel
theorem dX3_countQuestions_125 : decode cX3_countQuestions 125 = .ok (.iload 6, 2) := by decide +kernel
theorem dX3_countQuestions_127 : decode cX3_countQuestions 127 = .ok (.invokevirtual 68, 3) := by decide +kernel
theorem dX3_countQuestions_130 : decode cX3_countQuestions 130 = .ok (.istore 6, 2) := by decide +kernel
theorem dX3_countQuestions_132 : decode cX3_countQuestions 132 = .ok (.iinc 7 1, 3) := by decide +kernel
theorem dX3_countQuestions_135 : decode cX3_countQuestions 135 = .ok (.goto (-122), 3) := by decide +kernel
theorem dX3_countQuestions_138 : decode cX3_countQuestions 138 = .ok (.iload_n 2, 1) := by decide +kernel
theorem dX3_countQuestions_139 : decode cX3_countQuestions 139 = .ok (.ireturn, 1) := by decide +kernel
theorem dX4_init_0 : decode cX4_init 0 = .ok (.aload_n 0, 1) := by decide +kernel
theorem dX4_init_1 : decode cX4_init 1 = .ok (.invokespecial 3, 3) := by decide +kernel
theorem dX4_init_4 : decode cX4_init 4 = .ok (.aload_n 0, 1) := by decide +kernel
theorem dX4_init_5 : decode cX4_init 5 = .ok (.bipush 6, 2) := by decide +kernel
theorem dX4_init_7 : decode cX4_init 7 = .ok (.newarray .int, 2) := by decide +kernel
theorem dX4_init_9 : decode cX4_init 9 = .ok (.putfield 9, 3) := by decide +kernel
theorem dX4_init_12 : decode cX4_init 12 = .ok (.aload_n 0, 1) := by decide +kernel
theorem dX4_init_13 : decode cX4_init 13 = .ok (.bipush 6, 2) := by decide +kernel
theorem dX4_init_15 : decode cX4_init 15 = .ok (.newarray .int, 2) := by decide +kernel
theorem dX4_init_17 : decode cX4_init 17 = .ok (.putfield 15, 3) := by decide +kernel
theorem dX4_init_20 : decode cX4_init 20 = .ok (.aload_n 0, 1) := by decide +kernel
theorem dX4_init_21 : decode cX4_init 21 = .ok (.bipush 6, 2) := by decide +kernel
theorem dX4_init_23 : decode cX4_init 23 = .ok (.newarray .int, 2) := by decide +kernel
theorem dX4_init_25 : decode cX4_init 25 = .ok (.putfield 18, 3) := by decide +kernel
theorem dX4_init_28 : decode cX4_init 28 = .ok (.iconst 0, 1) := by decide +kernel
theorem dX4_init_29 : decode cX4_init 29 = .ok (.istore_n 1, 1) := by decide +kernel
theorem dX4_init_30 : decode cX4_init 30 = .ok (.iload_n 1, 1) := by decide +kernel
theorem dX4_init_31 : decode cX4_init 31 = .ok (.bipush 6, 2) := by decide +kernel
theorem dX4_init_33 : decode cX4_init 33 = .ok (.if_icmp .ge 43, 3) := by decide +kernel
theorem dX4_init_36 : decode cX4_init 36 = .ok (.aload_n 0, 1) := by decide +kernel
theorem dX4_init_37 : decode cX4_init 37 = .ok (.getfield 9, 3) := by decide +kernel
theorem dX4_init_40 : decode cX4_init 40 = .ok (.iload_n 1, 1) := by decide +kernel
theorem dX4_init_41 : decode cX4_init 41 = .ok (.iload_n 1, 1) := by decide +kernel
theorem dX4_init_42 : decode cX4_init 42 = .ok (.ifCond .ne 7, 3) := by decide +kernel
theorem dX4_init_45 : decode cX4_init 45 = .ok (.iconst (-1), 1) := by decide +kernel
theorem dX4_init_46 : decode cX4_init 46 = .ok (.goto 8, 3) := by decide +kernel
theorem dX4_init_49 : decode cX4_init 49 = .ok (.iload_n 1, 1) := by decide +kernel
theorem dX4_init_50 : decode cX4_init 50 = .ok (.iconst 1, 1) := by decide +kernel
theorem dX4_init_51 : decode cX4_init 51 = .ok (.isub, 1) := by decide +kernel
theorem dX4_init_52 : decode cX4_init 52 = .ok (.iconst 2, 1) := by decide +kernel
theorem dX4_init_53 : decode cX4_init 53 = .ok (.idiv, 1) := by decide +kernel
theorem dX4_init_54 : decode cX4_init 54 = .ok (.iastore, 1) := by decide +kernel
theorem dX4_init_55 : decode cX4_init 55 = .ok (.aload_n 0, 1) := by decide +kernel
theorem dX4_init_56 : decode cX4_init 56 = .ok (.getfield 15, 3) := by decide +kernel
theorem dX4_init_59 : decode cX4_init 59 = .ok (.iload_n 1, 1) := by decide +kernel
theorem dX4_init_60 : decode cX4_init 60 = .ok (.bipush 20, 2) := by decide +kernel
theorem dX4_init_62 : decode cX4_init 62 = .ok (.iastore, 1) := by decide +kernel
theorem dX4_init_63 : decode cX4_init 63 = .ok (.aload_n 0, 1) := by decide +kernel
theorem dX4_init_64 : decode cX4_init 64 = .ok (.getfield 18, 3) := by decide +kernel
theorem dX4_init_67 : decode cX4_init 67 = .ok (.iload_n 1, 1) := by decide +kernel
theorem dX4_init_68 : decode cX4_init 68 = .ok (.iconst 5, 1) := by decide +kernel
theorem dX4_init_69 : decode cX4_init 69 = .ok (.iastore, 1) := by decide +kernel
theorem dX4_init_70 : decode cX4_init 70 = .ok (.iinc 1 1, 3) := by decide +kernel
theorem dX4_init_73 : decode cX4_init 73 = .ok (.goto (-43), 3) := by decide +kernel
theorem dX4_init_76 : decode cX4_init 76 = .ok (.return_, 1) := by decide +kernel
theorem dX4_copyFrom_0 : decode cX4_copyFrom 0 = .ok (.aload_n 1, 1) := by decide +kernel
theorem dX4_copyFrom_1 : decode cX4_copyFrom 1 = .ok (.getfield 9, 3) := by decide +kernel
theorem dX4_copyFrom_4 : decode cX4_copyFrom 4 = .ok (.aload_n 0, 1) := by decide +kernel
theorem dX4_copyFrom_5 : decode cX4_copyFrom 5 = .ok (.getfield 9, 3) := by decide +kernel
theorem dX4_copyFrom_8 : decode cX4_copyFrom 8 = .ok (.invokestatic 21, 3) := by decide +kernel
theorem dX4_copyFrom_11 : decode cX4_copyFrom 11 = .ok (.aload_n 1, 1) := by decide +kernel
theorem dX4_copyFrom_12 : decode cX4_copyFrom 12 = .ok (.getfield 15, 3) := by decide +kernel
theorem dX4_copyFrom_15 : decode cX4_copyFrom 15 = .ok (.aload_n 0, 1) := by decide +kernel
theorem dX4_copyFrom_16 : decode cX4_copyFrom 16 = .ok (.getfield 15, 3) := by decide +kernel
theorem dX4_copyFrom_19 : decode cX4_copyFrom 19 = .ok (.invokestatic 21, 3) := by decide +kernel
theorem dX4_copyFrom_22 : decode cX4_copyFrom 22 = .ok (.aload_n 1, 1) := by decide +kernel
theorem dX4_copyFrom_23 : decode cX4_copyFrom 23 = .ok (.getfield 18, 3) := by decide +kernel
theorem dX4_copyFrom_26 : decode cX4_copyFrom 26 = .ok (.aload_n 0, 1) := by decide +kernel
theorem dX4_copyFrom_27 : decode cX4_copyFrom 27 = .ok (.getfield 18, 3) := by decide +kernel
theorem dX4_copyFrom_30 : decode cX4_copyFrom 30 = .ok (.invokestatic 21, 3) := by decide +kernel
theorem dX4_copyFrom_33 : decode cX4_copyFrom 33 = .ok (.return_, 1) := by decide +kernel
theorem dX4_stepsToRoot_0 : decode cX4_stepsToRoot 0 = .ok (.iconst 0, 1) := by decide +kernel
theorem dX4_stepsToRoot_1 : decode cX4_stepsToRoot 1 = .ok (.istore_n 2, 1) := by decide +kernel
theorem dX4_stepsToRoot_2 : decode cX4_stepsToRoot 2 = .ok (.iload_n 1, 1) := by decide +kernel
theorem dX4_stepsToRoot_3 : decode cX4_stepsToRoot 3 = .ok (.istore_n 3, 1) := by decide +kernel
theorem dX4_stepsToRoot_4 : decode cX4_stepsToRoot 4 = .ok (.iload_n 3, 1) := by decide +kernel
theorem dX4_stepsToRoot_5 : decode cX4_stepsToRoot 5 = .ok (.ifCond .eq 24, 3) := by decide +kernel
theorem dX4_stepsToRoot_8 : decode cX4_stepsToRoot 8 = .ok (.iload_n 2, 1) := by decide +kernel
theorem dX4_stepsToRoot_9 : decode cX4_stepsToRoot 9 = .ok (.bipush 6, 2) := by decide +kernel
theorem dX4_stepsToRoot_11 : decode cX4_stepsToRoot 11 = .ok (.if_icmp .ge 18, 3) := by decide +kernel
theorem dX4_stepsToRoot_14 : decode cX4_stepsToRoot 14 = .ok (.aload_n 0, 1) := by decide +kernel
theorem dX4_stepsToRoot_15 : decode cX4_stepsToRoot 15 = .ok (.getfield 9, 3) := by decide +kernel
theorem dX4_stepsToRoot_18 : decode cX4_stepsToRoot 18 = .ok (.iload_n 3, 1) := by decide +kernel
theorem dX4_stepsToRoot_19 : decode cX4_stepsToRoot 19 = .ok (.invokestatic 25, 3) := by decide +kernel
theorem dX4_stepsToRoot_22 : decode cX4_stepsToRoot 22 = .ok (.istore_n 3, 1) := by decide +kernel
theorem dX4_stepsToRoot_23 : decode cX4_stepsToRoot 23 = .ok (.iinc 2 1, 3) := by decide +kernel
theorem dX4_stepsToRoot_26 : decode cX4_stepsToRoot 26 = .ok (.goto (-22), 3) := by decide +kernel
theorem dX4_stepsToRoot_29 : decode cX4_stepsToRoot 29 = .ok (.iload_n 2, 1) := by decide +kernel
theorem dX4_stepsToRoot_30 : decode cX4_stepsToRoot 30 = .ok (.ireturn, 1) := by decide +kernel
theorem dX5_init_0 : decode cX5_init 0 = .ok (.aload_n 0, 1) := by decide +kernel
theorem dX5_init_1 : decode cX5_init 1 = .ok (.invokespecial 1, 3) := by decide +kernel
theorem dX5_init_4 : decode cX5_init 4 = .ok (.aload_n 0, 1) := by decide +kernel
theorem dX5_init_5 : decode cX5_init 5 = .ok (.new 7, 3) := by decide +kernel
theorem dX5_init_8 : decode cX5_init 8 = .ok (.dup, 1) := by decide +kernel
theorem dX5_init_9 : decode cX5_init 9 = .ok (.invokespecial 9, 3) := by decide +kernel
theorem dX5_init_12 : decode cX5_init 12 = .ok (.putfield 10, 3) := by decide +kernel
theorem dX5_init_15 : decode cX5_init 15 = .ok (.aload_n 0, 1) := by decide +kernel
theorem dX5_init_16 : decode cX5_init 16 = .ok (.bipush 6, 2) := by decide +kernel
theorem dX5_init_18 : decode cX5_init 18 = .ok (.anewarray 7, 3) := by decide +kernel
theorem dX5_init_21 : decode cX5_init 21 = .ok (.putfield 16, 3) := by decide +kernel
theorem dX5_init_24 : decode cX5_init 24 = .ok (.iconst 0, 1) := by decide +kernel
theorem dX5_init_25 : decode cX5_init 25 = .ok (.istore_n 1, 1) := by decide +kernel
theorem dX5_init_26 : decode cX5_init 26 = .ok (.iload_n 1, 1) := by decide +kernel
theorem dX5_init_27 : decode cX5_init 27 = .ok (.bipush 6, 2) := by decide +kernel
theorem dX5_init_29 : decode cX5_init 29 = .ok (.if_icmp .ge 22, 3) := by decide +kernel
theorem dX5_init_32 : decode cX5_init 32 = .ok (.aload_n 0, 1) := by decide +kernel
theorem dX5_init_33 : decode cX5_init 33 = .ok (.getfield 16, 3) := by decide +kernel
theorem dX5_init_36 : decode cX5_init 36 = .ok (.iload_n 1, 1) := by decide +kernel
theorem dX5_init_37 : decode cX5_init 37 = .ok (.new 7, 3) := by decide +kernel
theorem dX5_init_40 : decode cX5_init 40 = .ok (.dup, 1) := by decide +kernel
theorem dX5_init_41 : decode cX5_init 41 = .ok (.invokespecial 9, 3) := by decide +kernel
theorem dX5_init_44 : decode cX5_init 44 = .ok (.aastore, 1) := by decide +kernel
theorem dX5_init_45 : decode cX5_init 45 = .ok (.iinc 1 1, 3) := by decide +kernel
theorem dX5_init_48 : decode cX5_init 48 = .ok (.goto (-22), 3) := by decide +kernel
theorem dX5_init_51 : decode cX5_init 51 = .ok (.aload_n 0, 1) := by decide +kernel
theorem dX5_init_52 : decode cX5_init 52 = .ok (.iconst 0, 1) := by decide +kernel
theorem dX5_init_53 : decode cX5_init 53 = .ok (.putfield 20, 3) := by decide +kernel
theorem dX5_init_56 : decode cX5_init 56 = .ok (.aload_n 0, 1) := by decide +kernel
theorem dX5_init_57 : decode cX5_init 57 = .ok (.new 24, 3) := by decide +kernel
theorem dX5_init_60 : decode cX5_init 60 = .ok (.dup, 1) := by decide +kernel
theorem dX5_init_61 : decode cX5_init 61 = .ok (.invokespecial 26, 3) := by decide +kernel
theorem dX5_init_64 : decode cX5_init 64 = .ok (.putfield 27, 3) := by decide +kernel
theorem dX5_init_67 : decode cX5_init 67 = .ok (.return_, 1) := by decide +kernel
theorem dX5_setParent_0 : decode cX5_setParent 0 = .ok (.iload_n 1, 1) := by decide +kernel
theorem dX5_setParent_1 : decode cX5_setParent 1 = .ok (.invokestatic 31, 3) := by decide +kernel
theorem dX5_setParent_4 : decode cX5_setParent 4 = .ok (.iload_n 1, 1) := by decide +kernel
theorem dX5_setParent_5 : decode cX5_setParent 5 = .ok (.ifCond .ne 13, 3) := by decide +kernel
theorem dX5_setParent_8 : decode cX5_setParent 8 = .ok (.new 35, 3) := by decide +kernel
theorem dX5_setParent_11 : decode cX5_setParent 11 = .ok (.dup, 1) := by decide +kernel
theorem dX5_setParent_12 : decode cX5_setParent 12 = .ok (.ldc 37, 2) := by decide +kernel
theorem dX5_setParent_14 : decode cX5_setParent 14 = .ok (.invokespecial 39, 3) := by decide +kernel
theorem dX5_setParent_17 : decode cX5_setParent 17 = .ok (.athrow, 1) := by decide +kernel
theorem dX5_setParent_18 : decode cX5_setParent 18 = .ok (.iload_n 2, 1) := by decide +kernel
theorem dX5_setParent_19 : decode cX5_setParent 19 = .ok (.iconst 0, 1) := by decide +kernel
theorem dX5_setParent_20 : decode cX5_setParent 20 = .ok (.iload_n 1, 1) := by decide +kernel
theorem dX5_setParent_21 : decode cX5_setParent 21 = .ok (.iconst 1, 1) := by decide +kernel
theorem dX5_setParent_22 : decode cX5_setParent 22 = .ok (.isub, 1) := by decide +kernel
theorem dX5_setParent_23 : decode cX5_setParent 23 = .ok (.invokestatic 42, 3) := by decide +kernel
theorem dX5_setParent_26 : decode cX5_setParent 26 = .ok (.aload_n 0, 1) := by decide +kernel
theorem dX5_setParent_27 : decode cX5_setParent 27 = .ok (.invokevirtual 46, 3) := by decide +kernel
theorem dX5_setParent_30 : decode cX5_setParent 30 = .ok (.aload_n 0, 1) := by decide +kernel
theorem dX5_setParent_31 : decode cX5_setParent 31 = .ok (.getfield 10, 3) := by decide +kernel
theorem dX5_setParent_34 : decode cX5_setParent 34 = .ok (.getfield 49, 3) := by decide +kernel
theorem dX5_setParent_37 : decode cX5_setParent 37 = .ok (.getfield 53, 3) := by decide +kernel
theorem dX5_setParent_40 : decode cX5_setParent 40 = .ok (.iload_n 1, 1) := by decide +kernel
theorem dX5_setParent_41 : decode cX5_setParent 41 = .ok (.invokestatic 59, 3) := by decide +kernel
theorem dX5_setParent_44 : decode cX5_setParent 44 = .ok (.istore_n 3, 1) := by decide +kernel
theorem dX5_setParent_45 : decode cX5_setParent 45 = .ok (.aload_n 0, 1) := by decide +kernel
theorem dX5_setParent_46 : decode cX5_setParent 46 = .ok (.getfield 10, 3) := by decide +kernel
theorem dX5_setParent_49 : decode cX5_setParent 49 = .ok (.getfield 49, 3) := by decide +kernel
theorem dX5_setParent_52 : decode cX5_setParent 52 = .ok (.getfield 53, 3) := by decide +kernel
theorem dX5_setParent_55 : decode cX5_setParent 55 = .ok (.iload_n 1, 1) := by decide +kernel
theorem dX5_setParent_56 : decode cX5_setParent 56 = .ok (.iload_n 2, 1) := by decide +kernel
theorem dX5_setParent_57 : decode cX5_setParent 57 = .ok (.invokestatic 63, 3) := by decide +kernel
theorem dX5_setParent_60 : decode cX5_setParent 60 = .ok (.iload_n 3, 1) := by decide +kernel
theorem dX5_setParent_61 : decode cX5_setParent 61 = .ok (.ireturn, 1) := by decide +kernel
theorem dX5_setAges_0 : decode cX5_setAges 0 = .ok (.iload_n 1, 1) := by decide +kernel
theorem dX5_setAges_1 : decode cX5_setAges 1 = .ok (.invokestatic 31, 3) := by decide +kernel
theorem dX5_setAges_4 : decode cX5_setAges 4 = .ok (.iload_n 2, 1) := by decide +kernel
theorem dX5_setAges_5 : decode cX5_setAges 5 = .ok (.iconst 1, 1) := by decide +kernel
theorem dX5_setAges_6 : decode cX5_setAges 6 = .ok (.bipush 99, 2) := by decide +kernel
theorem dX5_setAges_8 : decode cX5_setAges 8 = .ok (.invokestatic 42, 3) := by decide +kernel
theorem dX5_setAges_11 : decode cX5_setAges 11 = .ok (.iload_n 3, 1) := by decide +kernel
theorem dX5_setAges_12 : decode cX5_setAges 12 = .ok (.iconst 1, 1) := by decide +kernel
theorem dX5_setAges_13 : decode cX5_setAges 13 = .ok (.bipush 99, 2) := by decide +kernel
theorem dX5_setAges_15 : decode cX5_setAges 15 = .ok (.invokestatic 42, 3) := by decide +kernel
theorem dX5_setAges_18 : decode cX5_setAges 18 = .ok (.aload_n 0, 1) := by decide +kernel
theorem dX5_setAges_19 : decode cX5_setAges 19 = .ok (.invokevirtual 46, 3) := by decide +kernel
theorem dX5_setAges_22 : decode cX5_setAges 22 = .ok (.aload_n 0, 1) := by decide +kernel
theorem dX5_setAges_23 : decode cX5_setAges 23 = .ok (.getfield 10, 3) := by decide +kernel
theorem dX5_setAges_26 : decode cX5_setAges 26 = .ok (.getfield 49, 3) := by decide +kernel
theorem dX5_setAges_29 : decode cX5_setAges 29 = .ok (.getfield 67, 3) := by decide +kernel
theorem dX5_setAges_32 : decode cX5_setAges 32 = .ok (.iload_n 1, 1) := by decide +kernel
theorem dX5_setAges_33 : decode cX5_setAges 33 = .ok (.invokestatic 59, 3) := by decide +kernel
theorem dX5_setAges_36 : decode cX5_setAges 36 = .ok (.istore 4, 2) := by decide +kernel
theorem dX5_setAges_38 : decode cX5_setAges 38 = .ok (.aload_n 0, 1) := by decide +kernel
theorem dX5_setAges_39 : decode cX5_setAges 39 = .ok (.getfield 10, 3) := by decide +kernel
theorem dX5_setAges_42 : decode cX5_setAges 42 = .ok (.getfield 49, 3) := by decide +kernel
theorem dX5_setAges_45 : decode cX5_setAges 45 = .ok (.getfield 67, 3) := by decide +kernel
theorem dX5_setAges_48 : decode cX5_setAges 48 = .ok (.iload_n 1, 1) := by decide +kernel
theorem dX5_setAges_49 : decode cX5_setAges 49 = .ok (.iload_n 2, 1) := by decide +kernel
theorem dX5_setAges_50 : decode cX5_setAges 50 = .ok (.invokestatic 63, 3) := by decide +kernel
theorem dX5_setAges_53 : decode cX5_setAges 53 = .ok (.aload_n 0, 1) := by decide +kernel
theorem dX5_setAges_54 : decode cX5_setAges 54 = .ok (.getfield 10, 3) := by decide +kernel
theorem dX5_setAges_57 : decode cX5_setAges 57 = .ok (.getfield 49, 3) := by decide +kernel
theorem dX5_setAges_60 : decode cX5_setAges 60 = .ok (.getfield 70, 3) := by decide +kernel
theorem dX5_setAges_63 : decode cX5_setAges 63 = .ok (.iload_n 1, 1) := by decide +kernel
theorem dX5_setAges_64 : decode cX5_setAges 64 = .ok (.iload_n 3, 1) := by decide +kernel
theorem dX5_setAges_65 : decode cX5_setAges 65 = .ok (.invokestatic 63, 3) := by decide +kernel
theorem dX5_setAges_68 : decode cX5_setAges 68 = .ok (.iload 4, 2) := by decide +kernel
theorem dX5_setAges_70 : decode cX5_setAges 70 = .ok (.ireturn, 1) := by decide +kernel
theorem dX5_setAnswer_0 : decode cX5_setAnswer 0 = .ok (.iload_n 1, 1) := by decide +kernel
theorem dX5_setAnswer_1 : decode cX5_setAnswer 1 = .ok (.invokestatic 73, 3) := by decide +kernel
theorem dX5_setAnswer_4 : decode cX5_setAnswer 4 = .ok (.iload_n 2, 1) := by decide +kernel
theorem dX5_setAnswer_5 : decode cX5_setAnswer 5 = .ok (.iconst 0, 1) := by decide +kernel
theorem dX5_setAnswer_6 : decode cX5_setAnswer 6 = .ok (.bipush 99, 2) := by decide +kernel
theorem dX5_setAnswer_8 : decode cX5_setAnswer 8 = .ok (.invokestatic 42, 3) := by decide +kernel
theorem dX5_setAnswer_11 : decode cX5_setAnswer 11 = .ok (.iload_n 3, 1) := by decide +kernel
theorem dX5_setAnswer_12 : decode cX5_setAnswer 12 = .ok (.iconst 1, 1) := by decide +kernel
theorem dX5_setAnswer_13 : decode cX5_setAnswer 13 = .ok (.bipush 99, 2) := by decide +kernel
theorem dX5_setAnswer_15 : decode cX5_setAnswer 15 = .ok (.invokestatic 42, 3) := by decide +kernel
theorem dX5_setAnswer_18 : decode cX5_setAnswer 18 = .ok (.aload_n 0, 1) := by decide +kernel
theorem dX5_setAnswer_19 : decode cX5_setAnswer 19 = .ok (.iload_n 1, 1) := by decide +kernel
theorem dX5_setAnswer_20 : decode cX5_setAnswer 20 = .ok (.iconst 1, 1) := by decide +kernel
theorem dX5_setAnswer_21 : decode cX5_setAnswer 21 = .ok (.iload_n 2, 1) := by decide +kernel
theorem dX5_setAnswer_22 : decode cX5_setAnswer 22 = .ok (.iload_n 3, 1) := by decide +kernel
theorem dX5_setAnswer_23 : decode cX5_setAnswer 23 = .ok (.invokevirtual 76, 3) := by decide +kernel
theorem dX5_setAnswer_26 : decode cX5_setAnswer 26 = .ok (.ireturn, 1) := by decide +kernel
theorem dX5_setReference_0 : decode cX5_setReference 0 = .ok (.iload_n 1, 1) := by decide +kernel
theorem dX5_setReference_1 : decode cX5_setReference 1 = .ok (.invokestatic 73, 3) := by decide +kernel
theorem dX5_setReference_4 : decode cX5_setReference 4 = .ok (.iload_n 2, 1) := by decide +kernel
theorem dX5_setReference_5 : decode cX5_setReference 5 = .ok (.invokestatic 73, 3) := by decide +kernel
theorem dX5_setReference_8 : decode cX5_setReference 8 = .ok (.iload_n 2, 1) := by decide +kernel
theorem dX5_setReference_9 : decode cX5_setReference 9 = .ok (.iload_n 1, 1) := by decide +kernel
theorem dX5_setReference_10 : decode cX5_setReference 10 = .ok (.if_icmp .ne 13, 3) := by decide +kernel
theorem dX5_setReference_13 : decode cX5_setReference 13 = .ok (.new 80, 3) := by decide +kernel
theorem dX5_setReference_16 : decode cX5_setReference 16 = .ok (.dup, 1) := by decide +kernel
theorem dX5_setReference_17 : decode cX5_setReference 17 = .ok (.ldc 82, 2) := by decide +kernel
theorem dX5_setReference_19 : decode cX5_setReference 19 = .ok (.invokespecial 84, 3) := by decide +kernel
theorem dX5_setReference_22 : decode cX5_setReference 22 = .ok (.athrow, 1) := by decide +kernel
theorem dX5_setReference_23 : decode cX5_setReference 23 = .ok (.iload_n 3, 1) := by decide +kernel
theorem dX5_setReference_24 : decode cX5_setReference 24 = .ok (.iconst 1, 1) := by decide +kernel
theorem dX5_setReference_25 : decode cX5_setReference 25 = .ok (.bipush 99, 2) := by decide +kernel
theorem dX5_setReference_27 : decode cX5_setReference 27 = .ok (.invokestatic 42, 3) := by decide +kernel
theorem dX5_setReference_30 : decode cX5_setReference 30 = .ok (.aload_n 0, 1) := by decide +kernel
theorem dX5_setReference_31 : decode cX5_setReference 31 = .ok (.iload_n 1, 1) := by decide +kernel
theorem dX5_setReference_32 : decode cX5_setReference 32 = .ok (.iconst 2, 1) := by decide +kernel
theorem dX5_setReference_33 : decode cX5_setReference 33 = .ok (.iload_n 2, 1) := by decide +kernel
theorem dX5_setReference_34 : decode cX5_setReference 34 = .ok (.iload_n 3, 1) := by decide +kernel
theorem dX5_setReference_35 : decode cX5_setReference 35 = .ok (.invokevirtual 76, 3) := by decide +kernel
theorem dX5_setReference_38 : decode cX5_setReference 38 = .ok (.ireturn, 1) := by decide +kernel
theorem dX5_takeAway_0 : decode cX5_takeAway 0 = .ok (.iload_n 1, 1) := by decide +kernel
theorem dX5_takeAway_1 : decode cX5_takeAway 1 = .ok (.invokestatic 73, 3) := by decide +kernel
theorem dX5_takeAway_4 : decode cX5_takeAway 4 = .ok (.aload_n 0, 1) := by decide +kernel
theorem dX5_takeAway_5 : decode cX5_takeAway 5 = .ok (.getfield 10, 3) := by decide +kernel
theorem dX5_takeAway_8 : decode cX5_takeAway 8 = .ok (.getfield 85, 3) := by decide +kernel
theorem dX5_takeAway_11 : decode cX5_takeAway 11 = .ok (.iload_n 1, 1) := by decide +kernel
theorem dX5_takeAway_12 : decode cX5_takeAway 12 = .ok (.invokevirtual 89, 3) := by decide +kernel
theorem dX5_takeAway_15 : decode cX5_takeAway 15 = .ok (.ifCond .ne 13, 3) := by decide +kernel
theorem dX5_takeAway_18 : decode cX5_takeAway 18 = .ok (.new 95, 3) := by decide +kernel
theorem dX5_takeAway_21 : decode cX5_takeAway 21 = .ok (.dup, 1) := by decide +kernel
theorem dX5_takeAway_22 : decode cX5_takeAway 22 = .ok (.ldc 97, 2) := by decide +kernel
theorem dX5_takeAway_24 : decode cX5_takeAway 24 = .ok (.invokespecial 99, 3) := by decide +kernel
theorem dX5_takeAway_27 : decode cX5_takeAway 27 = .ok (.athrow, 1) := by decide +kernel
theorem dX5_takeAway_28 : decode cX5_takeAway 28 = .ok (.aload_n 0, 1) := by decide +kernel
theorem dX5_takeAway_29 : decode cX5_takeAway 29 = .ok (.iload_n 1, 1) := by decide +kernel
theorem dX5_takeAway_30 : decode cX5_takeAway 30 = .ok (.iconst 0, 1) := by decide +kernel
theorem dX5_takeAway_31 : decode cX5_takeAway 31 = .ok (.iconst (-1), 1) := by decide +kernel
theorem dX5_takeAway_32 : decode cX5_takeAway 32 = .ok (.iconst 0, 1) := by decide +kernel
theorem dX5_takeAway_33 : decode cX5_takeAway 33 = .ok (.invokevirtual 76, 3) := by decide +kernel
theorem dX5_takeAway_36 : decode cX5_takeAway 36 = .ok (.ireturn, 1) := by decide +kernel
theorem dX5_solve_0 : decode cX5_solve 0 = .ok (.iload_n 1, 1) := by decide +kernel
theorem dX5_solve_1 : decode cX5_solve 1 = .ok (.invokestatic 73, 3) := by decide +kernel
theorem dX5_solve_4 : decode cX5_solve 4 = .ok (.aload_n 0, 1) := by decide +kernel
theorem dX5_solve_5 : decode cX5_solve 5 = .ok (.invokevirtual 46, 3) := by decide +kernel
theorem dX5_solve_8 : decode cX5_solve 8 = .ok (.aload_n 0, 1) := by decide +kernel
theorem dX5_solve_9 : decode cX5_solve 9 = .ok (.getfield 10, 3) := by decide +kernel
theorem dX5_solve_12 : decode cX5_solve 12 = .ok (.iload_n 1, 1) := by decide +kernel
theorem dX5_solve_13 : decode cX5_solve 13 = .ok (.invokevirtual 100, 3) := by decide +kernel
theorem dX5_solve_16 : decode cX5_solve 16 = .ok (.ireturn, 1) := by decide +kernel
theorem dX5_forget_0 : decode cX5_forget 0 = .ok (.iload_n 1, 1) := by decide +kernel
theorem dX5_forget_1 : decode cX5_forget 1 = .ok (.invokestatic 73, 3) := by decide +kernel
theorem dX5_forget_4 : decode cX5_forget 4 = .ok (.aload_n 0, 1) := by decide +kernel
theorem dX5_forget_5 : decode cX5_forget 5 = .ok (.getfield 10, 3) := by decide +kernel
theorem dX5_forget_8 : decode cX5_forget 8 = .ok (.getfield 103, 3) := by decide +kernel
theorem dX5_forget_11 : decode cX5_forget 11 = .ok (.iload_n 1, 1) := by decide +kernel
theorem dX5_forget_12 : decode cX5_forget 12 = .ok (.invokevirtual 89, 3) := by decide +kernel
theorem dX5_forget_15 : decode cX5_forget 15 = .ok (.istore_n 2, 1) := by decide +kernel
theorem dX5_forget_16 : decode cX5_forget 16 = .ok (.iload_n 2, 1) := by decide +kernel
theorem dX5_forget_17 : decode cX5_forget 17 = .ok (.ifCond .ne 13, 3) := by decide +kernel
theorem dX5_forget_20 : decode cX5_forget 20 = .ok (.new 95, 3) := by decide +kernel
theorem dX5_forget_23 : decode cX5_forget 23 = .ok (.dup, 1) := by decide +kernel
theorem dX5_forget_24 : decode cX5_forget 24 = .ok (.ldc 106, 2) := by decide +kernel
theorem dX5_forget_26 : decode cX5_forget 26 = .ok (.invokespecial 99, 3) := by decide +kernel
theorem dX5_forget_29 : decode cX5_forget 29 = .ok (.athrow, 1) := by decide +kernel
theorem dX5_forget_30 : decode cX5_forget 30 = .ok (.aload_n 0, 1) := by decide +kernel
theorem dX5_forget_31 : decode cX5_forget 31 = .ok (.invokevirtual 46, 3) := by decide +kernel
theorem dX5_forget_34 : decode cX5_forget 34 = .ok (.aload_n 0, 1) := by decide +kernel
theorem dX5_forget_35 : decode cX5_forget 35 = .ok (.getfield 10, 3) := by decide +kernel
theorem dX5_forget_38 : decode cX5_forget 38 = .ok (.iload_n 1, 1) := by decide +kernel
theorem dX5_forget_39 : decode cX5_forget 39 = .ok (.invokevirtual 108, 3) := by decide +kernel
theorem dX5_forget_42 : decode cX5_forget 42 = .ok (.iload_n 2, 1) := by decide +kernel
theorem dX5_forget_43 : decode cX5_forget 43 = .ok (.ireturn, 1) := by decide +kernel
theorem dX5_pass_0 : decode cX5_pass 0 = .ok (.iload_n 1, 1) := by decide +kernel
theorem dX5_pass_1 : decode cX5_pass 1 = .ok (.iconst 1, 1) := by decide +kernel
theorem dX5_pass_2 : decode cX5_pass 2 = .ok (.bipush 99, 2) := by decide +kernel
theorem dX5_pass_4 : decode cX5_pass 4 = .ok (.invokestatic 42, 3) := by decide +kernel
theorem dX5_pass_7 : decode cX5_pass 7 = .ok (.aload_n 0, 1) := by decide +kernel
theorem dX5_pass_8 : decode cX5_pass 8 = .ok (.getfield 10, 3) := by decide +kernel
theorem dX5_pass_11 : decode cX5_pass 11 = .ok (.iload_n 1, 1) := by decide +kernel
theorem dX5_pass_12 : decode cX5_pass 12 = .ok (.invokevirtual 111, 3) := by decide +kernel
theorem dX5_pass_15 : decode cX5_pass 15 = .ok (.ifCond .ne 13, 3) := by decide +kernel
theorem dX5_pass_18 : decode cX5_pass 18 = .ok (.new 95, 3) := by decide +kernel
theorem dX5_pass_21 : decode cX5_pass 21 = .ok (.dup, 1) := by decide +kernel
theorem dX5_pass_22 : decode cX5_pass 22 = .ok (.ldc 115, 2) := by decide +kernel
theorem dX5_pass_24 : decode cX5_pass 24 = .ok (.invokespecial 99, 3) := by decide +kernel
theorem dX5_pass_27 : decode cX5_pass 27 = .ok (.athrow, 1) := by decide +kernel
theorem dX5_pass_28 : decode cX5_pass 28 = .ok (.aload_n 0, 1) := by decide +kernel
theorem dX5_pass_29 : decode cX5_pass 29 = .ok (.invokevirtual 46, 3) := by decide +kernel
theorem dX5_pass_32 : decode cX5_pass 32 = .ok (.aload_n 0, 1) := by decide +kernel
theorem dX5_pass_33 : decode cX5_pass 33 = .ok (.getfield 10, 3) := by decide +kernel
theorem dX5_pass_36 : decode cX5_pass 36 = .ok (.iload_n 1, 1) := by decide +kernel
theorem dX5_pass_37 : decode cX5_pass 37 = .ok (.invokevirtual 117, 3) := by decide +kernel
theorem dX5_pass_40 : decode cX5_pass 40 = .ok (.ireturn, 1) := by decide +kernel
theorem dX5_time_0 : decode cX5_time 0 = .ok (.aload_n 0, 1) := by decide +kernel
theorem dX5_time_1 : decode cX5_time 1 = .ok (.getfield 10, 3) := by decide +kernel
theorem dX5_time_4 : decode cX5_time 4 = .ok (.getfield 120, 3) := by decide +kernel
theorem dX5_time_7 : decode cX5_time 7 = .ok (.ireturn, 1) := by decide +kernel
theorem dX5_parentOf_0 : decode cX5_parentOf 0 = .ok (.iload_n 1, 1) := by decide +kernel
theorem dX5_parentOf_1 : decode cX5_parentOf 1 = .ok (.invokestatic 31, 3) := by decide +kernel
theorem dX5_parentOf_4 : decode cX5_parentOf 4 = .ok (.aload_n 0, 1) := by decide +kernel
theorem dX5_parentOf_5 : decode cX5_parentOf 5 = .ok (.getfield 10, 3) := by decide +kernel
theorem dX5_parentOf_8 : decode cX5_parentOf 8 = .ok (.getfield 49, 3) := by decide +kernel
theorem dX5_parentOf_11 : decode cX5_parentOf 11 = .ok (.getfield 53, 3) := by decide +kernel
theorem dX5_parentOf_14 : decode cX5_parentOf 14 = .ok (.iload_n 1, 1) := by decide +kernel
theorem dX5_parentOf_15 : decode cX5_parentOf 15 = .ok (.invokestatic 59, 3) := by decide +kernel
theorem dX5_parentOf_18 : decode cX5_parentOf 18 = .ok (.ireturn, 1) := by decide +kernel
theorem dX5_depthOf_0 : decode cX5_depthOf 0 = .ok (.iload_n 1, 1) := by decide +kernel
theorem dX5_depthOf_1 : decode cX5_depthOf 1 = .ok (.invokestatic 31, 3) := by decide +kernel
theorem dX5_depthOf_4 : decode cX5_depthOf 4 = .ok (.aload_n 0, 1) := by decide +kernel
theorem dX5_depthOf_5 : decode cX5_depthOf 5 = .ok (.getfield 10, 3) := by decide +kernel
theorem dX5_depthOf_8 : decode cX5_depthOf 8 = .ok (.getfield 49, 3) := by decide +kernel
theorem dX5_depthOf_11 : decode cX5_depthOf 11 = .ok (.iload_n 1, 1) := by decide +kernel
theorem dX5_depthOf_12 : decode cX5_depthOf 12 = .ok (.invokevirtual 123, 3) := by decide +kernel
theorem dX5_depthOf_15 : decode cX5_depthOf 15 = .ok (.ireturn, 1) := by decide +kernel
theorem dX5_kindOf_0 : decode cX5_kindOf 0 = .ok (.iload_n 1, 1) := by decide +kernel
theorem dX5_kindOf_1 : decode cX5_kindOf 1 = .ok (.invokestatic 73, 3) := by decide +kernel
theorem dX5_kindOf_4 : decode cX5_kindOf 4 = .ok (.aload_n 0, 1) := by decide +kernel
theorem dX5_kindOf_5 : decode cX5_kindOf 5 = .ok (.getfield 10, 3) := by decide +kernel
theorem dX5_kindOf_8 : decode cX5_kindOf 8 = .ok (.getfield 85, 3) := by decide +kernel
theorem dX5_kindOf_11 : decode cX5_kindOf 11 = .ok (.iload_n 1, 1) := by decide +kernel
theorem dX5_kindOf_12 : decode cX5_kindOf 12 = .ok (.invokevirtual 89, 3) := by decide +kernel
theorem dX5_kindOf_15 : decode cX5_kindOf 15 = .ok (.ireturn, 1) := by decide +kernel
theorem dX5_valueOf_0 : decode cX5_valueOf 0 = .ok (.iload_n 1, 1) := by decide +kernel
theorem dX5_valueOf_1 : decode cX5_valueOf 1 = .ok (.invokestatic 73, 3) := by decide +kernel
theorem dX5_valueOf_4 : decode cX5_valueOf 4 = .ok (.aload_n 0, 1) := by decide +kernel
theorem dX5_valueOf_5 : decode cX5_valueOf 5 = .ok (.getfield 10, 3) := by decide +kernel
theorem dX5_valueOf_8 : decode cX5_valueOf 8 = .ok (.getfield 85, 3) := by decide +kernel
theorem dX5_valueOf_11 : decode cX5_valueOf 11 = .ok (.iload_n 1, 1) := by decide +kernel
theorem dX5_valueOf_12 : decode cX5_valueOf 12 = .ok (.invokevirtual 126, 3) := by decide +kernel
theorem dX5_valueOf_15 : decode cX5_valueOf 15 = .ok (.ireturn, 1) := by decide +kernel
theorem dX5_truthOf_0 : decode cX5_truthOf 0 = .ok (.iload_n 1, 1) := by decide +kernel
theorem dX5_truthOf_1 : decode cX5_truthOf 1 = .ok (.invokestatic 73, 3) := by decide +kernel
theorem dX5_truthOf_4 : decode cX5_truthOf 4 = .ok (.aload_n 0, 1) := by decide +kernel
theorem dX5_truthOf_5 : decode cX5_truthOf 5 = .ok (.getfield 10, 3) := by decide +kernel
theorem dX5_truthOf_8 : decode cX5_truthOf 8 = .ok (.iload_n 1, 1) := by decide +kernel
theorem dX5_truthOf_9 : decode cX5_truthOf 9 = .ok (.invokevirtual 129, 3) := by decide +kernel
theorem dX5_truthOf_12 : decode cX5_truthOf 12 = .ok (.ireturn, 1) := by decide +kernel
theorem dX5_rememberedOf_0 : decode cX5_rememberedOf 0 = .ok (.iload_n 1, 1) := by decide +kernel
theorem dX5_rememberedOf_1 : decode cX5_rememberedOf 1 = .ok (.invokestatic 73, 3) := by decide +kernel
theorem dX5_rememberedOf_4 : decode cX5_rememberedOf 4 = .ok (.aload_n 0, 1) := by decide +kernel
theorem dX5_rememberedOf_5 : decode cX5_rememberedOf 5 = .ok (.getfield 10, 3) := by decide +kernel
theorem dX5_rememberedOf_8 : decode cX5_rememberedOf 8 = .ok (.getfield 103, 3) := by decide +kernel
theorem dX5_rememberedOf_11 : decode cX5_rememberedOf 11 = .ok (.iload_n 1, 1) := by decide +kernel
theorem dX5_rememberedOf_12 : decode cX5_rememberedOf 12 = .ok (.invokevirtual 89, 3) := by decide +kernel
theorem dX5_rememberedOf_15 : decode cX5_rememberedOf 15 = .ok (.ireturn, 1) := by decide +kernel
theorem dX5_ticksLeftOf_0 : decode cX5_ticksLeftOf 0 = .ok (.iload_n 1, 1) := by decide +kernel
theorem dX5_ticksLeftOf_1 : decode cX5_ticksLeftOf 1 = .ok (.invokestatic 73, 3) := by decide +kernel
theorem dX5_ticksLeftOf_4 : decode cX5_ticksLeftOf 4 = .ok (.aload_n 0, 1) := by decide +kernel
theorem dX5_ticksLeftOf_5 : decode cX5_ticksLeftOf 5 = .ok (.getfield 10, 3) := by decide +kernel
theorem dX5_ticksLeftOf_8 : decode cX5_ticksLeftOf 8 = .ok (.aload_n 0, 1) := by decide +kernel
theorem dX5_ticksLeftOf_9 : decode cX5_ticksLeftOf 9 = .ok (.getfield 10, 3) := by decide +kernel
theorem dX5_ticksLeftOf_12 : decode cX5_ticksLeftOf 12 = .ok (.getfield 103, 3) := by decide +kernel
theorem dX5_ticksLeftOf_15 : decode cX5_ticksLeftOf 15 = .ok (.iload_n 1, 1) := by decide +kernel
theorem dX5_ticksLeftOf_16 : decode cX5_ticksLeftOf 16 = .ok (.invokevirtual 132, 3) := by decide +kernel
theorem dX5_ticksLeftOf_19 : decode cX5_ticksLeftOf 19 = .ok (.invokevirtual 135, 3) := by decide +kernel
theorem dX5_ticksLeftOf_22 : decode cX5_ticksLeftOf 22 = .ok (.ireturn, 1) := by decide +kernel
theorem dX5_referralLeft_0 : decode cX5_referralLeft 0 = .ok (.iload_n 1, 1) := by decide +kernel
theorem dX5_referralLeft_1 : decode cX5_referralLeft 1 = .ok (.invokestatic 31, 3) := by decide +kernel
theorem dX5_referralLeft_4 : decode cX5_referralLeft 4 = .ok (.aload_n 0, 1) := by decide +kernel
theorem dX5_referralLeft_5 : decode cX5_referralLeft 5 = .ok (.getfield 10, 3) := by decide +kernel
theorem dX5_referralLeft_8 : decode cX5_referralLeft 8 = .ok (.aload_n 0, 1) := by decide +kernel
theorem dX5_referralLeft_9 : decode cX5_referralLeft 9 = .ok (.getfield 10, 3) := by decide +kernel
theorem dX5_referralLeft_12 : decode cX5_referralLeft 12 = .ok (.getfield 138, 3) := by decide +kernel
theorem dX5_referralLeft_15 : decode cX5_referralLeft 15 = .ok (.iload_n 1, 1) := by decide +kernel
theorem dX5_referralLeft_16 : decode cX5_referralLeft 16 = .ok (.invokestatic 59, 3) := by decide +kernel
theorem dX5_referralLeft_19 : decode cX5_referralLeft 19 = .ok (.invokevirtual 135, 3) := by decide +kernel
theorem dX5_referralLeft_22 : decode cX5_referralLeft 22 = .ok (.ireturn, 1) := by decide +kernel
theorem dX5_remembered_0 : decode cX5_remembered 0 = .ok (.aload_n 0, 1) := by decide +kernel
theorem dX5_remembered_1 : decode cX5_remembered 1 = .ok (.getfield 10, 3) := by decide +kernel
theorem dX5_remembered_4 : decode cX5_remembered 4 = .ok (.invokevirtual 141, 3) := by decide +kernel
theorem dX5_remembered_7 : decode cX5_remembered 7 = .ok (.ireturn, 1) := by decide +kernel
theorem dX5_rememberedByAccount_0 : decode cX5_rememberedByAccount 0 = .ok (.aload_n 0, 1) := by decide +kernel
theorem dX5_rememberedByAccount_1 : decode cX5_rememberedByAccount 1 = .ok (.getfield 10, 3) := by decide +kernel
theorem dX5_rememberedByAccount_4 : decode cX5_rememberedByAccount 4 = .ok (.getfield 145, 3) := by decide +kernel
theorem dX5_rememberedByAccount_7 : decode cX5_rememberedByAccount 7 = .ok (.getfield 149, 3) := by decide +kernel
theorem dX5_rememberedByAccount_10 : decode cX5_rememberedByAccount 10 = .ok (.aload_n 0, 1) := by decide +kernel
theorem dX5_rememberedByAccount_11 : decode cX5_rememberedByAccount 11 = .ok (.getfield 10, 3) := by decide +kernel
theorem dX5_rememberedByAccount_14 : decode cX5_rememberedByAccount 14 = .ok (.getfield 145, 3) := by decide +kernel
theorem dX5_rememberedByAccount_17 : decode cX5_rememberedByAccount 17 = .ok (.getfield 154, 3) := by decide +kernel
theorem dX5_rememberedByAccount_20 : decode cX5_rememberedByAccount 20 = .ok (.isub, 1) := by decide +kernel
theorem dX5_rememberedByAccount_21 : decode cX5_rememberedByAccount 21 = .ok (.ireturn, 1) := by decide +kernel
theorem dX5_ticksUntilForgetting_0 : decode cX5_ticksUntilForgetting 0 = .ok (.aload_n 0, 1) := by decide +kernel
theorem dX5_ticksUntilForgetting_1 : decode cX5_ticksUntilForgetting 1 = .ok (.getfield 10, 3) := by decide +kernel
theorem dX5_ticksUntilForgetting_4 : decode cX5_ticksUntilForgetting 4 = .ok (.aload_n 0, 1) := by decide +kernel
theorem dX5_ticksUntilForgetting_5 : decode cX5_ticksUntilForgetting 5 = .ok (.getfield 10, 3) := by decide +kernel
theorem dX5_ticksUntilForgetting_8 : decode cX5_ticksUntilForgetting 8 = .ok (.invokevirtual 157, 3) := by decide +kernel
theorem dX5_ticksUntilForgetting_11 : decode cX5_ticksUntilForgetting 11 = .ok (.invokevirtual 135, 3) := by decide +kernel
theorem dX5_ticksUntilForgetting_14 : decode cX5_ticksUntilForgetting 14 = .ok (.ireturn, 1) := by decide +kernel
theorem dX5_isOutOfDate_0 : decode cX5_isOutOfDate 0 = .ok (.iload_n 1, 1) := by decide +kernel
theorem dX5_isOutOfDate_1 : decode cX5_isOutOfDate 1 = .ok (.invokestatic 73, 3) := by decide +kernel
theorem dX5_isOutOfDate_4 : decode cX5_isOutOfDate 4 = .ok (.aload_n 0, 1) := by decide +kernel
theorem dX5_isOutOfDate_5 : decode cX5_isOutOfDate 5 = .ok (.getfield 10, 3) := by decide +kernel
theorem dX5_isOutOfDate_8 : decode cX5_isOutOfDate 8 = .ok (.iload_n 1, 1) := by decide +kernel
theorem dX5_isOutOfDate_9 : decode cX5_isOutOfDate 9 = .ok (.invokevirtual 160, 3) := by decide +kernel
theorem dX5_isOutOfDate_12 : decode cX5_isOutOfDate 12 = .ok (.ireturn, 1) := by decide +kernel
theorem dX5_solved_0 : decode cX5_solved 0 = .ok (.aload_n 0, 1) := by decide +kernel
theorem dX5_solved_1 : decode cX5_solved 1 = .ok (.getfield 10, 3) := by decide +kernel
theorem dX5_solved_4 : decode cX5_solved 4 = .ok (.getfield 145, 3) := by decide +kernel
theorem dX5_solved_7 : decode cX5_solved 7 = .ok (.getfield 163, 3) := by decide +kernel
theorem dX5_solved_10 : decode cX5_solved 10 = .ok (.ireturn, 1) := by decide +kernel
theorem dX5_questions_0 : decode cX5_questions 0 = .ok (.aload_n 0, 1) := by decide +kernel
theorem dX5_questions_1 : decode cX5_questions 1 = .ok (.getfield 10, 3) := by decide +kernel
theorem dX5_questions_4 : decode cX5_questions 4 = .ok (.getfield 145, 3) := by decide +kernel
theorem dX5_questions_7 : decode cX5_questions 7 = .ok (.getfield 166, 3) := by decide +kernel
theorem dX5_questions_10 : decode cX5_questions 10 = .ok (.ireturn, 1) := by decide +kernel
theorem dX5_hits_0 : decode cX5_hits 0 = .ok (.aload_n 0, 1) := by decide +kernel
theorem dX5_hits_1 : decode cX5_hits 1 = .ok (.getfield 10, 3) := by decide +kernel
theorem dX5_hits_4 : decode cX5_hits 4 = .ok (.getfield 145, 3) := by decide +kernel
theorem dX5_hits_7 : decode cX5_hits 7 = .ok (.getfield 169, 3) := by decide +kernel
theorem dX5_hits_10 : decode cX5_hits 10 = .ok (.ireturn, 1) := by decide +kernel
theorem dX5_questionsTo_0 : decode cX5_questionsTo 0 = .ok (.iload_n 1, 1) := by decide +kernel
theorem dX5_questionsTo_1 : decode cX5_questionsTo 1 = .ok (.invokestatic 31, 3) := by decide +kernel
theorem dX5_questionsTo_4 : decode cX5_questionsTo 4 = .ok (.aload_n 0, 1) := by decide +kernel
theorem dX5_questionsTo_5 : decode cX5_questionsTo 5 = .ok (.getfield 10, 3) := by decide +kernel
theorem dX5_questionsTo_8 : decode cX5_questionsTo 8 = .ok (.getfield 145, 3) := by decide +kernel
theorem dX5_questionsTo_11 : decode cX5_questionsTo 11 = .ok (.getfield 172, 3) := by decide +kernel
theorem dX5_questionsTo_14 : decode cX5_questionsTo 14 = .ok (.iload_n 1, 1) := by decide +kernel
theorem dX5_questionsTo_15 : decode cX5_questionsTo 15 = .ok (.invokestatic 59, 3) := by decide +kernel
theorem dX5_questionsTo_18 : decode cX5_questionsTo 18 = .ok (.ireturn, 1) := by decide +kernel
theorem dX5_meanQuestions_0 : decode cX5_meanQuestions 0 = .ok (.aload_n 0, 1) := by decide +kernel
theorem dX5_meanQuestions_1 : decode cX5_meanQuestions 1 = .ok (.getfield 10, 3) := by decide +kernel
theorem dX5_meanQuestions_4 : decode cX5_meanQuestions 4 = .ok (.getfield 145, 3) := by decide +kernel
theorem dX5_meanQuestions_7 : decode cX5_meanQuestions 7 = .ok (.getfield 163, 3) := by decide +kernel
theorem dX5_meanQuestions_10 : decode cX5_meanQuestions 10 = .ok (.istore_n 1, 1) := by decide +kernel
theorem dX5_meanQuestions_11 : decode cX5_meanQuestions 11 = .ok (.iload_n 1, 1) := by decide +kernel
theorem dX5_meanQuestions_12 : decode cX5_meanQuestions 12 = .ok (.ifCond .ne 7, 3) := by decide +kernel
theorem dX5_meanQuestions_15 : decode cX5_meanQuestions 15 = .ok (.dconst 0, 1) := by decide +kernel
theorem dX5_meanQuestions_16 : decode cX5_meanQuestions 16 = .ok (.goto 17, 3) := by decide +kernel
theorem dX5_meanQuestions_19 : decode cX5_meanQuestions 19 = .ok (.aload_n 0, 1) := by decide +kernel
theorem dX5_meanQuestions_20 : decode cX5_meanQuestions 20 = .ok (.getfield 10, 3) := by decide +kernel
theorem dX5_meanQuestions_23 : decode cX5_meanQuestions 23 = .ok (.getfield 145, 3) := by decide +kernel
theorem dX5_meanQuestions_26 : decode cX5_meanQuestions 26 = .ok (.getfield 166, 3) := by decide +kernel
theorem dX5_meanQuestions_29 : decode cX5_meanQuestions 29 = .ok (.i2d, 1) := by decide +kernel
theorem dX5_meanQuestions_30 : decode cX5_meanQuestions 30 = .ok (.iload_n 1, 1) := by decide +kernel
theorem dX5_meanQuestions_31 : decode cX5_meanQuestions 31 = .ok (.i2d, 1) := by decide +kernel
theorem dX5_meanQuestions_32 : decode cX5_meanQuestions 32 = .ok (.ddiv, 1) := by decide +kernel
theorem dX5_meanQuestions_33 : decode cX5_meanQuestions 33 = .ok (.dreturn, 1) := by decide +kernel
theorem dX5_wouldSolve_0 : decode cX5_wouldSolve 0 = .ok (.iload_n 1, 1) := by decide +kernel
theorem dX5_wouldSolve_1 : decode cX5_wouldSolve 1 = .ok (.invokestatic 73, 3) := by decide +kernel
theorem dX5_wouldSolve_4 : decode cX5_wouldSolve 4 = .ok (.aload_n 0, 1) := by decide +kernel
theorem dX5_wouldSolve_5 : decode cX5_wouldSolve 5 = .ok (.getfield 10, 3) := by decide +kernel
theorem dX5_wouldSolve_8 : decode cX5_wouldSolve 8 = .ok (.iconst 0, 1) := by decide +kernel
theorem dX5_wouldSolve_9 : decode cX5_wouldSolve 9 = .ok (.iload_n 1, 1) := by decide +kernel
theorem dX5_wouldSolve_10 : decode cX5_wouldSolve 10 = .ok (.invokevirtual 175, 3) := by decide +kernel
theorem dX5_wouldSolve_13 : decode cX5_wouldSolve 13 = .ok (.ireturn, 1) := by decide +kernel
theorem dX5_costOf_0 : decode cX5_costOf 0 = .ok (.iload_n 1, 1) := by decide +kernel
theorem dX5_costOf_1 : decode cX5_costOf 1 = .ok (.invokestatic 73, 3) := by decide +kernel
theorem dX5_costOf_4 : decode cX5_costOf 4 = .ok (.aload_n 0, 1) := by decide +kernel
theorem dX5_costOf_5 : decode cX5_costOf 5 = .ok (.getfield 10, 3) := by decide +kernel
theorem dX5_costOf_8 : decode cX5_costOf 8 = .ok (.iload_n 1, 1) := by decide +kernel
theorem dX5_costOf_9 : decode cX5_costOf 9 = .ok (.invokevirtual 179, 3) := by decide +kernel
theorem dX5_costOf_12 : decode cX5_costOf 12 = .ok (.ireturn, 1) := by decide +kernel
theorem dX5_ticksUntilTruth_0 : decode cX5_ticksUntilTruth 0 = .ok (.iload_n 1, 1) := by decide +kernel
theorem dX5_ticksUntilTruth_1 : decode cX5_ticksUntilTruth 1 = .ok (.invokestatic 73, 3) := by decide +kernel
theorem dX5_ticksUntilTruth_4 : decode cX5_ticksUntilTruth 4 = .ok (.aload_n 0, 1) := by decide +kernel
theorem dX5_ticksUntilTruth_5 : decode cX5_ticksUntilTruth 5 = .ok (.getfield 10, 3) := by decide +kernel
theorem dX5_ticksUntilTruth_8 : decode cX5_ticksUntilTruth 8 = .ok (.iload_n 1, 1) := by decide +kernel
theorem dX5_ticksUntilTruth_9 : decode cX5_ticksUntilTruth 9 = .ok (.invokevirtual 182, 3) := by decide +kernel
theorem dX5_ticksUntilTruth_12 : decode cX5_ticksUntilTruth 12 = .ok (.ireturn, 1) := by decide +kernel
theorem dX5_replaceTruth_0 : decode cX5_replaceTruth 0 = .ok (.aload_n 0, 1) := by decide +kernel
theorem dX5_replaceTruth_1 : decode cX5_replaceTruth 1 = .ok (.invokevirtual 46, 3) := by decide +kernel
theorem dX5_replaceTruth_4 : decode cX5_replaceTruth 4 = .ok (.aload_n 0, 1) := by decide +kernel
theorem dX5_replaceTruth_5 : decode cX5_replaceTruth 5 = .ok (.getfield 10, 3) := by decide +kernel
theorem dX5_replaceTruth_8 : decode cX5_replaceTruth 8 = .ok (.getfield 85, 3) := by decide +kernel
theorem dX5_replaceTruth_11 : decode cX5_replaceTruth 11 = .ok (.iload_n 1, 1) := by decide +kernel
theorem dX5_replaceTruth_12 : decode cX5_replaceTruth 12 = .ok (.invokevirtual 89, 3) := by decide +kernel
theorem dX5_replaceTruth_15 : decode cX5_replaceTruth 15 = .ok (.istore 5, 2) := by decide +kernel
theorem dX5_replaceTruth_17 : decode cX5_replaceTruth 17 = .ok (.aload_n 0, 1) := by decide +kernel
theorem dX5_replaceTruth_18 : decode cX5_replaceTruth 18 = .ok (.getfield 10, 3) := by decide +kernel
theorem dX5_replaceTruth_21 : decode cX5_replaceTruth 21 = .ok (.getfield 85, 3) := by decide +kernel
theorem dX5_replaceTruth_24 : decode cX5_replaceTruth 24 = .ok (.iload_n 1, 1) := by decide +kernel
theorem dX5_replaceTruth_25 : decode cX5_replaceTruth 25 = .ok (.iload_n 2, 1) := by decide +kernel
theorem dX5_replaceTruth_26 : decode cX5_replaceTruth 26 = .ok (.iload_n 3, 1) := by decide +kernel
theorem dX5_replaceTruth_27 : decode cX5_replaceTruth 27 = .ok (.iload 4, 2) := by decide +kernel
theorem dX5_replaceTruth_29 : decode cX5_replaceTruth 29 = .ok (.invokevirtual 278, 3) := by decide +kernel
theorem dX5_replaceTruth_32 : decode cX5_replaceTruth 32 = .ok (.iload 5, 2) := by decide +kernel
theorem dX5_replaceTruth_34 : decode cX5_replaceTruth 34 = .ok (.ireturn, 1) := by decide +kernel
theorem dX5_save_0 : decode cX5_save 0 = .ok (.aload_n 0, 1) := by decide +kernel
theorem dX5_save_1 : decode cX5_save 1 = .ok (.getfield 20, 3) := by decide +kernel
theorem dX5_save_4 : decode cX5_save 4 = .ok (.bipush 6, 2) := by decide +kernel
theorem dX5_save_6 : decode cX5_save 6 = .ok (.if_icmp .ne 17, 3) := by decide +kernel
theorem dX5_save_9 : decode cX5_save 9 = .ok (.aload_n 0, 1) := by decide +kernel
theorem dX5_save_10 : decode cX5_save 10 = .ok (.invokevirtual 288, 3) := by decide +kernel
theorem dX5_save_13 : decode cX5_save 13 = .ok (.aload_n 0, 1) := by decide +kernel
theorem dX5_save_14 : decode cX5_save 14 = .ok (.dup, 1) := by decide +kernel
theorem dX5_save_15 : decode cX5_save 15 = .ok (.getfield 20, 3) := by decide +kernel
theorem dX5_save_18 : decode cX5_save 18 = .ok (.iconst 1, 1) := by decide +kernel
theorem dX5_save_19 : decode cX5_save 19 = .ok (.isub, 1) := by decide +kernel
theorem dX5_save_20 : decode cX5_save 20 = .ok (.putfield 20, 3) := by decide +kernel
theorem dX5_save_23 : decode cX5_save 23 = .ok (.aload_n 0, 1) := by decide +kernel
theorem dX5_save_24 : decode cX5_save 24 = .ok (.aload_n 0, 1) := by decide +kernel
theorem dX5_save_25 : decode cX5_save 25 = .ok (.getfield 20, 3) := by decide +kernel
theorem dX5_save_28 : decode cX5_save 28 = .ok (.invokevirtual 204, 3) := by decide +kernel
theorem dX5_save_31 : decode cX5_save 31 = .ok (.astore_n 1, 1) := by decide +kernel
theorem dX5_save_32 : decode cX5_save 32 = .ok (.aload_n 1, 1) := by decide +kernel
theorem dX5_save_33 : decode cX5_save 33 = .ok (.ifnull 21, 3) := by decide +kernel
theorem dX5_save_36 : decode cX5_save 36 = .ok (.aload_n 1, 1) := by decide +kernel
theorem dX5_save_37 : decode cX5_save 37 = .ok (.aload_n 0, 1) := by decide +kernel
theorem dX5_save_38 : decode cX5_save 38 = .ok (.getfield 10, 3) := by decide +kernel
theorem dX5_save_41 : decode cX5_save 41 = .ok (.invokevirtual 210, 3) := by decide +kernel
theorem dX5_save_44 : decode cX5_save 44 = .ok (.aload_n 0, 1) := by decide +kernel
theorem dX5_save_45 : decode cX5_save 45 = .ok (.dup, 1) := by decide +kernel
theorem dX5_save_46 : decode cX5_save 46 = .ok (.getfield 20, 3) := by decide +kernel
theorem dX5_save_49 : decode cX5_save 49 = .ok (.iconst 1, 1) := by decide +kernel
theorem dX5_save_50 : decode cX5_save 50 = .ok (.iadd, 1) := by decide +kernel
theorem dX5_save_51 : decode cX5_save 51 = .ok (.putfield 20, 3) := by decide +kernel
theorem dX5_save_54 : decode cX5_save 54 = .ok (.return_, 1) := by decide +kernel
theorem dX5_savedAt_0 : decode cX5_savedAt 0 = .ok (.iload_n 1, 1) := by decide +kernel
theorem dX5_savedAt_1 : decode cX5_savedAt 1 = .ok (.ifCond .lt 21, 3) := by decide +kernel
theorem dX5_savedAt_4 : decode cX5_savedAt 4 = .ok (.iload_n 1, 1) := by decide +kernel
theorem dX5_savedAt_5 : decode cX5_savedAt 5 = .ok (.aload_n 0, 1) := by decide +kernel
theorem dX5_savedAt_6 : decode cX5_savedAt 6 = .ok (.getfield 16, 3) := by decide +kernel
theorem dX5_savedAt_9 : decode cX5_savedAt 9 = .ok (.arraylength, 1) := by decide +kernel
theorem dX5_savedAt_10 : decode cX5_savedAt 10 = .ok (.if_icmp .ge 12, 3) := by decide +kernel
theorem dX5_savedAt_13 : decode cX5_savedAt 13 = .ok (.aload_n 0, 1) := by decide +kernel
theorem dX5_savedAt_14 : decode cX5_savedAt 14 = .ok (.getfield 16, 3) := by decide +kernel
theorem dX5_savedAt_17 : decode cX5_savedAt 17 = .ok (.iload_n 1, 1) := by decide +kernel
theorem dX5_savedAt_18 : decode cX5_savedAt 18 = .ok (.aaload, 1) := by decide +kernel
theorem dX5_savedAt_19 : decode cX5_savedAt 19 = .ok (.goto 4, 3) := by decide +kernel
theorem dX5_savedAt_22 : decode cX5_savedAt 22 = .ok (.aconst_null, 1) := by decide +kernel
theorem dX5_savedAt_23 : decode cX5_savedAt 23 = .ok (.areturn, 1) := by decide +kernel
theorem dX5_moveOldestToEnd_0 : decode cX5_moveOldestToEnd 0 = .ok (.iconst 0, 1) := by decide +kernel
theorem dX5_moveOldestToEnd_1 : decode cX5_moveOldestToEnd 1 = .ok (.istore_n 1, 1) := by decide +kernel
theorem dX5_moveOldestToEnd_2 : decode cX5_moveOldestToEnd 2 = .ok (.iload_n 1, 1) := by decide +kernel
theorem dX5_moveOldestToEnd_3 : decode cX5_moveOldestToEnd 3 = .ok (.iconst 1, 1) := by decide +kernel
theorem dX5_moveOldestToEnd_4 : decode cX5_moveOldestToEnd 4 = .ok (.iadd, 1) := by decide +kernel
theorem dX5_moveOldestToEnd_5 : decode cX5_moveOldestToEnd 5 = .ok (.aload_n 0, 1) := by decide +kernel
theorem dX5_moveOldestToEnd_6 : decode cX5_moveOldestToEnd 6 = .ok (.getfield 16, 3) := by decide +kernel
theorem dX5_moveOldestToEnd_9 : decode cX5_moveOldestToEnd 9 = .ok (.arraylength, 1) := by decide +kernel
theorem dX5_moveOldestToEnd_10 : decode cX5_moveOldestToEnd 10 = .ok (.if_icmp .ge 39, 3) := by decide +kernel
theorem dX5_moveOldestToEnd_13 : decode cX5_moveOldestToEnd 13 = .ok (.aload_n 0, 1) := by decide +kernel
theorem dX5_moveOldestToEnd_14 : decode cX5_moveOldestToEnd 14 = .ok (.getfield 16, 3) := by decide +kernel
theorem dX5_moveOldestToEnd_17 : decode cX5_moveOldestToEnd 17 = .ok (.iload_n 1, 1) := by decide +kernel
theorem dX5_moveOldestToEnd_18 : decode cX5_moveOldestToEnd 18 = .ok (.aaload, 1) := by decide +kernel
theorem dX5_moveOldestToEnd_19 : decode cX5_moveOldestToEnd 19 = .ok (.astore_n 2, 1) := by decide +kernel
theorem dX5_moveOldestToEnd_20 : decode cX5_moveOldestToEnd 20 = .ok (.aload_n 0, 1) := by decide +kernel
theorem dX5_moveOldestToEnd_21 : decode cX5_moveOldestToEnd 21 = .ok (.getfield 16, 3) := by decide +kernel
theorem dX5_moveOldestToEnd_24 : decode cX5_moveOldestToEnd 24 = .ok (.iload_n 1, 1) := by decide +kernel
theorem dX5_moveOldestToEnd_25 : decode cX5_moveOldestToEnd 25 = .ok (.aload_n 0, 1) := by decide +kernel
theorem dX5_moveOldestToEnd_26 : decode cX5_moveOldestToEnd 26 = .ok (.getfield 16, 3) := by decide +kernel
theorem dX5_moveOldestToEnd_29 : decode cX5_moveOldestToEnd 29 = .ok (.iload_n 1, 1) := by decide +kernel
theorem dX5_moveOldestToEnd_30 : decode cX5_moveOldestToEnd 30 = .ok (.iconst 1, 1) := by decide +kernel
theorem dX5_moveOldestToEnd_31 : decode cX5_moveOldestToEnd 31 = .ok (.iadd, 1) := by decide +kernel
theorem dX5_moveOldestToEnd_32 : decode cX5_moveOldestToEnd 32 = .ok (.aaload, 1) := by decide +kernel
theorem dX5_moveOldestToEnd_33 : decode cX5_moveOldestToEnd 33 = .ok (.aastore, 1) := by decide +kernel
theorem dX5_moveOldestToEnd_34 : decode cX5_moveOldestToEnd 34 = .ok (.aload_n 0, 1) := by decide +kernel
theorem dX5_moveOldestToEnd_35 : decode cX5_moveOldestToEnd 35 = .ok (.getfield 16, 3) := by decide +kernel
theorem dX5_moveOldestToEnd_38 : decode cX5_moveOldestToEnd 38 = .ok (.iload_n 1, 1) := by decide +kernel
theorem dX5_moveOldestToEnd_39 : decode cX5_moveOldestToEnd 39 = .ok (.iconst 1, 1) := by decide +kernel
theorem dX5_moveOldestToEnd_40 : decode cX5_moveOldestToEnd 40 = .ok (.iadd, 1) := by decide +kernel
theorem dX5_moveOldestToEnd_41 : decode cX5_moveOldestToEnd 41 = .ok (.aload_n 2, 1) := by decide +kernel
theorem dX5_moveOldestToEnd_42 : decode cX5_moveOldestToEnd 42 = .ok (.aastore, 1) := by decide +kernel
theorem dX5_moveOldestToEnd_43 : decode cX5_moveOldestToEnd 43 = .ok (.iinc 1 1, 3) := by decide +kernel
theorem dX5_moveOldestToEnd_46 : decode cX5_moveOldestToEnd 46 = .ok (.goto (-44), 3) := by decide +kernel
theorem dX5_moveOldestToEnd_49 : decode cX5_moveOldestToEnd 49 = .ok (.return_, 1) := by decide +kernel
theorem dX5_requireZone_0 : decode cX5_requireZone 0 = .ok (.iload_n 0, 1) := by decide +kernel
theorem dX5_requireZone_1 : decode cX5_requireZone 1 = .ok (.ifCond .lt 9, 3) := by decide +kernel
theorem dX5_requireZone_4 : decode cX5_requireZone 4 = .ok (.iload_n 0, 1) := by decide +kernel
theorem dX5_requireZone_5 : decode cX5_requireZone 5 = .ok (.bipush 6, 2) := by decide +kernel
theorem dX5_requireZone_7 : decode cX5_requireZone 7 = .ok (.if_icmp .lt 14, 3) := by decide +kernel
theorem dX5_requireZone_10 : decode cX5_requireZone 10 = .ok (.new 35, 3) := by decide +kernel
theorem dX5_requireZone_13 : decode cX5_requireZone 13 = .ok (.dup, 1) := by decide +kernel
theorem dX5_requireZone_14 : decode cX5_requireZone 14 = .ok (.ldc_w 291, 3) := by decide +kernel
theorem dX5_requireZone_17 : decode cX5_requireZone 17 = .ok (.invokespecial 39, 3) := by decide +kernel
theorem dX5_requireZone_20 : decode cX5_requireZone 20 = .ok (.athrow, 1) := by decide +kernel
theorem dX5_requireZone_21 : decode cX5_requireZone 21 = .ok (.return_, 1) := by decide +kernel
theorem dX5_requireRiddle_0 : decode cX5_requireRiddle 0 = .ok (.iload_n 0, 1) := by decide +kernel
theorem dX5_requireRiddle_1 : decode cX5_requireRiddle 1 = .ok (.ifCond .lt 9, 3) := by decide +kernel
theorem dX5_requireRiddle_4 : decode cX5_requireRiddle 4 = .ok (.iload_n 0, 1) := by decide +kernel
theorem dX5_requireRiddle_5 : decode cX5_requireRiddle 5 = .ok (.bipush 36, 2) := by decide +kernel
theorem dX5_requireRiddle_7 : decode cX5_requireRiddle 7 = .ok (.if_icmp .lt 14, 3) := by decide +kernel
theorem dX5_requireRiddle_10 : decode cX5_requireRiddle 10 = .ok (.new 35, 3) := by decide +kernel
theorem dX5_requireRiddle_13 : decode cX5_requireRiddle 13 = .ok (.dup, 1) := by decide +kernel
theorem dX5_requireRiddle_14 : decode cX5_requireRiddle 14 = .ok (.ldc_w 293, 3) := by decide +kernel
theorem dX5_requireRiddle_17 : decode cX5_requireRiddle 17 = .ok (.invokespecial 39, 3) := by decide +kernel
theorem dX5_requireRiddle_20 : decode cX5_requireRiddle 20 = .ok (.athrow, 1) := by decide +kernel
theorem dX5_requireRiddle_21 : decode cX5_requireRiddle 21 = .ok (.return_, 1) := by decide +kernel
theorem dX5_requireRange_0 : decode cX5_requireRange 0 = .ok (.iload_n 0, 1) := by decide +kernel
theorem dX5_requireRange_1 : decode cX5_requireRange 1 = .ok (.iload_n 1, 1) := by decide +kernel
theorem dX5_requireRange_2 : decode cX5_requireRange 2 = .ok (.if_icmp .lt 8, 3) := by decide +kernel
theorem dX5_requireRange_5 : decode cX5_requireRange 5 = .ok (.iload_n 0, 1) := by decide +kernel
theorem dX5_requireRange_6 : decode cX5_requireRange 6 = .ok (.iload_n 2, 1) := by decide +kernel
theorem dX5_requireRange_7 : decode cX5_requireRange 7 = .ok (.if_icmp .le 14, 3) := by decide +kernel
theorem dX5_requireRange_10 : decode cX5_requireRange 10 = .ok (.new 80, 3) := by decide +kernel
theorem dX5_requireRange_13 : decode cX5_requireRange 13 = .ok (.dup, 1) := by decide +kernel
theorem dX5_requireRange_14 : decode cX5_requireRange 14 = .ok (.ldc_w 295, 3) := by decide +kernel
theorem dX5_requireRange_17 : decode cX5_requireRange 17 = .ok (.invokespecial 84, 3) := by decide +kernel
theorem dX5_requireRange_20 : decode cX5_requireRange 20 = .ok (.athrow, 1) := by decide +kernel
theorem dX5_requireRange_21 : decode cX5_requireRange 21 = .ok (.return_, 1) := by decide +kernel
theorem dX5_read_0 : decode cX5_read 0 = .ok (.iload_n 1, 1) := by decide +kernel
theorem dX5_read_1 : decode cX5_read 1 = .ok (.ifCond .lt 15, 3) := by decide +kernel
theorem dX5_read_4 : decode cX5_read 4 = .ok (.iload_n 1, 1) := by decide +kernel
theorem dX5_read_5 : decode cX5_read 5 = .ok (.aload_n 0, 1) := by decide +kernel
theorem dX5_read_6 : decode cX5_read 6 = .ok (.arraylength, 1) := by decide +kernel
theorem dX5_read_7 : decode cX5_read 7 = .ok (.if_icmp .ge 9, 3) := by decide +kernel
theorem dX5_read_10 : decode cX5_read 10 = .ok (.aload_n 0, 1) := by decide +kernel
theorem dX5_read_11 : decode cX5_read 11 = .ok (.iload_n 1, 1) := by decide +kernel
theorem dX5_read_12 : decode cX5_read 12 = .ok (.iaload, 1) := by decide +kernel
theorem dX5_read_13 : decode cX5_read 13 = .ok (.goto 4, 3) := by decide +kernel
theorem dX5_read_16 : decode cX5_read 16 = .ok (.iconst (-1), 1) := by decide +kernel
theorem dX5_read_17 : decode cX5_read 17 = .ok (.ireturn, 1) := by decide +kernel
theorem dX5_write_0 : decode cX5_write 0 = .ok (.iload_n 1, 1) := by decide +kernel
theorem dX5_write_1 : decode cX5_write 1 = .ok (.ifCond .lt 13, 3) := by decide +kernel
theorem dX5_write_4 : decode cX5_write 4 = .ok (.iload_n 1, 1) := by decide +kernel
theorem dX5_write_5 : decode cX5_write 5 = .ok (.aload_n 0, 1) := by decide +kernel
theorem dX5_write_6 : decode cX5_write 6 = .ok (.arraylength, 1) := by decide +kernel
theorem dX5_write_7 : decode cX5_write 7 = .ok (.if_icmp .ge 7, 3) := by decide +kernel
theorem dX5_write_10 : decode cX5_write 10 = .ok (.aload_n 0, 1) := by decide +kernel
theorem dX5_write_11 : decode cX5_write 11 = .ok (.iload_n 1, 1) := by decide +kernel
theorem dX5_write_12 : decode cX5_write 12 = .ok (.iload_n 2, 1) := by decide +kernel
theorem dX5_write_13 : decode cX5_write 13 = .ok (.iastore, 1) := by decide +kernel
theorem dX5_write_14 : decode cX5_write 14 = .ok (.return_, 1) := by decide +kernel
theorem dX5_copyRow_0 : decode cX5_copyRow 0 = .ok (.aload_n 0, 1) := by decide +kernel
theorem dX5_copyRow_1 : decode cX5_copyRow 1 = .ok (.iconst 0, 1) := by decide +kernel
theorem dX5_copyRow_2 : decode cX5_copyRow 2 = .ok (.aload_n 1, 1) := by decide +kernel
theorem dX5_copyRow_3 : decode cX5_copyRow 3 = .ok (.iconst 0, 1) := by decide +kernel
theorem dX5_copyRow_4 : decode cX5_copyRow 4 = .ok (.aload_n 0, 1) := by decide +kernel
theorem dX5_copyRow_5 : decode cX5_copyRow 5 = .ok (.arraylength, 1) := by decide +kernel
theorem dX5_copyRow_6 : decode cX5_copyRow 6 = .ok (.aload_n 1, 1) := by decide +kernel
theorem dX5_copyRow_7 : decode cX5_copyRow 7 = .ok (.arraylength, 1) := by decide +kernel
theorem dX5_copyRow_8 : decode cX5_copyRow 8 = .ok (.invokestatic 297, 3) := by decide +kernel
theorem dX5_copyRow_11 : decode cX5_copyRow 11 = .ok (.invokestatic 302, 3) := by decide +kernel
theorem dX5_copyRow_14 : decode cX5_copyRow 14 = .ok (.return_, 1) := by decide +kernel
theorem dJ6_bitCount_0f7a4_0 : decode cJ6_bitCount_0f7a4 0 = .ok (.iload_n 0, 1) := by decide +kernel
theorem dJ6_bitCount_0f7a4_1 : decode cJ6_bitCount_0f7a4 1 = .ok (.iload_n 0, 1) := by decide +kernel
theorem dJ6_bitCount_0f7a4_2 : decode cJ6_bitCount_0f7a4 2 = .ok (.iconst 1, 1) := by decide +kernel
theorem dJ6_bitCount_0f7a4_3 : decode cJ6_bitCount_0f7a4 3 = .ok (.iushr, 1) := by decide +kernel
theorem dJ6_bitCount_0f7a4_4 : decode cJ6_bitCount_0f7a4 4 = .ok (.ldc_w 265, 3) := by decide +kernel
theorem dJ6_bitCount_0f7a4_7 : decode cJ6_bitCount_0f7a4 7 = .ok (.iand, 1) := by decide +kernel
theorem dJ6_bitCount_0f7a4_8 : decode cJ6_bitCount_0f7a4 8 = .ok (.isub, 1) := by decide +kernel
theorem dJ6_bitCount_0f7a4_9 : decode cJ6_bitCount_0f7a4 9 = .ok (.istore_n 0, 1) := by decide +kernel
theorem dJ6_bitCount_0f7a4_10 : decode cJ6_bitCount_0f7a4 10 = .ok (.iload_n 0, 1) := by decide +kernel
theorem dJ6_bitCount_0f7a4_11 : decode cJ6_bitCount_0f7a4 11 = .ok (.ldc_w 266, 3) := by decide +kernel
theorem dJ6_bitCount_0f7a4_14 : decode cJ6_bitCount_0f7a4 14 = .ok (.iand, 1) := by decide +kernel
theorem dJ6_bitCount_0f7a4_15 : decode cJ6_bitCount_0f7a4 15 = .ok (.iload_n 0, 1) := by decide +kernel
theorem dJ6_bitCount_0f7a4_16 : decode cJ6_bitCount_0f7a4 16 = .ok (.iconst 2, 1) := by decide +kernel
theorem dJ6_bitCount_0f7a4_17 : decode cJ6_bitCount_0f7a4 17 = .ok (.iushr, 1) := by decide +kernel
theorem dJ6_bitCount_0f7a4_18 : decode cJ6_bitCount_0f7a4 18 = .ok (.ldc_w 266, 3) := by decide +kernel
theorem dJ6_bitCount_0f7a4_21 : decode cJ6_bitCount_0f7a4 21 = .ok (.iand, 1) := by decide +kernel
theorem dJ6_bitCount_0f7a4_22 : decode cJ6_bitCount_0f7a4 22 = .ok (.iadd, 1) := by decide +kernel
theorem dJ6_bitCount_0f7a4_23 : decode cJ6_bitCount_0f7a4 23 = .ok (.istore_n 0, 1) := by decide +kernel
theorem dJ6_bitCount_0f7a4_24 : decode cJ6_bitCount_0f7a4 24 = .ok (.iload_n 0, 1) := by decide +kernel
theorem dJ6_bitCount_0f7a4_25 : decode cJ6_bitCount_0f7a4 25 = .ok (.iload_n 0, 1) := by decide +kernel
theorem dJ6_bitCount_0f7a4_26 : decode cJ6_bitCount_0f7a4 26 = .ok (.iconst 4, 1) := by decide +kernel
theorem dJ6_bitCount_0f7a4_27 : decode cJ6_bitCount_0f7a4 27 = .ok (.iushr, 1) := by decide +kernel
theorem dJ6_bitCount_0f7a4_28 : decode cJ6_bitCount_0f7a4 28 = .ok (.iadd, 1) := by decide +kernel
theorem dJ6_bitCount_0f7a4_29 : decode cJ6_bitCount_0f7a4 29 = .ok (.ldc_w 267, 3) := by decide +kernel
theorem dJ6_bitCount_0f7a4_32 : decode cJ6_bitCount_0f7a4 32 = .ok (.iand, 1) := by decide +kernel
theorem dJ6_bitCount_0f7a4_33 : decode cJ6_bitCount_0f7a4 33 = .ok (.istore_n 0, 1) := by decide +kernel
theorem dJ6_bitCount_0f7a4_34 : decode cJ6_bitCount_0f7a4 34 = .ok (.iload_n 0, 1) := by decide +kernel
theorem dJ6_bitCount_0f7a4_35 : decode cJ6_bitCount_0f7a4 35 = .ok (.iload_n 0, 1) := by decide +kernel
theorem dJ6_bitCount_0f7a4_36 : decode cJ6_bitCount_0f7a4 36 = .ok (.bipush 8, 2) := by decide +kernel
theorem dJ6_bitCount_0f7a4_38 : decode cJ6_bitCount_0f7a4 38 = .ok (.iushr, 1) := by decide +kernel
theorem dJ6_bitCount_0f7a4_39 : decode cJ6_bitCount_0f7a4 39 = .ok (.iadd, 1) := by decide +kernel
theorem dJ6_bitCount_0f7a4_40 : decode cJ6_bitCount_0f7a4 40 = .ok (.istore_n 0, 1) := by decide +kernel
theorem dJ6_bitCount_0f7a4_41 : decode cJ6_bitCount_0f7a4 41 = .ok (.iload_n 0, 1) := by decide +kernel
theorem dJ6_bitCount_0f7a4_42 : decode cJ6_bitCount_0f7a4 42 = .ok (.iload_n 0, 1) := by decide +kernel
theorem dJ6_bitCount_0f7a4_43 : decode cJ6_bitCount_0f7a4 43 = .ok (.bipush 16, 2) := by decide +kernel
theorem dJ6_bitCount_0f7a4_45 : decode cJ6_bitCount_0f7a4 45 = .ok (.iushr, 1) := by decide +kernel
theorem dJ6_bitCount_0f7a4_46 : decode cJ6_bitCount_0f7a4 46 = .ok (.iadd, 1) := by decide +kernel
theorem dJ6_bitCount_0f7a4_47 : decode cJ6_bitCount_0f7a4 47 = .ok (.istore_n 0, 1) := by decide +kernel
theorem dJ6_bitCount_0f7a4_48 : decode cJ6_bitCount_0f7a4 48 = .ok (.iload_n 0, 1) := by decide +kernel
theorem dJ6_bitCount_0f7a4_49 : decode cJ6_bitCount_0f7a4 49 = .ok (.bipush 63, 2) := by decide +kernel
theorem dJ6_bitCount_0f7a4_51 : decode cJ6_bitCount_0f7a4 51 = .ok (.iand, 1) := by decide +kernel
theorem dJ6_bitCount_0f7a4_52 : decode cJ6_bitCount_0f7a4 52 = .ok (.ireturn, 1) := by decide +kernel
