theorem dX0_init_0 : decode cX0_init 0 = .ok (.aload_n 0, 1) := by decide +kernel
theorem dX0_init_1 : decode cX0_init 1 = .ok (.invokespecial 1, 3) := by decide +kernel
theorem dX0_init_4 : decode cX0_init 4 = .ok (.return_, 1) := by decide +kernel
theorem dX0_number_0 : decode cX0_number 0 = .ok (.iconst 3, 1) := by decide +kernel
theorem dX0_number_1 : decode cX0_number 1 = .ok (.ireturn, 1) := by decide +kernel
theorem dX0_word_0 : decode cX0_word 0 = .ok (.ldc 7, 2) := by decide +kernel
theorem dX0_word_2 : decode cX0_word 2 = .ok (.areturn, 1) := by decide +kernel
theorem dX0_rubs_0 : decode cX0_rubs 0 = .ok (.iconst 1, 1) := by decide +kernel
theorem dX0_rubs_1 : decode cX0_rubs 1 = .ok (.ireturn, 1) := by decide +kernel
theorem dX0_shrinks_0 : decode cX0_shrinks 0 = .ok (.iconst 0, 1) := by decide +kernel
theorem dX0_shrinks_1 : decode cX0_shrinks 1 = .ok (.ireturn, 1) := by decide +kernel
theorem dX0_dries_0 : decode cX0_dries 0 = .ok (.iconst 4, 1) := by decide +kernel
theorem dX0_dries_1 : decode cX0_dries 1 = .ok (.ireturn, 1) := by decide +kernel
theorem dX1_init_0 : decode cX1_init 0 = .ok (.aload_n 0, 1) := by decide +kernel
theorem dX1_init_1 : decode cX1_init 1 = .ok (.invokespecial 3, 3) := by decide +kernel
theorem dX1_init_4 : decode cX1_init 4 = .ok (.aload_n 0, 1) := by decide +kernel
theorem dX1_init_5 : decode cX1_init 5 = .ok (.aload_n 1, 1) := by decide +kernel
theorem dX1_init_6 : decode cX1_init 6 = .ok (.putfield 9, 3) := by decide +kernel
theorem dX1_init_9 : decode cX1_init 9 = .ok (.aload_n 0, 1) := by decide +kernel
theorem dX1_init_10 : decode cX1_init 10 = .ok (.bipush 6, 2) := by decide +kernel
theorem dX1_init_12 : decode cX1_init 12 = .ok (.newarray .int, 2) := by decide +kernel
theorem dX1_init_14 : decode cX1_init 14 = .ok (.putfield 15, 3) := by decide +kernel
theorem dX1_init_17 : decode cX1_init 17 = .ok (.return_, 1) := by decide +kernel
theorem dX1_copyFrom_0 : decode cX1_copyFrom 0 = .ok (.aload_n 0, 1) := by decide +kernel
theorem dX1_copyFrom_1 : decode cX1_copyFrom 1 = .ok (.aload_n 1, 1) := by decide +kernel
theorem dX1_copyFrom_2 : decode cX1_copyFrom 2 = .ok (.getfield 9, 3) := by decide +kernel
theorem dX1_copyFrom_5 : decode cX1_copyFrom 5 = .ok (.putfield 9, 3) := by decide +kernel
theorem dX1_copyFrom_8 : decode cX1_copyFrom 8 = .ok (.aload_n 0, 1) := by decide +kernel
theorem dX1_copyFrom_9 : decode cX1_copyFrom 9 = .ok (.aload_n 1, 1) := by decide +kernel
theorem dX1_copyFrom_10 : decode cX1_copyFrom 10 = .ok (.getfield 19, 3) := by decide +kernel
theorem dX1_copyFrom_13 : decode cX1_copyFrom 13 = .ok (.putfield 19, 3) := by decide +kernel
theorem dX1_copyFrom_16 : decode cX1_copyFrom 16 = .ok (.aload_n 0, 1) := by decide +kernel
theorem dX1_copyFrom_17 : decode cX1_copyFrom 17 = .ok (.aload_n 1, 1) := by decide +kernel
theorem dX1_copyFrom_18 : decode cX1_copyFrom 18 = .ok (.getfield 23, 3) := by decide +kernel
theorem dX1_copyFrom_21 : decode cX1_copyFrom 21 = .ok (.putfield 23, 3) := by decide +kernel
theorem dX1_copyFrom_24 : decode cX1_copyFrom 24 = .ok (.aload_n 0, 1) := by decide +kernel
theorem dX1_copyFrom_25 : decode cX1_copyFrom 25 = .ok (.aload_n 1, 1) := by decide +kernel
theorem dX1_copyFrom_26 : decode cX1_copyFrom 26 = .ok (.getfield 26, 3) := by decide +kernel
theorem dX1_copyFrom_29 : decode cX1_copyFrom 29 = .ok (.putfield 26, 3) := by decide +kernel
theorem dX1_copyFrom_32 : decode cX1_copyFrom 32 = .ok (.aload_n 0, 1) := by decide +kernel
theorem dX1_copyFrom_33 : decode cX1_copyFrom 33 = .ok (.aload_n 1, 1) := by decide +kernel
theorem dX1_copyFrom_34 : decode cX1_copyFrom 34 = .ok (.getfield 29, 3) := by decide +kernel
theorem dX1_copyFrom_37 : decode cX1_copyFrom 37 = .ok (.putfield 29, 3) := by decide +kernel
theorem dX1_copyFrom_40 : decode cX1_copyFrom 40 = .ok (.aload_n 1, 1) := by decide +kernel
theorem dX1_copyFrom_41 : decode cX1_copyFrom 41 = .ok (.getfield 15, 3) := by decide +kernel
theorem dX1_copyFrom_44 : decode cX1_copyFrom 44 = .ok (.iconst 0, 1) := by decide +kernel
theorem dX1_copyFrom_45 : decode cX1_copyFrom 45 = .ok (.aload_n 0, 1) := by decide +kernel
theorem dX1_copyFrom_46 : decode cX1_copyFrom 46 = .ok (.getfield 15, 3) := by decide +kernel
theorem dX1_copyFrom_49 : decode cX1_copyFrom 49 = .ok (.iconst 0, 1) := by decide +kernel
theorem dX1_copyFrom_50 : decode cX1_copyFrom 50 = .ok (.bipush 6, 2) := by decide +kernel
theorem dX1_copyFrom_52 : decode cX1_copyFrom 52 = .ok (.invokestatic 32, 3) := by decide +kernel
theorem dX1_copyFrom_55 : decode cX1_copyFrom 55 = .ok (.return_, 1) := by decide +kernel
theorem dX1_begin_0 : decode cX1_begin 0 = .ok (.aload_n 0, 1) := by decide +kernel
theorem dX1_begin_1 : decode cX1_begin 1 = .ok (.aload_n 1, 1) := by decide +kernel
theorem dX1_begin_2 : decode cX1_begin 2 = .ok (.putfield 9, 3) := by decide +kernel
theorem dX1_begin_5 : decode cX1_begin 5 = .ok (.aload_n 0, 1) := by decide +kernel
theorem dX1_begin_6 : decode cX1_begin 6 = .ok (.iload_n 2, 1) := by decide +kernel
theorem dX1_begin_7 : decode cX1_begin 7 = .ok (.putfield 19, 3) := by decide +kernel
theorem dX1_begin_10 : decode cX1_begin 10 = .ok (.aload_n 0, 1) := by decide +kernel
theorem dX1_begin_11 : decode cX1_begin 11 = .ok (.iload_n 3, 1) := by decide +kernel
theorem dX1_begin_12 : decode cX1_begin 12 = .ok (.putfield 23, 3) := by decide +kernel
theorem dX1_begin_15 : decode cX1_begin 15 = .ok (.aload_n 0, 1) := by decide +kernel
theorem dX1_begin_16 : decode cX1_begin 16 = .ok (.iconst 0, 1) := by decide +kernel
theorem dX1_begin_17 : decode cX1_begin 17 = .ok (.putfield 26, 3) := by decide +kernel
theorem dX1_begin_20 : decode cX1_begin 20 = .ok (.aload_n 0, 1) := by decide +kernel
theorem dX1_begin_21 : decode cX1_begin 21 = .ok (.iconst 0, 1) := by decide +kernel
theorem dX1_begin_22 : decode cX1_begin 22 = .ok (.putfield 29, 3) := by decide +kernel
theorem dX1_begin_25 : decode cX1_begin 25 = .ok (.aload_n 0, 1) := by decide +kernel
theorem dX1_begin_26 : decode cX1_begin 26 = .ok (.getfield 15, 3) := by decide +kernel
theorem dX1_begin_29 : decode cX1_begin 29 = .ok (.iconst 0, 1) := by decide +kernel
theorem dX1_begin_30 : decode cX1_begin 30 = .ok (.invokestatic 38, 3) := by decide +kernel
theorem dX1_begin_33 : decode cX1_begin 33 = .ok (.return_, 1) := by decide +kernel
theorem dX1_allDeep_0 : decode cX1_allDeep 0 = .ok (.iconst 0, 1) := by decide +kernel
theorem dX1_allDeep_1 : decode cX1_allDeep 1 = .ok (.istore_n 1, 1) := by decide +kernel
theorem dX1_allDeep_2 : decode cX1_allDeep 2 = .ok (.iconst 0, 1) := by decide +kernel
theorem dX1_allDeep_3 : decode cX1_allDeep 3 = .ok (.istore_n 2, 1) := by decide +kernel
theorem dX1_allDeep_4 : decode cX1_allDeep 4 = .ok (.iload_n 2, 1) := by decide +kernel
theorem dX1_allDeep_5 : decode cX1_allDeep 5 = .ok (.bipush 6, 2) := by decide +kernel
theorem dX1_allDeep_7 : decode cX1_allDeep 7 = .ok (.if_icmp .ge 18, 3) := by decide +kernel
theorem dX1_allDeep_10 : decode cX1_allDeep 10 = .ok (.iload_n 1, 1) := by decide +kernel
theorem dX1_allDeep_11 : decode cX1_allDeep 11 = .ok (.aload_n 0, 1) := by decide +kernel
theorem dX1_allDeep_12 : decode cX1_allDeep 12 = .ok (.getfield 15, 3) := by decide +kernel
theorem dX1_allDeep_15 : decode cX1_allDeep 15 = .ok (.iload_n 2, 1) := by decide +kernel
theorem dX1_allDeep_16 : decode cX1_allDeep 16 = .ok (.iaload, 1) := by decide +kernel
theorem dX1_allDeep_17 : decode cX1_allDeep 17 = .ok (.iadd, 1) := by decide +kernel
theorem dX1_allDeep_18 : decode cX1_allDeep 18 = .ok (.istore_n 1, 1) := by decide +kernel
theorem dX1_allDeep_19 : decode cX1_allDeep 19 = .ok (.iinc 2 1, 3) := by decide +kernel
theorem dX1_allDeep_22 : decode cX1_allDeep 22 = .ok (.goto (-18), 3) := by decide +kernel
theorem dX1_allDeep_25 : decode cX1_allDeep 25 = .ok (.iload_n 1, 1) := by decide +kernel
theorem dX1_allDeep_26 : decode cX1_allDeep 26 = .ok (.ireturn, 1) := by decide +kernel
theorem dX1_isClean_0 : decode cX1_isClean 0 = .ok (.aload_n 0, 1) := by decide +kernel
theorem dX1_isClean_1 : decode cX1_isClean 1 = .ok (.invokevirtual 44, 3) := by decide +kernel
theorem dX1_isClean_4 : decode cX1_isClean 4 = .ok (.ifCond .ne 7, 3) := by decide +kernel
theorem dX1_isClean_7 : decode cX1_isClean 7 = .ok (.iconst 1, 1) := by decide +kernel
theorem dX1_isClean_8 : decode cX1_isClean 8 = .ok (.goto 4, 3) := by decide +kernel
theorem dX1_isClean_11 : decode cX1_isClean 11 = .ok (.iconst 0, 1) := by decide +kernel
theorem dX1_isClean_12 : decode cX1_isClean 12 = .ok (.ireturn, 1) := by decide +kernel
theorem dX1_isDry_0 : decode cX1_isDry 0 = .ok (.aload_n 0, 1) := by decide +kernel
theorem dX1_isDry_1 : decode cX1_isDry 1 = .ok (.getfield 26, 3) := by decide +kernel
theorem dX1_isDry_4 : decode cX1_isDry 4 = .ok (.iconst 2, 1) := by decide +kernel
theorem dX1_isDry_5 : decode cX1_isDry 5 = .ok (.if_icmp .ne 21, 3) := by decide +kernel
theorem dX1_isDry_8 : decode cX1_isDry 8 = .ok (.aload_n 0, 1) := by decide +kernel
theorem dX1_isDry_9 : decode cX1_isDry 9 = .ok (.getfield 29, 3) := by decide +kernel
theorem dX1_isDry_12 : decode cX1_isDry 12 = .ok (.aload_n 0, 1) := by decide +kernel
theorem dX1_isDry_13 : decode cX1_isDry 13 = .ok (.getfield 9, 3) := by decide +kernel
theorem dX1_isDry_16 : decode cX1_isDry 16 = .ok (.invokevirtual 48, 3) := by decide +kernel
theorem dX1_isDry_19 : decode cX1_isDry 19 = .ok (.if_icmp .lt 7, 3) := by decide +kernel
theorem dX1_isDry_22 : decode cX1_isDry 22 = .ok (.iconst 1, 1) := by decide +kernel
theorem dX1_isDry_23 : decode cX1_isDry 23 = .ok (.goto 4, 3) := by decide +kernel
theorem dX1_isDry_26 : decode cX1_isDry 26 = .ok (.iconst 0, 1) := by decide +kernel
theorem dX1_isDry_27 : decode cX1_isDry 27 = .ok (.ireturn, 1) := by decide +kernel
theorem dX1_deepest_0 : decode cX1_deepest 0 = .ok (.iconst (-1), 1) := by decide +kernel
theorem dX1_deepest_1 : decode cX1_deepest 1 = .ok (.istore_n 2, 1) := by decide +kernel
theorem dX1_deepest_2 : decode cX1_deepest 2 = .ok (.iconst 0, 1) := by decide +kernel
theorem dX1_deepest_3 : decode cX1_deepest 3 = .ok (.istore_n 3, 1) := by decide +kernel
theorem dX1_deepest_4 : decode cX1_deepest 4 = .ok (.iconst 0, 1) := by decide +kernel
theorem dX1_deepest_5 : decode cX1_deepest 5 = .ok (.istore 4, 2) := by decide +kernel
theorem dX1_deepest_7 : decode cX1_deepest 7 = .ok (.iload 4, 2) := by decide +kernel
theorem dX1_deepest_9 : decode cX1_deepest 9 = .ok (.bipush 6, 2) := by decide +kernel
theorem dX1_deepest_11 : decode cX1_deepest 11 = .ok (.if_icmp .ge 41, 3) := by decide +kernel
theorem dX1_deepest_14 : decode cX1_deepest 14 = .ok (.aload_n 0, 1) := by decide +kernel
theorem dX1_deepest_15 : decode cX1_deepest 15 = .ok (.getfield 15, 3) := by decide +kernel
theorem dX1_deepest_18 : decode cX1_deepest 18 = .ok (.iload 4, 2) := by decide +kernel
theorem dX1_deepest_20 : decode cX1_deepest 20 = .ok (.iaload, 1) := by decide +kernel
theorem dX1_deepest_21 : decode cX1_deepest 21 = .ok (.iload_n 3, 1) := by decide +kernel
theorem dX1_deepest_22 : decode cX1_deepest 22 = .ok (.if_icmp .le 24, 3) := by decide +kernel
theorem dX1_deepest_25 : decode cX1_deepest 25 = .ok (.iload 4, 2) := by decide +kernel
theorem dX1_deepest_27 : decode cX1_deepest 27 = .ok (.iconst 5, 1) := by decide +kernel
theorem dX1_deepest_28 : decode cX1_deepest 28 = .ok (.if_icmp .ne 7, 3) := by decide +kernel
theorem dX1_deepest_31 : decode cX1_deepest 31 = .ok (.iload_n 1, 1) := by decide +kernel
theorem dX1_deepest_32 : decode cX1_deepest 32 = .ok (.ifCond .eq 14, 3) := by decide +kernel
theorem dX1_deepest_35 : decode cX1_deepest 35 = .ok (.iload 4, 2) := by decide +kernel
theorem dX1_deepest_37 : decode cX1_deepest 37 = .ok (.istore_n 2, 1) := by decide +kernel
theorem dX1_deepest_38 : decode cX1_deepest 38 = .ok (.aload_n 0, 1) := by decide +kernel
theorem dX1_deepest_39 : decode cX1_deepest 39 = .ok (.getfield 15, 3) := by decide +kernel
theorem dX1_deepest_42 : decode cX1_deepest 42 = .ok (.iload 4, 2) := by decide +kernel
theorem dX1_deepest_44 : decode cX1_deepest 44 = .ok (.iaload, 1) := by decide +kernel
theorem dX1_deepest_45 : decode cX1_deepest 45 = .ok (.istore_n 3, 1) := by decide +kernel
theorem dX1_deepest_46 : decode cX1_deepest 46 = .ok (.iinc 4 1, 3) := by decide +kernel
theorem dX1_deepest_49 : decode cX1_deepest 49 = .ok (.goto (-42), 3) := by decide +kernel
theorem dX1_deepest_52 : decode cX1_deepest 52 = .ok (.iload_n 2, 1) := by decide +kernel
theorem dX1_deepest_53 : decode cX1_deepest 53 = .ok (.ireturn, 1) := by decide +kernel
theorem dX1_hoursAs_0 : decode cX1_hoursAs 0 = .ok (.aload_n 1, 1) := by decide +kernel
theorem dX1_hoursAs_1 : decode cX1_hoursAs 1 = .ok (.iload_n 2, 1) := by decide +kernel
theorem dX1_hoursAs_2 : decode cX1_hoursAs 2 = .ok (.invokevirtual 53, 3) := by decide +kernel
theorem dX1_hoursAs_5 : decode cX1_hoursAs 5 = .ok (.istore_n 3, 1) := by decide +kernel
theorem dX1_hoursAs_6 : decode cX1_hoursAs 6 = .ok (.aload_n 0, 1) := by decide +kernel
theorem dX1_hoursAs_7 : decode cX1_hoursAs 7 = .ok (.getfield 26, 3) := by decide +kernel
theorem dX1_hoursAs_10 : decode cX1_hoursAs 10 = .ok (.iconst 3, 1) := by decide +kernel
theorem dX1_hoursAs_11 : decode cX1_hoursAs 11 = .ok (.if_icmp .eq 16, 3) := by decide +kernel
theorem dX1_hoursAs_14 : decode cX1_hoursAs 14 = .ok (.aload_n 0, 1) := by decide +kernel
theorem dX1_hoursAs_15 : decode cX1_hoursAs 15 = .ok (.getfield 26, 3) := by decide +kernel
theorem dX1_hoursAs_18 : decode cX1_hoursAs 18 = .ok (.iconst 4, 1) := by decide +kernel
theorem dX1_hoursAs_19 : decode cX1_hoursAs 19 = .ok (.if_icmp .eq 8, 3) := by decide +kernel
theorem dX1_hoursAs_22 : decode cX1_hoursAs 22 = .ok (.iload_n 3, 1) := by decide +kernel
theorem dX1_hoursAs_23 : decode cX1_hoursAs 23 = .ok (.iconst 1, 1) := by decide +kernel
theorem dX1_hoursAs_24 : decode cX1_hoursAs 24 = .ok (.if_icmp .ge 5, 3) := by decide +kernel
theorem dX1_hoursAs_27 : decode cX1_hoursAs 27 = .ok (.iconst (-1), 1) := by decide +kernel
theorem dX1_hoursAs_28 : decode cX1_hoursAs 28 = .ok (.ireturn, 1) := by decide +kernel
theorem dX1_hoursAs_29 : decode cX1_hoursAs 29 = .ok (.aload_n 0, 1) := by decide +kernel
theorem dX1_hoursAs_30 : decode cX1_hoursAs 30 = .ok (.invokevirtual 44, 3) := by decide +kernel
theorem dX1_hoursAs_33 : decode cX1_hoursAs 33 = .ok (.iload_n 3, 1) := by decide +kernel
theorem dX1_hoursAs_34 : decode cX1_hoursAs 34 = .ok (.iadd, 1) := by decide +kernel
theorem dX1_hoursAs_35 : decode cX1_hoursAs 35 = .ok (.iconst 1, 1) := by decide +kernel
theorem dX1_hoursAs_36 : decode cX1_hoursAs 36 = .ok (.isub, 1) := by decide +kernel
theorem dX1_hoursAs_37 : decode cX1_hoursAs 37 = .ok (.iload_n 3, 1) := by decide +kernel
theorem dX1_hoursAs_38 : decode cX1_hoursAs 38 = .ok (.idiv, 1) := by decide +kernel
theorem dX1_hoursAs_39 : decode cX1_hoursAs 39 = .ok (.istore 4, 2) := by decide +kernel
theorem dX1_hoursAs_41 : decode cX1_hoursAs 41 = .ok (.aload_n 0, 1) := by decide +kernel
theorem dX1_hoursAs_42 : decode cX1_hoursAs 42 = .ok (.getfield 19, 3) := by decide +kernel
theorem dX1_hoursAs_45 : decode cX1_hoursAs 45 = .ok (.iload 4, 2) := by decide +kernel
theorem dX1_hoursAs_47 : decode cX1_hoursAs 47 = .ok (.aload_n 1, 1) := by decide +kernel
theorem dX1_hoursAs_48 : decode cX1_hoursAs 48 = .ok (.invokevirtual 57, 3) := by decide +kernel
theorem dX1_hoursAs_51 : decode cX1_hoursAs 51 = .ok (.imul, 1) := by decide +kernel
theorem dX1_hoursAs_52 : decode cX1_hoursAs 52 = .ok (.isub, 1) := by decide +kernel
theorem dX1_hoursAs_53 : decode cX1_hoursAs 53 = .ok (.ifCond .le 7, 3) := by decide +kernel
theorem dX1_hoursAs_56 : decode cX1_hoursAs 56 = .ok (.iconst 1, 1) := by decide +kernel
theorem dX1_hoursAs_57 : decode cX1_hoursAs 57 = .ok (.goto 4, 3) := by decide +kernel
theorem dX1_hoursAs_60 : decode cX1_hoursAs 60 = .ok (.iconst 0, 1) := by decide +kernel
theorem dX1_hoursAs_61 : decode cX1_hoursAs 61 = .ok (.istore 5, 2) := by decide +kernel
theorem dX1_hoursAs_63 : decode cX1_hoursAs 63 = .ok (.iload 4, 2) := by decide +kernel
theorem dX1_hoursAs_65 : decode cX1_hoursAs 65 = .ok (.bipush 60, 2) := by decide +kernel
theorem dX1_hoursAs_67 : decode cX1_hoursAs 67 = .ok (.if_icmp .gt 13, 3) := by decide +kernel
theorem dX1_hoursAs_70 : decode cX1_hoursAs 70 = .ok (.iload 5, 2) := by decide +kernel
theorem dX1_hoursAs_72 : decode cX1_hoursAs 72 = .ok (.ifCond .eq 8, 3) := by decide +kernel
theorem dX1_hoursAs_75 : decode cX1_hoursAs 75 = .ok (.iload 4, 2) := by decide +kernel
theorem dX1_hoursAs_77 : decode cX1_hoursAs 77 = .ok (.goto 4, 3) := by decide +kernel
theorem dX1_hoursAs_80 : decode cX1_hoursAs 80 = .ok (.iconst (-1), 1) := by decide +kernel
theorem dX1_hoursAs_81 : decode cX1_hoursAs 81 = .ok (.ireturn, 1) := by decide +kernel
theorem dX2_init_0 : decode cX2_init 0 = .ok (.aload_n 0, 1) := by decide +kernel
theorem dX2_init_1 : decode cX2_init 1 = .ok (.invokespecial 3, 3) := by decide +kernel
theorem dX2_init_4 : decode cX2_init 4 = .ok (.aload_n 0, 1) := by decide +kernel
theorem dX2_init_5 : decode cX2_init 5 = .ok (.bipush 6, 2) := by decide +kernel
theorem dX2_init_7 : decode cX2_init 7 = .ok (.anewarray 9, 3) := by decide +kernel
theorem dX2_init_10 : decode cX2_init 10 = .ok (.putfield 11, 3) := by decide +kernel
theorem dX2_init_13 : decode cX2_init 13 = .ok (.iconst 0, 1) := by decide +kernel
theorem dX2_init_14 : decode cX2_init 14 = .ok (.istore_n 2, 1) := by decide +kernel
theorem dX2_init_15 : decode cX2_init 15 = .ok (.iload_n 2, 1) := by decide +kernel
theorem dX2_init_16 : decode cX2_init 16 = .ok (.bipush 6, 2) := by decide +kernel
theorem dX2_init_18 : decode cX2_init 18 = .ok (.if_icmp .ge 23, 3) := by decide +kernel
theorem dX2_init_21 : decode cX2_init 21 = .ok (.aload_n 0, 1) := by decide +kernel
theorem dX2_init_22 : decode cX2_init 22 = .ok (.getfield 11, 3) := by decide +kernel
theorem dX2_init_25 : decode cX2_init 25 = .ok (.iload_n 2, 1) := by decide +kernel
theorem dX2_init_26 : decode cX2_init 26 = .ok (.new 9, 3) := by decide +kernel
theorem dX2_init_29 : decode cX2_init 29 = .ok (.dup, 1) := by decide +kernel
theorem dX2_init_30 : decode cX2_init 30 = .ok (.aload_n 1, 1) := by decide +kernel
theorem dX2_init_31 : decode cX2_init 31 = .ok (.invokespecial 17, 3) := by decide +kernel
theorem dX2_init_34 : decode cX2_init 34 = .ok (.aastore, 1) := by decide +kernel
theorem dX2_init_35 : decode cX2_init 35 = .ok (.iinc 2 1, 3) := by decide +kernel
theorem dX2_init_38 : decode cX2_init 38 = .ok (.goto (-23), 3) := by decide +kernel
theorem dX2_init_41 : decode cX2_init 41 = .ok (.aload_n 0, 1) := by decide +kernel
theorem dX2_init_42 : decode cX2_init 42 = .ok (.iconst 3, 1) := by decide +kernel
theorem dX2_init_43 : decode cX2_init 43 = .ok (.newarray .int, 2) := by decide +kernel
theorem dX2_init_45 : decode cX2_init 45 = .ok (.putfield 20, 3) := by decide +kernel
theorem dX2_init_48 : decode cX2_init 48 = .ok (.aload_n 0, 1) := by decide +kernel
theorem dX2_init_49 : decode cX2_init 49 = .ok (.iconst 3, 1) := by decide +kernel
theorem dX2_init_50 : decode cX2_init 50 = .ok (.newarray .int, 2) := by decide +kernel
theorem dX2_init_52 : decode cX2_init 52 = .ok (.putfield 24, 3) := by decide +kernel
theorem dX2_init_55 : decode cX2_init 55 = .ok (.aload_n 0, 1) := by decide +kernel
theorem dX2_init_56 : decode cX2_init 56 = .ok (.getfield 24, 3) := by decide +kernel
theorem dX2_init_59 : decode cX2_init 59 = .ok (.iconst (-1), 1) := by decide +kernel
theorem dX2_init_60 : decode cX2_init 60 = .ok (.invokestatic 27, 3) := by decide +kernel
theorem dX2_init_63 : decode cX2_init 63 = .ok (.aload_n 0, 1) := by decide +kernel
theorem dX2_init_64 : decode cX2_init 64 = .ok (.bipush 7, 2) := by decide +kernel
theorem dX2_init_66 : decode cX2_init 66 = .ok (.bipush 6, 2) := by decide +kernel
theorem dX2_init_68 : decode cX2_init 68 = .ok (.multianewarray 33 2, 4) := by decide +kernel
theorem dX2_init_72 : decode cX2_init 72 = .ok (.putfield 35, 3) := by decide +kernel
theorem dX2_init_75 : decode cX2_init 75 = .ok (.aload_n 0, 1) := by decide +kernel
theorem dX2_init_76 : decode cX2_init 76 = .ok (.bipush 8, 2) := by decide +kernel
theorem dX2_init_78 : decode cX2_init 78 = .ok (.putfield 38, 3) := by decide +kernel
theorem dX2_init_81 : decode cX2_init 81 = .ok (.return_, 1) := by decide +kernel
theorem dX2_copyFrom_0 : decode cX2_copyFrom 0 = .ok (.aload_n 0, 1) := by decide +kernel
theorem dX2_copyFrom_1 : decode cX2_copyFrom 1 = .ok (.aload_n 1, 1) := by decide +kernel
theorem dX2_copyFrom_2 : decode cX2_copyFrom 2 = .ok (.getfield 42, 3) := by decide +kernel
theorem dX2_copyFrom_5 : decode cX2_copyFrom 5 = .ok (.putfield 42, 3) := by decide +kernel
theorem dX2_copyFrom_8 : decode cX2_copyFrom 8 = .ok (.iconst 0, 1) := by decide +kernel
theorem dX2_copyFrom_9 : decode cX2_copyFrom 9 = .ok (.istore_n 2, 1) := by decide +kernel
theorem dX2_copyFrom_10 : decode cX2_copyFrom 10 = .ok (.iload_n 2, 1) := by decide +kernel
theorem dX2_copyFrom_11 : decode cX2_copyFrom 11 = .ok (.aload_n 0, 1) := by decide +kernel
theorem dX2_copyFrom_12 : decode cX2_copyFrom 12 = .ok (.getfield 42, 3) := by decide +kernel
theorem dX2_copyFrom_15 : decode cX2_copyFrom 15 = .ok (.if_icmp .ge 30, 3) := by decide +kernel
theorem dX2_copyFrom_18 : decode cX2_copyFrom 18 = .ok (.iload_n 2, 1) := by decide +kernel
theorem dX2_copyFrom_19 : decode cX2_copyFrom 19 = .ok (.bipush 6, 2) := by decide +kernel
theorem dX2_copyFrom_21 : decode cX2_copyFrom 21 = .ok (.if_icmp .ge 24, 3) := by decide +kernel
theorem dX2_copyFrom_24 : decode cX2_copyFrom 24 = .ok (.aload_n 0, 1) := by decide +kernel
theorem dX2_copyFrom_25 : decode cX2_copyFrom 25 = .ok (.getfield 11, 3) := by decide +kernel
theorem dX2_copyFrom_28 : decode cX2_copyFrom 28 = .ok (.iload_n 2, 1) := by decide +kernel
theorem dX2_copyFrom_29 : decode cX2_copyFrom 29 = .ok (.aaload, 1) := by decide +kernel
theorem dX2_copyFrom_30 : decode cX2_copyFrom 30 = .ok (.aload_n 1, 1) := by decide +kernel
theorem dX2_copyFrom_31 : decode cX2_copyFrom 31 = .ok (.getfield 11, 3) := by decide +kernel
theorem dX2_copyFrom_34 : decode cX2_copyFrom 34 = .ok (.iload_n 2, 1) := by decide +kernel
theorem dX2_copyFrom_35 : decode cX2_copyFrom 35 = .ok (.aaload, 1) := by decide +kernel
theorem dX2_copyFrom_36 : decode cX2_copyFrom 36 = .ok (.invokevirtual 45, 3) := by decide +kernel
theorem dX2_copyFrom_39 : decode cX2_copyFrom 39 = .ok (.iinc 2 1, 3) := by decide +kernel
theorem dX2_copyFrom_42 : decode cX2_copyFrom 42 = .ok (.goto (-32), 3) := by decide +kernel
theorem dX2_copyFrom_45 : decode cX2_copyFrom 45 = .ok (.aload_n 0, 1) := by decide +kernel
theorem dX2_copyFrom_46 : decode cX2_copyFrom 46 = .ok (.aload_n 1, 1) := by decide +kernel
theorem dX2_copyFrom_47 : decode cX2_copyFrom 47 = .ok (.getfield 49, 3) := by decide +kernel
theorem dX2_copyFrom_50 : decode cX2_copyFrom 50 = .ok (.putfield 49, 3) := by decide +kernel
theorem dX2_copyFrom_53 : decode cX2_copyFrom 53 = .ok (.aload_n 1, 1) := by decide +kernel
theorem dX2_copyFrom_54 : decode cX2_copyFrom 54 = .ok (.getfield 20, 3) := by decide +kernel
theorem dX2_copyFrom_57 : decode cX2_copyFrom 57 = .ok (.iconst 0, 1) := by decide +kernel
theorem dX2_copyFrom_58 : decode cX2_copyFrom 58 = .ok (.aload_n 0, 1) := by decide +kernel
theorem dX2_copyFrom_59 : decode cX2_copyFrom 59 = .ok (.getfield 20, 3) := by decide +kernel
theorem dX2_copyFrom_62 : decode cX2_copyFrom 62 = .ok (.iconst 0, 1) := by decide +kernel
theorem dX2_copyFrom_63 : decode cX2_copyFrom 63 = .ok (.iconst 3, 1) := by decide +kernel
theorem dX2_copyFrom_64 : decode cX2_copyFrom 64 = .ok (.invokestatic 52, 3) := by decide +kernel
theorem dX2_copyFrom_67 : decode cX2_copyFrom 67 = .ok (.aload_n 1, 1) := by decide +kernel
theorem dX2_copyFrom_68 : decode cX2_copyFrom 68 = .ok (.getfield 24, 3) := by decide +kernel
theorem dX2_copyFrom_71 : decode cX2_copyFrom 71 = .ok (.iconst 0, 1) := by decide +kernel
theorem dX2_copyFrom_72 : decode cX2_copyFrom 72 = .ok (.aload_n 0, 1) := by decide +kernel
theorem dX2_copyFrom_73 : decode cX2_copyFrom 73 = .ok (.getfield 24, 3) := by decide +kernel
theorem dX2_copyFrom_76 : decode cX2_copyFrom 76 = .ok (.iconst 0, 1) := by decide +kernel
theorem dX2_copyFrom_77 : decode cX2_copyFrom 77 = .ok (.iconst 3, 1) := by decide +kernel
theorem dX2_copyFrom_78 : decode cX2_copyFrom 78 = .ok (.invokestatic 52, 3) := by decide +kernel
theorem dX2_copyFrom_81 : decode cX2_copyFrom 81 = .ok (.iconst 0, 1) := by decide +kernel
theorem dX2_copyFrom_82 : decode cX2_copyFrom 82 = .ok (.istore_n 2, 1) := by decide +kernel
theorem dX2_copyFrom_83 : decode cX2_copyFrom 83 = .ok (.iload_n 2, 1) := by decide +kernel
theorem dX2_copyFrom_84 : decode cX2_copyFrom 84 = .ok (.bipush 7, 2) := by decide +kernel
theorem dX2_copyFrom_86 : decode cX2_copyFrom 86 = .ok (.if_icmp .ge 28, 3) := by decide +kernel
theorem dX2_copyFrom_89 : decode cX2_copyFrom 89 = .ok (.aload_n 1, 1) := by decide +kernel
theorem dX2_copyFrom_90 : decode cX2_copyFrom 90 = .ok (.getfield 35, 3) := by decide +kernel
theorem dX2_copyFrom_93 : decode cX2_copyFrom 93 = .ok (.iload_n 2, 1) := by decide +kernel
theorem dX2_copyFrom_94 : decode cX2_copyFrom 94 = .ok (.aaload, 1) := by decide +kernel
theorem dX2_copyFrom_95 : decode cX2_copyFrom 95 = .ok (.iconst 0, 1) := by decide +kernel
theorem dX2_copyFrom_96 : decode cX2_copyFrom 96 = .ok (.aload_n 0, 1) := by decide +kernel
theorem dX2_copyFrom_97 : decode cX2_copyFrom 97 = .ok (.getfield 35, 3) := by decide +kernel
theorem dX2_copyFrom_100 : decode cX2_copyFrom 100 = .ok (.iload_n 2, 1) := by decide +kernel
theorem dX2_copyFrom_101 : decode cX2_copyFrom 101 = .ok (.aaload, 1) := by decide +kernel
theorem dX2_copyFrom_102 : decode cX2_copyFrom 102 = .ok (.iconst 0, 1) := by decide +kernel
theorem dX2_copyFrom_103 : decode cX2_copyFrom 103 = .ok (.bipush 6, 2) := by decide +kernel
theorem dX2_copyFrom_105 : decode cX2_copyFrom 105 = .ok (.invokestatic 52, 3) := by decide +kernel
theorem dX2_copyFrom_108 : decode cX2_copyFrom 108 = .ok (.iinc 2 1, 3) := by decide +kernel
theorem dX2_copyFrom_111 : decode cX2_copyFrom 111 = .ok (.goto (-28), 3) := by decide +kernel
theorem dX2_copyFrom_114 : decode cX2_copyFrom 114 = .ok (.aload_n 0, 1) := by decide +kernel
theorem dX2_copyFrom_115 : decode cX2_copyFrom 115 = .ok (.aload_n 1, 1) := by decide +kernel
theorem dX2_copyFrom_116 : decode cX2_copyFrom 116 = .ok (.getfield 58, 3) := by decide +kernel
theorem dX2_copyFrom_119 : decode cX2_copyFrom 119 = .ok (.putfield 58, 3) := by decide +kernel
theorem dX2_copyFrom_122 : decode cX2_copyFrom 122 = .ok (.aload_n 0, 1) := by decide +kernel
theorem dX2_copyFrom_123 : decode cX2_copyFrom 123 = .ok (.aload_n 1, 1) := by decide +kernel
theorem dX2_copyFrom_124 : decode cX2_copyFrom 124 = .ok (.getfield 38, 3) := by decide +kernel
theorem dX2_copyFrom_127 : decode cX2_copyFrom 127 = .ok (.putfield 38, 3) := by decide +kernel
theorem dX2_copyFrom_130 : decode cX2_copyFrom 130 = .ok (.aload_n 0, 1) := by decide +kernel
theorem dX2_copyFrom_131 : decode cX2_copyFrom 131 = .ok (.aload_n 1, 1) := by decide +kernel
theorem dX2_copyFrom_132 : decode cX2_copyFrom 132 = .ok (.getfield 61, 3) := by decide +kernel
theorem dX2_copyFrom_135 : decode cX2_copyFrom 135 = .ok (.putfield 61, 3) := by decide +kernel
theorem dX2_copyFrom_138 : decode cX2_copyFrom 138 = .ok (.return_, 1) := by decide +kernel
theorem dX2_untell_0 : decode cX2_untell 0 = .ok (.aload_n 0, 1) := by decide +kernel
theorem dX2_untell_1 : decode cX2_untell 1 = .ok (.iconst 0, 1) := by decide +kernel
theorem dX2_untell_2 : decode cX2_untell 2 = .ok (.putfield 42, 3) := by decide +kernel
theorem dX2_untell_5 : decode cX2_untell 5 = .ok (.aload_n 0, 1) := by decide +kernel
theorem dX2_untell_6 : decode cX2_untell 6 = .ok (.iconst 0, 1) := by decide +kernel
theorem dX2_untell_7 : decode cX2_untell 7 = .ok (.putfield 49, 3) := by decide +kernel
theorem dX2_untell_10 : decode cX2_untell 10 = .ok (.aload_n 0, 1) := by decide +kernel
theorem dX2_untell_11 : decode cX2_untell 11 = .ok (.iconst 0, 1) := by decide +kernel
theorem dX2_untell_12 : decode cX2_untell 12 = .ok (.putfield 58, 3) := by decide +kernel
theorem dX2_untell_15 : decode cX2_untell 15 = .ok (.aload_n 0, 1) := by decide +kernel
theorem dX2_untell_16 : decode cX2_untell 16 = .ok (.bipush 8, 2) := by decide +kernel
theorem dX2_untell_18 : decode cX2_untell 18 = .ok (.putfield 38, 3) := by decide +kernel
theorem dX2_untell_21 : decode cX2_untell 21 = .ok (.return_, 1) := by decide +kernel
theorem dX2_addCloud_0 : decode cX2_addCloud 0 = .ok (.aload_n 0, 1) := by decide +kernel
theorem dX2_addCloud_1 : decode cX2_addCloud 1 = .ok (.getfield 42, 3) := by decide +kernel
theorem dX2_addCloud_4 : decode cX2_addCloud 4 = .ok (.bipush 6, 2) := by decide +kernel
theorem dX2_addCloud_6 : decode cX2_addCloud 6 = .ok (.if_icmp .ge 28, 3) := by decide +kernel
theorem dX2_addCloud_9 : decode cX2_addCloud 9 = .ok (.aload_n 0, 1) := by decide +kernel
theorem dX2_addCloud_10 : decode cX2_addCloud 10 = .ok (.getfield 11, 3) := by decide +kernel
theorem dX2_addCloud_13 : decode cX2_addCloud 13 = .ok (.aload_n 0, 1) := by decide +kernel
theorem dX2_addCloud_14 : decode cX2_addCloud 14 = .ok (.getfield 42, 3) := by decide +kernel
theorem dX2_addCloud_17 : decode cX2_addCloud 17 = .ok (.aaload, 1) := by decide +kernel
theorem dX2_addCloud_18 : decode cX2_addCloud 18 = .ok (.aload_n 1, 1) := by decide +kernel
theorem dX2_addCloud_19 : decode cX2_addCloud 19 = .ok (.iload_n 2, 1) := by decide +kernel
theorem dX2_addCloud_20 : decode cX2_addCloud 20 = .ok (.iload_n 3, 1) := by decide +kernel
theorem dX2_addCloud_21 : decode cX2_addCloud 21 = .ok (.invokevirtual 64, 3) := by decide +kernel
theorem dX2_addCloud_24 : decode cX2_addCloud 24 = .ok (.aload_n 0, 1) := by decide +kernel
theorem dX2_addCloud_25 : decode cX2_addCloud 25 = .ok (.dup, 1) := by decide +kernel
theorem dX2_addCloud_26 : decode cX2_addCloud 26 = .ok (.getfield 42, 3) := by decide +kernel
theorem dX2_addCloud_29 : decode cX2_addCloud 29 = .ok (.iconst 1, 1) := by decide +kernel
theorem dX2_addCloud_30 : decode cX2_addCloud 30 = .ok (.iadd, 1) := by decide +kernel
theorem dX2_addCloud_31 : decode cX2_addCloud 31 = .ok (.putfield 42, 3) := by decide +kernel
theorem dX2_addCloud_34 : decode cX2_addCloud 34 = .ok (.return_, 1) := by decide +kernel
theorem dX2_addWasher_0 : decode cX2_addWasher 0 = .ok (.aload_n 0, 1) := by decide +kernel
theorem dX2_addWasher_1 : decode cX2_addWasher 1 = .ok (.getfield 49, 3) := by decide +kernel
theorem dX2_addWasher_4 : decode cX2_addWasher 4 = .ok (.iconst 3, 1) := by decide +kernel
theorem dX2_addWasher_5 : decode cX2_addWasher 5 = .ok (.if_icmp .ge 23, 3) := by decide +kernel
theorem dX2_addWasher_8 : decode cX2_addWasher 8 = .ok (.aload_n 0, 1) := by decide +kernel
theorem dX2_addWasher_9 : decode cX2_addWasher 9 = .ok (.getfield 20, 3) := by decide +kernel
theorem dX2_addWasher_12 : decode cX2_addWasher 12 = .ok (.aload_n 0, 1) := by decide +kernel
theorem dX2_addWasher_13 : decode cX2_addWasher 13 = .ok (.getfield 49, 3) := by decide +kernel
theorem dX2_addWasher_16 : decode cX2_addWasher 16 = .ok (.iload_n 1, 1) := by decide +kernel
theorem dX2_addWasher_17 : decode cX2_addWasher 17 = .ok (.iastore, 1) := by decide +kernel
theorem dX2_addWasher_18 : decode cX2_addWasher 18 = .ok (.aload_n 0, 1) := by decide +kernel
theorem dX2_addWasher_19 : decode cX2_addWasher 19 = .ok (.dup, 1) := by decide +kernel
theorem dX2_addWasher_20 : decode cX2_addWasher 20 = .ok (.getfield 49, 3) := by decide +kernel
theorem dX2_addWasher_23 : decode cX2_addWasher 23 = .ok (.iconst 1, 1) := by decide +kernel
theorem dX2_addWasher_24 : decode cX2_addWasher 24 = .ok (.iadd, 1) := by decide +kernel
theorem dX2_addWasher_25 : decode cX2_addWasher 25 = .ok (.putfield 49, 3) := by decide +kernel
theorem dX2_addWasher_28 : decode cX2_addWasher 28 = .ok (.return_, 1) := by decide +kernel
theorem dX2_cloudAt_0 : decode cX2_cloudAt 0 = .ok (.iload_n 1, 1) := by decide +kernel
theorem dX2_cloudAt_1 : decode cX2_cloudAt 1 = .ok (.ifCond .lt 17, 3) := by decide +kernel
theorem dX2_cloudAt_4 : decode cX2_cloudAt 4 = .ok (.iload_n 1, 1) := by decide +kernel
theorem dX2_cloudAt_5 : decode cX2_cloudAt 5 = .ok (.aload_n 0, 1) := by decide +kernel
theorem dX2_cloudAt_6 : decode cX2_cloudAt 6 = .ok (.getfield 42, 3) := by decide +kernel
theorem dX2_cloudAt_9 : decode cX2_cloudAt 9 = .ok (.if_icmp .ge 9, 3) := by decide +kernel
theorem dX2_cloudAt_12 : decode cX2_cloudAt 12 = .ok (.iload_n 1, 1) := by decide +kernel
theorem dX2_cloudAt_13 : decode cX2_cloudAt 13 = .ok (.bipush 6, 2) := by decide +kernel
theorem dX2_cloudAt_15 : decode cX2_cloudAt 15 = .ok (.if_icmp .lt 7, 3) := by decide +kernel
theorem dX2_cloudAt_18 : decode cX2_cloudAt 18 = .ok (.aconst_null, 1) := by decide +kernel
theorem dX2_cloudAt_19 : decode cX2_cloudAt 19 = .ok (.goto 9, 3) := by decide +kernel
theorem dX2_cloudAt_22 : decode cX2_cloudAt 22 = .ok (.aload_n 0, 1) := by decide +kernel
theorem dX2_cloudAt_23 : decode cX2_cloudAt 23 = .ok (.getfield 11, 3) := by decide +kernel
theorem dX2_cloudAt_26 : decode cX2_cloudAt 26 = .ok (.iload_n 1, 1) := by decide +kernel
theorem dX2_cloudAt_27 : decode cX2_cloudAt 27 = .ok (.aaload, 1) := by decide +kernel
theorem dX2_cloudAt_28 : decode cX2_cloudAt 28 = .ok (.areturn, 1) := by decide +kernel
theorem dX2_isWasher_0 : decode cX2_isWasher 0 = .ok (.iload_n 1, 1) := by decide +kernel
theorem dX2_isWasher_1 : decode cX2_isWasher 1 = .ok (.ifCond .lt 20, 3) := by decide +kernel
theorem dX2_isWasher_4 : decode cX2_isWasher 4 = .ok (.iload_n 1, 1) := by decide +kernel
theorem dX2_isWasher_5 : decode cX2_isWasher 5 = .ok (.aload_n 0, 1) := by decide +kernel
theorem dX2_isWasher_6 : decode cX2_isWasher 6 = .ok (.getfield 49, 3) := by decide +kernel
theorem dX2_isWasher_9 : decode cX2_isWasher 9 = .ok (.if_icmp .ge 12, 3) := by decide +kernel
theorem dX2_isWasher_12 : decode cX2_isWasher 12 = .ok (.iload_n 1, 1) := by decide +kernel
theorem dX2_isWasher_13 : decode cX2_isWasher 13 = .ok (.iconst 3, 1) := by decide +kernel
theorem dX2_isWasher_14 : decode cX2_isWasher 14 = .ok (.if_icmp .ge 7, 3) := by decide +kernel
theorem dX2_isWasher_17 : decode cX2_isWasher 17 = .ok (.iconst 1, 1) := by decide +kernel
theorem dX2_isWasher_18 : decode cX2_isWasher 18 = .ok (.goto 4, 3) := by decide +kernel
theorem dX2_isWasher_21 : decode cX2_isWasher 21 = .ok (.iconst 0, 1) := by decide +kernel
theorem dX2_isWasher_22 : decode cX2_isWasher 22 = .ok (.ireturn, 1) := by decide +kernel
theorem dX2_washerOf_0 : decode cX2_washerOf 0 = .ok (.iconst 0, 1) := by decide +kernel
theorem dX2_washerOf_1 : decode cX2_washerOf 1 = .ok (.istore_n 2, 1) := by decide +kernel
theorem dX2_washerOf_2 : decode cX2_washerOf 2 = .ok (.iload_n 2, 1) := by decide +kernel
theorem dX2_washerOf_3 : decode cX2_washerOf 3 = .ok (.aload_n 0, 1) := by decide +kernel
theorem dX2_washerOf_4 : decode cX2_washerOf 4 = .ok (.getfield 49, 3) := by decide +kernel
theorem dX2_washerOf_7 : decode cX2_washerOf 7 = .ok (.if_icmp .ge 26, 3) := by decide +kernel
theorem dX2_washerOf_10 : decode cX2_washerOf 10 = .ok (.iload_n 2, 1) := by decide +kernel
theorem dX2_washerOf_11 : decode cX2_washerOf 11 = .ok (.iconst 3, 1) := by decide +kernel
theorem dX2_washerOf_12 : decode cX2_washerOf 12 = .ok (.if_icmp .ge 21, 3) := by decide +kernel
theorem dX2_washerOf_15 : decode cX2_washerOf 15 = .ok (.aload_n 0, 1) := by decide +kernel
theorem dX2_washerOf_16 : decode cX2_washerOf 16 = .ok (.getfield 24, 3) := by decide +kernel
theorem dX2_washerOf_19 : decode cX2_washerOf 19 = .ok (.iload_n 2, 1) := by decide +kernel
theorem dX2_washerOf_20 : decode cX2_washerOf 20 = .ok (.iaload, 1) := by decide +kernel
theorem dX2_washerOf_21 : decode cX2_washerOf 21 = .ok (.iload_n 1, 1) := by decide +kernel
theorem dX2_washerOf_22 : decode cX2_washerOf 22 = .ok (.if_icmp .ne 5, 3) := by decide +kernel
theorem dX2_washerOf_25 : decode cX2_washerOf 25 = .ok (.iload_n 2, 1) := by decide +kernel
theorem dX2_washerOf_26 : decode cX2_washerOf 26 = .ok (.ireturn, 1) := by decide +kernel
theorem dX2_washerOf_27 : decode cX2_washerOf 27 = .ok (.iinc 2 1, 3) := by decide +kernel
theorem dX2_washerOf_30 : decode cX2_washerOf 30 = .ok (.goto (-28), 3) := by decide +kernel
theorem dX2_washerOf_33 : decode cX2_washerOf 33 = .ok (.iconst (-1), 1) := by decide +kernel
theorem dX2_washerOf_34 : decode cX2_washerOf 34 = .ok (.ireturn, 1) := by decide +kernel
theorem dX2_cloudsThatAre_0 : decode cX2_cloudsThatAre 0 = .ok (.iconst 0, 1) := by decide +kernel
theorem dX2_cloudsThatAre_1 : decode cX2_cloudsThatAre 1 = .ok (.istore_n 2, 1) := by decide +kernel
theorem dX2_cloudsThatAre_2 : decode cX2_cloudsThatAre 2 = .ok (.iconst 0, 1) := by decide +kernel
theorem dX2_cloudsThatAre_3 : decode cX2_cloudsThatAre 3 = .ok (.istore_n 3, 1) := by decide +kernel
theorem dX2_cloudsThatAre_4 : decode cX2_cloudsThatAre 4 = .ok (.iload_n 3, 1) := by decide +kernel
theorem dX2_cloudsThatAre_5 : decode cX2_cloudsThatAre 5 = .ok (.aload_n 0, 1) := by decide +kernel
theorem dX2_cloudsThatAre_6 : decode cX2_cloudsThatAre 6 = .ok (.getfield 42, 3) := by decide +kernel
theorem dX2_cloudsThatAre_9 : decode cX2_cloudsThatAre 9 = .ok (.if_icmp .ge 34, 3) := by decide +kernel
theorem dX2_cloudsThatAre_12 : decode cX2_cloudsThatAre 12 = .ok (.iload_n 3, 1) := by decide +kernel
theorem dX2_cloudsThatAre_13 : decode cX2_cloudsThatAre 13 = .ok (.bipush 6, 2) := by decide +kernel
theorem dX2_cloudsThatAre_15 : decode cX2_cloudsThatAre 15 = .ok (.if_icmp .ge 28, 3) := by decide +kernel
theorem dX2_cloudsThatAre_18 : decode cX2_cloudsThatAre 18 = .ok (.aload_n 0, 1) := by decide +kernel
theorem dX2_cloudsThatAre_19 : decode cX2_cloudsThatAre 19 = .ok (.getfield 11, 3) := by decide +kernel
theorem dX2_cloudsThatAre_22 : decode cX2_cloudsThatAre 22 = .ok (.iload_n 3, 1) := by decide +kernel
theorem dX2_cloudsThatAre_23 : decode cX2_cloudsThatAre 23 = .ok (.aaload, 1) := by decide +kernel
theorem dX2_cloudsThatAre_24 : decode cX2_cloudsThatAre 24 = .ok (.getfield 68, 3) := by decide +kernel
theorem dX2_cloudsThatAre_27 : decode cX2_cloudsThatAre 27 = .ok (.iload_n 1, 1) := by decide +kernel
theorem dX2_cloudsThatAre_28 : decode cX2_cloudsThatAre 28 = .ok (.if_icmp .ne 9, 3) := by decide +kernel
theorem dX2_cloudsThatAre_31 : decode cX2_cloudsThatAre 31 = .ok (.iload_n 2, 1) := by decide +kernel
theorem dX2_cloudsThatAre_32 : decode cX2_cloudsThatAre 32 = .ok (.iconst 1, 1) := by decide +kernel
theorem dX2_cloudsThatAre_33 : decode cX2_cloudsThatAre 33 = .ok (.iload_n 3, 1) := by decide +kernel
theorem dX2_cloudsThatAre_34 : decode cX2_cloudsThatAre 34 = .ok (.ishl, 1) := by decide +kernel
theorem dX2_cloudsThatAre_35 : decode cX2_cloudsThatAre 35 = .ok (.ior, 1) := by decide +kernel
theorem dX2_cloudsThatAre_36 : decode cX2_cloudsThatAre 36 = .ok (.istore_n 2, 1) := by decide +kernel
theorem dX2_cloudsThatAre_37 : decode cX2_cloudsThatAre 37 = .ok (.iinc 3 1, 3) := by decide +kernel
theorem dX2_cloudsThatAre_40 : decode cX2_cloudsThatAre 40 = .ok (.goto (-36), 3) := by decide +kernel
theorem dX2_cloudsThatAre_43 : decode cX2_cloudsThatAre 43 = .ok (.iload_n 2, 1) := by decide +kernel
theorem dX2_cloudsThatAre_44 : decode cX2_cloudsThatAre 44 = .ok (.ireturn, 1) := by decide +kernel
theorem dX2_allWater_0 : decode cX2_allWater 0 = .ok (.iconst 0, 1) := by decide +kernel
theorem dX2_allWater_1 : decode cX2_allWater 1 = .ok (.istore_n 1, 1) := by decide +kernel
theorem dX2_allWater_2 : decode cX2_allWater 2 = .ok (.iconst 0, 1) := by decide +kernel
theorem dX2_allWater_3 : decode cX2_allWater 3 = .ok (.istore_n 2, 1) := by decide +kernel
theorem dX2_allWater_4 : decode cX2_allWater 4 = .ok (.iload_n 2, 1) := by decide +kernel
theorem dX2_allWater_5 : decode cX2_allWater 5 = .ok (.bipush 7, 2) := by decide +kernel
theorem dX2_allWater_7 : decode cX2_allWater 7 = .ok (.if_icmp .ge 34, 3) := by decide +kernel
theorem dX2_allWater_10 : decode cX2_allWater 10 = .ok (.iconst 0, 1) := by decide +kernel
theorem dX2_allWater_11 : decode cX2_allWater 11 = .ok (.istore_n 3, 1) := by decide +kernel
theorem dX2_allWater_12 : decode cX2_allWater 12 = .ok (.iload_n 3, 1) := by decide +kernel
theorem dX2_allWater_13 : decode cX2_allWater 13 = .ok (.bipush 6, 2) := by decide +kernel
theorem dX2_allWater_15 : decode cX2_allWater 15 = .ok (.if_icmp .ge 20, 3) := by decide +kernel
theorem dX2_allWater_18 : decode cX2_allWater 18 = .ok (.iload_n 1, 1) := by decide +kernel
theorem dX2_allWater_19 : decode cX2_allWater 19 = .ok (.aload_n 0, 1) := by decide +kernel
theorem dX2_allWater_20 : decode cX2_allWater 20 = .ok (.getfield 35, 3) := by decide +kernel
theorem dX2_allWater_23 : decode cX2_allWater 23 = .ok (.iload_n 2, 1) := by decide +kernel
theorem dX2_allWater_24 : decode cX2_allWater 24 = .ok (.aaload, 1) := by decide +kernel
theorem dX2_allWater_25 : decode cX2_allWater 25 = .ok (.iload_n 3, 1) := by decide +kernel
theorem dX2_allWater_26 : decode cX2_allWater 26 = .ok (.iaload, 1) := by decide +kernel
theorem dX2_allWater_27 : decode cX2_allWater 27 = .ok (.iadd, 1) := by decide +kernel
theorem dX2_allWater_28 : decode cX2_allWater 28 = .ok (.istore_n 1, 1) := by decide +kernel
theorem dX2_allWater_29 : decode cX2_allWater 29 = .ok (.iinc 3 1, 3) := by decide +kernel
theorem dX2_allWater_32 : decode cX2_allWater 32 = .ok (.goto (-20), 3) := by decide +kernel
theorem dX2_allWater_35 : decode cX2_allWater 35 = .ok (.iinc 2 1, 3) := by decide +kernel
theorem dX2_allWater_38 : decode cX2_allWater 38 = .ok (.goto (-34), 3) := by decide +kernel
theorem dX2_allWater_41 : decode cX2_allWater 41 = .ok (.iload_n 1, 1) := by decide +kernel
theorem dX2_allWater_42 : decode cX2_allWater 42 = .ok (.ireturn, 1) := by decide +kernel
theorem dX2_readAt_0 : decode cX2_readAt 0 = .ok (.iconst 0, 1) := by decide +kernel
theorem dX2_readAt_1 : decode cX2_readAt 1 = .ok (.istore_n 2, 1) := by decide +kernel
theorem dX2_readAt_2 : decode cX2_readAt 2 = .ok (.iload_n 1, 1) := by decide +kernel
theorem dX2_readAt_3 : decode cX2_readAt 3 = .ok (.ifCond .lt 44, 3) := by decide +kernel
theorem dX2_readAt_6 : decode cX2_readAt 6 = .ok (.iload_n 1, 1) := by decide +kernel
theorem dX2_readAt_7 : decode cX2_readAt 7 = .ok (.bipush 7, 2) := by decide +kernel
theorem dX2_readAt_9 : decode cX2_readAt 9 = .ok (.if_icmp .ge 38, 3) := by decide +kernel
theorem dX2_readAt_12 : decode cX2_readAt 12 = .ok (.iconst 0, 1) := by decide +kernel
theorem dX2_readAt_13 : decode cX2_readAt 13 = .ok (.istore_n 3, 1) := by decide +kernel
theorem dX2_readAt_14 : decode cX2_readAt 14 = .ok (.iload_n 3, 1) := by decide +kernel
theorem dX2_readAt_15 : decode cX2_readAt 15 = .ok (.bipush 6, 2) := by decide +kernel
theorem dX2_readAt_17 : decode cX2_readAt 17 = .ok (.if_icmp .ge 30, 3) := by decide +kernel
theorem dX2_readAt_20 : decode cX2_readAt 20 = .ok (.aload_n 0, 1) := by decide +kernel
theorem dX2_readAt_21 : decode cX2_readAt 21 = .ok (.getfield 35, 3) := by decide +kernel
theorem dX2_readAt_24 : decode cX2_readAt 24 = .ok (.iload_n 1, 1) := by decide +kernel
theorem dX2_readAt_25 : decode cX2_readAt 25 = .ok (.aaload, 1) := by decide +kernel
theorem dX2_readAt_26 : decode cX2_readAt 26 = .ok (.iload_n 3, 1) := by decide +kernel
theorem dX2_readAt_27 : decode cX2_readAt 27 = .ok (.iaload, 1) := by decide +kernel
theorem dX2_readAt_28 : decode cX2_readAt 28 = .ok (.aload_n 0, 1) := by decide +kernel
theorem dX2_readAt_29 : decode cX2_readAt 29 = .ok (.getfield 38, 3) := by decide +kernel
theorem dX2_readAt_32 : decode cX2_readAt 32 = .ok (.if_icmp .lt 9, 3) := by decide +kernel
theorem dX2_readAt_35 : decode cX2_readAt 35 = .ok (.iload_n 2, 1) := by decide +kernel
theorem dX2_readAt_36 : decode cX2_readAt 36 = .ok (.iconst 1, 1) := by decide +kernel
theorem dX2_readAt_37 : decode cX2_readAt 37 = .ok (.iload_n 3, 1) := by decide +kernel
theorem dX2_readAt_38 : decode cX2_readAt 38 = .ok (.ishl, 1) := by decide +kernel
theorem dX2_readAt_39 : decode cX2_readAt 39 = .ok (.ior, 1) := by decide +kernel
theorem dX2_readAt_40 : decode cX2_readAt 40 = .ok (.istore_n 2, 1) := by decide +kernel
theorem dX2_readAt_41 : decode cX2_readAt 41 = .ok (.iinc 3 1, 3) := by decide +kernel
theorem dX2_readAt_44 : decode cX2_readAt 44 = .ok (.goto (-30), 3) := by decide +kernel
theorem dX2_readAt_47 : decode cX2_readAt 47 = .ok (.iload_n 2, 1) := by decide +kernel
theorem dX2_readAt_48 : decode cX2_readAt 48 = .ok (.ireturn, 1) := by decide +kernel
theorem dX2_passHour_0 : decode cX2_passHour 0 = .ok (.aload_n 0, 1) := by decide +kernel
theorem dX2_passHour_1 : decode cX2_passHour 1 = .ok (.invokevirtual 71, 3) := by decide +kernel
theorem dX2_passHour_4 : decode cX2_passHour 4 = .ok (.iconst 0, 1) := by decide +kernel
theorem dX2_passHour_5 : decode cX2_passHour 5 = .ok (.istore_n 1, 1) := by decide +kernel
theorem dX2_passHour_6 : decode cX2_passHour 6 = .ok (.iload_n 1, 1) := by decide +kernel
theorem dX2_passHour_7 : decode cX2_passHour 7 = .ok (.aload_n 0, 1) := by decide +kernel
theorem dX2_passHour_8 : decode cX2_passHour 8 = .ok (.getfield 49, 3) := by decide +kernel
theorem dX2_passHour_11 : decode cX2_passHour 11 = .ok (.if_icmp .ge 19, 3) := by decide +kernel
theorem dX2_passHour_14 : decode cX2_passHour 14 = .ok (.iload_n 1, 1) := by decide +kernel
theorem dX2_passHour_15 : decode cX2_passHour 15 = .ok (.iconst 3, 1) := by decide +kernel
theorem dX2_passHour_16 : decode cX2_passHour 16 = .ok (.if_icmp .ge 14, 3) := by decide +kernel
theorem dX2_passHour_19 : decode cX2_passHour 19 = .ok (.aload_n 0, 1) := by decide +kernel
theorem dX2_passHour_20 : decode cX2_passHour 20 = .ok (.iload_n 1, 1) := by decide +kernel
theorem dX2_passHour_21 : decode cX2_passHour 21 = .ok (.invokevirtual 74, 3) := by decide +kernel
theorem dX2_passHour_24 : decode cX2_passHour 24 = .ok (.iinc 1 1, 3) := by decide +kernel
theorem dX2_passHour_27 : decode cX2_passHour 27 = .ok (.goto (-21), 3) := by decide +kernel
theorem dX2_passHour_30 : decode cX2_passHour 30 = .ok (.iconst 0, 1) := by decide +kernel
theorem dX2_passHour_31 : decode cX2_passHour 31 = .ok (.istore_n 1, 1) := by decide +kernel
theorem dX2_passHour_32 : decode cX2_passHour 32 = .ok (.iload_n 1, 1) := by decide +kernel
theorem dX2_passHour_33 : decode cX2_passHour 33 = .ok (.aload_n 0, 1) := by decide +kernel
theorem dX2_passHour_34 : decode cX2_passHour 34 = .ok (.getfield 42, 3) := by decide +kernel
theorem dX2_passHour_37 : decode cX2_passHour 37 = .ok (.if_icmp .ge 43, 3) := by decide +kernel
theorem dX2_passHour_40 : decode cX2_passHour 40 = .ok (.iload_n 1, 1) := by decide +kernel
theorem dX2_passHour_41 : decode cX2_passHour 41 = .ok (.bipush 6, 2) := by decide +kernel
theorem dX2_passHour_43 : decode cX2_passHour 43 = .ok (.if_icmp .ge 37, 3) := by decide +kernel
theorem dX2_passHour_46 : decode cX2_passHour 46 = .ok (.aload_n 0, 1) := by decide +kernel
theorem dX2_passHour_47 : decode cX2_passHour 47 = .ok (.getfield 11, 3) := by decide +kernel
theorem dX2_passHour_50 : decode cX2_passHour 50 = .ok (.iload_n 1, 1) := by decide +kernel
theorem dX2_passHour_51 : decode cX2_passHour 51 = .ok (.aaload, 1) := by decide +kernel
theorem dX2_passHour_52 : decode cX2_passHour 52 = .ok (.getfield 68, 3) := by decide +kernel
theorem dX2_passHour_55 : decode cX2_passHour 55 = .ok (.iconst 2, 1) := by decide +kernel
theorem dX2_passHour_56 : decode cX2_passHour 56 = .ok (.if_icmp .ne 18, 3) := by decide +kernel
theorem dX2_passHour_59 : decode cX2_passHour 59 = .ok (.aload_n 0, 1) := by decide +kernel
theorem dX2_passHour_60 : decode cX2_passHour 60 = .ok (.getfield 11, 3) := by decide +kernel
theorem dX2_passHour_63 : decode cX2_passHour 63 = .ok (.iload_n 1, 1) := by decide +kernel
theorem dX2_passHour_64 : decode cX2_passHour 64 = .ok (.aaload, 1) := by decide +kernel
theorem dX2_passHour_65 : decode cX2_passHour 65 = .ok (.dup, 1) := by decide +kernel
theorem dX2_passHour_66 : decode cX2_passHour 66 = .ok (.getfield 78, 3) := by decide +kernel
theorem dX2_passHour_69 : decode cX2_passHour 69 = .ok (.iconst 1, 1) := by decide +kernel
theorem dX2_passHour_70 : decode cX2_passHour 70 = .ok (.iadd, 1) := by decide +kernel
theorem dX2_passHour_71 : decode cX2_passHour 71 = .ok (.putfield 78, 3) := by decide +kernel
theorem dX2_passHour_74 : decode cX2_passHour 74 = .ok (.iinc 1 1, 3) := by decide +kernel
theorem dX2_passHour_77 : decode cX2_passHour 77 = .ok (.goto (-45), 3) := by decide +kernel
theorem dX2_passHour_80 : decode cX2_passHour 80 = .ok (.aload_n 0, 1) := by decide +kernel
theorem dX2_passHour_81 : decode cX2_passHour 81 = .ok (.dup, 1) := by decide +kernel
theorem dX2_passHour_82 : decode cX2_passHour 82 = .ok (.getfield 61, 3) := by decide +kernel
theorem dX2_passHour_85 : decode cX2_passHour 85 = .ok (.iconst 1, 1) := by decide +kernel
theorem dX2_passHour_86 : decode cX2_passHour 86 = .ok (.iadd, 1) := by decide +kernel
theorem dX2_passHour_87 : decode cX2_passHour 87 = .ok (.putfield 61, 3) := by decide +kernel
theorem dX2_passHour_90 : decode cX2_passHour 90 = .ok (.return_, 1) := by decide +kernel
theorem dX2_flow_0 : decode cX2_flow 0 = .ok (.iconst 0, 1) := by decide +kernel
theorem dX2_flow_1 : decode cX2_flow 1 = .ok (.istore_n 1, 1) := by decide +kernel
theorem dX2_flow_2 : decode cX2_flow 2 = .ok (.iload_n 1, 1) := by decide +kernel
theorem dX2_flow_3 : decode cX2_flow 3 = .ok (.bipush 6, 2) := by decide +kernel
theorem dX2_flow_5 : decode cX2_flow 5 = .ok (.if_icmp .ge 51, 3) := by decide +kernel
theorem dX2_flow_8 : decode cX2_flow 8 = .ok (.bipush 6, 2) := by decide +kernel
theorem dX2_flow_10 : decode cX2_flow 10 = .ok (.istore_n 2, 1) := by decide +kernel
theorem dX2_flow_11 : decode cX2_flow 11 = .ok (.iload_n 2, 1) := by decide +kernel
theorem dX2_flow_12 : decode cX2_flow 12 = .ok (.ifCond .le 29, 3) := by decide +kernel
theorem dX2_flow_15 : decode cX2_flow 15 = .ok (.aload_n 0, 1) := by decide +kernel
theorem dX2_flow_16 : decode cX2_flow 16 = .ok (.getfield 35, 3) := by decide +kernel
theorem dX2_flow_19 : decode cX2_flow 19 = .ok (.iload_n 2, 1) := by decide +kernel
theorem dX2_flow_20 : decode cX2_flow 20 = .ok (.aaload, 1) := by decide +kernel
theorem dX2_flow_21 : decode cX2_flow 21 = .ok (.iload_n 1, 1) := by decide +kernel
theorem dX2_flow_22 : decode cX2_flow 22 = .ok (.aload_n 0, 1) := by decide +kernel
theorem dX2_flow_23 : decode cX2_flow 23 = .ok (.getfield 35, 3) := by decide +kernel
theorem dX2_flow_26 : decode cX2_flow 26 = .ok (.iload_n 2, 1) := by decide +kernel
theorem dX2_flow_27 : decode cX2_flow 27 = .ok (.iconst 1, 1) := by decide +kernel
theorem dX2_flow_28 : decode cX2_flow 28 = .ok (.isub, 1) := by decide +kernel
theorem dX2_flow_29 : decode cX2_flow 29 = .ok (.aaload, 1) := by decide +kernel
theorem dX2_flow_30 : decode cX2_flow 30 = .ok (.iload_n 1, 1) := by decide +kernel
theorem dX2_flow_31 : decode cX2_flow 31 = .ok (.iaload, 1) := by decide +kernel
theorem dX2_flow_32 : decode cX2_flow 32 = .ok (.iconst 2, 1) := by decide +kernel
theorem dX2_flow_33 : decode cX2_flow 33 = .ok (.idiv, 1) := by decide +kernel
theorem dX2_flow_34 : decode cX2_flow 34 = .ok (.iastore, 1) := by decide +kernel
theorem dX2_flow_35 : decode cX2_flow 35 = .ok (.iinc 2 (-1), 3) := by decide +kernel
theorem dX2_flow_38 : decode cX2_flow 38 = .ok (.goto (-27), 3) := by decide +kernel
theorem dX2_flow_41 : decode cX2_flow 41 = .ok (.aload_n 0, 1) := by decide +kernel
theorem dX2_flow_42 : decode cX2_flow 42 = .ok (.getfield 35, 3) := by decide +kernel
theorem dX2_flow_45 : decode cX2_flow 45 = .ok (.iconst 0, 1) := by decide +kernel
theorem dX2_flow_46 : decode cX2_flow 46 = .ok (.aaload, 1) := by decide +kernel
theorem dX2_flow_47 : decode cX2_flow 47 = .ok (.iload_n 1, 1) := by decide +kernel
theorem dX2_flow_48 : decode cX2_flow 48 = .ok (.iconst 0, 1) := by decide +kernel
theorem dX2_flow_49 : decode cX2_flow 49 = .ok (.iastore, 1) := by decide +kernel
theorem dX2_flow_50 : decode cX2_flow 50 = .ok (.iinc 1 1, 3) := by decide +kernel
theorem dX2_flow_53 : decode cX2_flow 53 = .ok (.goto (-51), 3) := by decide +kernel
theorem dX2_flow_56 : decode cX2_flow 56 = .ok (.return_, 1) := by decide +kernel
theorem dX2_rubStone_0 : decode cX2_rubStone 0 = .ok (.aload_n 0, 1) := by decide +kernel
theorem dX2_rubStone_1 : decode cX2_rubStone 1 = .ok (.iload_n 1, 1) := by decide +kernel
theorem dX2_rubStone_2 : decode cX2_rubStone 2 = .ok (.invokevirtual 81, 3) := by decide +kernel
theorem dX2_rubStone_5 : decode cX2_rubStone 5 = .ok (.ifCond .eq 16, 3) := by decide +kernel
theorem dX2_rubStone_8 : decode cX2_rubStone 8 = .ok (.aload_n 0, 1) := by decide +kernel
theorem dX2_rubStone_9 : decode cX2_rubStone 9 = .ok (.aload_n 0, 1) := by decide +kernel
theorem dX2_rubStone_10 : decode cX2_rubStone 10 = .ok (.getfield 24, 3) := by decide +kernel
theorem dX2_rubStone_13 : decode cX2_rubStone 13 = .ok (.iload_n 1, 1) := by decide +kernel
theorem dX2_rubStone_14 : decode cX2_rubStone 14 = .ok (.iaload, 1) := by decide +kernel
theorem dX2_rubStone_15 : decode cX2_rubStone 15 = .ok (.invokevirtual 85, 3) := by decide +kernel
theorem dX2_rubStone_18 : decode cX2_rubStone 18 = .ok (.goto 4, 3) := by decide +kernel
theorem dX2_rubStone_21 : decode cX2_rubStone 21 = .ok (.aconst_null, 1) := by decide +kernel
theorem dX2_rubStone_22 : decode cX2_rubStone 22 = .ok (.astore_n 2, 1) := by decide +kernel
theorem dX2_rubStone_23 : decode cX2_rubStone 23 = .ok (.aload_n 2, 1) := by decide +kernel
theorem dX2_rubStone_24 : decode cX2_rubStone 24 = .ok (.ifnonnull 4, 3) := by decide +kernel
theorem dX2_rubStone_27 : decode cX2_rubStone 27 = .ok (.return_, 1) := by decide +kernel
theorem dX2_rubStone_28 : decode cX2_rubStone 28 = .ok (.aload_n 2, 1) := by decide +kernel
theorem dX2_rubStone_29 : decode cX2_rubStone 29 = .ok (.getfield 89, 3) := by decide +kernel
theorem dX2_rubStone_32 : decode cX2_rubStone 32 = .ok (.aload_n 0, 1) := by decide +kernel
theorem dX2_rubStone_33 : decode cX2_rubStone 33 = .ok (.getfield 20, 3) := by decide +kernel
theorem dX2_rubStone_36 : decode cX2_rubStone 36 = .ok (.iload_n 1, 1) := by decide +kernel
theorem dX2_rubStone_37 : decode cX2_rubStone 37 = .ok (.iaload, 1) := by decide +kernel
theorem dX2_rubStone_38 : decode cX2_rubStone 38 = .ok (.invokevirtual 93, 3) := by decide +kernel
theorem dX2_rubStone_41 : decode cX2_rubStone 41 = .ok (.istore_n 3, 1) := by decide +kernel
theorem dX2_rubStone_42 : decode cX2_rubStone 42 = .ok (.iconst 0, 1) := by decide +kernel
theorem dX2_rubStone_43 : decode cX2_rubStone 43 = .ok (.istore 4, 2) := by decide +kernel
theorem dX2_rubStone_45 : decode cX2_rubStone 45 = .ok (.iload 4, 2) := by decide +kernel
theorem dX2_rubStone_47 : decode cX2_rubStone 47 = .ok (.iload_n 3, 1) := by decide +kernel
theorem dX2_rubStone_48 : decode cX2_rubStone 48 = .ok (.if_icmp .ge 14, 3) := by decide +kernel
theorem dX2_rubStone_51 : decode cX2_rubStone 51 = .ok (.aload_n 0, 1) := by decide +kernel
theorem dX2_rubStone_52 : decode cX2_rubStone 52 = .ok (.aload_n 2, 1) := by decide +kernel
theorem dX2_rubStone_53 : decode cX2_rubStone 53 = .ok (.invokevirtual 99, 3) := by decide +kernel
theorem dX2_rubStone_56 : decode cX2_rubStone 56 = .ok (.iinc 4 1, 3) := by decide +kernel
theorem dX2_rubStone_59 : decode cX2_rubStone 59 = .ok (.goto (-14), 3) := by decide +kernel
theorem dX2_rubStone_62 : decode cX2_rubStone 62 = .ok (.aload_n 2, 1) := by decide +kernel
theorem dX2_rubStone_63 : decode cX2_rubStone 63 = .ok (.iconst 0, 1) := by decide +kernel
theorem dX2_rubStone_64 : decode cX2_rubStone 64 = .ok (.aload_n 2, 1) := by decide +kernel
theorem dX2_rubStone_65 : decode cX2_rubStone 65 = .ok (.getfield 102, 3) := by decide +kernel
theorem dX2_rubStone_68 : decode cX2_rubStone 68 = .ok (.aload_n 2, 1) := by decide +kernel
theorem dX2_rubStone_69 : decode cX2_rubStone 69 = .ok (.getfield 89, 3) := by decide +kernel
theorem dX2_rubStone_72 : decode cX2_rubStone 72 = .ok (.invokevirtual 105, 3) := by decide +kernel
theorem dX2_rubStone_75 : decode cX2_rubStone 75 = .ok (.isub, 1) := by decide +kernel
theorem dX2_rubStone_76 : decode cX2_rubStone 76 = .ok (.invokestatic 109, 3) := by decide +kernel
theorem dX2_rubStone_79 : decode cX2_rubStone 79 = .ok (.putfield 102, 3) := by decide +kernel
theorem dX2_rubStone_82 : decode cX2_rubStone 82 = .ok (.aload_n 2, 1) := by decide +kernel
theorem dX2_rubStone_83 : decode cX2_rubStone 83 = .ok (.getfield 102, 3) := by decide +kernel
theorem dX2_rubStone_86 : decode cX2_rubStone 86 = .ok (.ifCond .ne 15, 3) := by decide +kernel
theorem dX2_rubStone_89 : decode cX2_rubStone 89 = .ok (.aload_n 2, 1) := by decide +kernel
theorem dX2_rubStone_90 : decode cX2_rubStone 90 = .ok (.iconst 4, 1) := by decide +kernel
theorem dX2_rubStone_91 : decode cX2_rubStone 91 = .ok (.putfield 68, 3) := by decide +kernel
theorem dX2_rubStone_94 : decode cX2_rubStone 94 = .ok (.aload_n 0, 1) := by decide +kernel
theorem dX2_rubStone_95 : decode cX2_rubStone 95 = .ok (.getfield 24, 3) := by decide +kernel
theorem dX2_rubStone_98 : decode cX2_rubStone 98 = .ok (.iload_n 1, 1) := by decide +kernel
theorem dX2_rubStone_99 : decode cX2_rubStone 99 = .ok (.iconst (-1), 1) := by decide +kernel
theorem dX2_rubStone_100 : decode cX2_rubStone 100 = .ok (.iastore, 1) := by decide +kernel
theorem dX2_rubStone_101 : decode cX2_rubStone 101 = .ok (.return_, 1) := by decide +kernel
theorem dX2_rubOnce_0 : decode cX2_rubOnce 0 = .ok (.aload_n 1, 1) := by decide +kernel
theorem dX2_rubOnce_1 : decode cX2_rubOnce 1 = .ok (.aload_n 0, 1) := by decide +kernel
theorem dX2_rubOnce_2 : decode cX2_rubOnce 2 = .ok (.getfield 58, 3) := by decide +kernel
theorem dX2_rubOnce_5 : decode cX2_rubOnce 5 = .ok (.ifCond .le 7, 3) := by decide +kernel
theorem dX2_rubOnce_8 : decode cX2_rubOnce 8 = .ok (.iconst 1, 1) := by decide +kernel
theorem dX2_rubOnce_9 : decode cX2_rubOnce 9 = .ok (.goto 4, 3) := by decide +kernel
theorem dX2_rubOnce_12 : decode cX2_rubOnce 12 = .ok (.iconst 0, 1) := by decide +kernel
theorem dX2_rubOnce_13 : decode cX2_rubOnce 13 = .ok (.invokevirtual 115, 3) := by decide +kernel
theorem dX2_rubOnce_16 : decode cX2_rubOnce 16 = .ok (.istore_n 2, 1) := by decide +kernel
theorem dX2_rubOnce_17 : decode cX2_rubOnce 17 = .ok (.iload_n 2, 1) := by decide +kernel
theorem dX2_rubOnce_18 : decode cX2_rubOnce 18 = .ok (.ifCond .lt 9, 3) := by decide +kernel
theorem dX2_rubOnce_21 : decode cX2_rubOnce 21 = .ok (.iload_n 2, 1) := by decide +kernel
theorem dX2_rubOnce_22 : decode cX2_rubOnce 22 = .ok (.bipush 6, 2) := by decide +kernel
theorem dX2_rubOnce_24 : decode cX2_rubOnce 24 = .ok (.if_icmp .lt 4, 3) := by decide +kernel
theorem dX2_rubOnce_27 : decode cX2_rubOnce 27 = .ok (.return_, 1) := by decide +kernel
theorem dX2_rubOnce_28 : decode cX2_rubOnce 28 = .ok (.aload_n 1, 1) := by decide +kernel
theorem dX2_rubOnce_29 : decode cX2_rubOnce 29 = .ok (.getfield 119, 3) := by decide +kernel
theorem dX2_rubOnce_32 : decode cX2_rubOnce 32 = .ok (.iload_n 2, 1) := by decide +kernel
theorem dX2_rubOnce_33 : decode cX2_rubOnce 33 = .ok (.dup2, 1) := by decide +kernel
theorem dX2_rubOnce_34 : decode cX2_rubOnce 34 = .ok (.iaload, 1) := by decide +kernel
theorem dX2_rubOnce_35 : decode cX2_rubOnce 35 = .ok (.iconst 1, 1) := by decide +kernel
theorem dX2_rubOnce_36 : decode cX2_rubOnce 36 = .ok (.isub, 1) := by decide +kernel
theorem dX2_rubOnce_37 : decode cX2_rubOnce 37 = .ok (.iastore, 1) := by decide +kernel
theorem dX2_rubOnce_38 : decode cX2_rubOnce 38 = .ok (.aload_n 0, 1) := by decide +kernel
theorem dX2_rubOnce_39 : decode cX2_rubOnce 39 = .ok (.getfield 35, 3) := by decide +kernel
theorem dX2_rubOnce_42 : decode cX2_rubOnce 42 = .ok (.iconst 0, 1) := by decide +kernel
theorem dX2_rubOnce_43 : decode cX2_rubOnce 43 = .ok (.aaload, 1) := by decide +kernel
theorem dX2_rubOnce_44 : decode cX2_rubOnce 44 = .ok (.iload_n 2, 1) := by decide +kernel
theorem dX2_rubOnce_45 : decode cX2_rubOnce 45 = .ok (.dup2, 1) := by decide +kernel
theorem dX2_rubOnce_46 : decode cX2_rubOnce 46 = .ok (.iaload, 1) := by decide +kernel
theorem dX2_rubOnce_47 : decode cX2_rubOnce 47 = .ok (.bipush 64, 2) := by decide +kernel
theorem dX2_rubOnce_49 : decode cX2_rubOnce 49 = .ok (.iadd, 1) := by decide +kernel
theorem dX2_rubOnce_50 : decode cX2_rubOnce 50 = .ok (.iastore, 1) := by decide +kernel
theorem dX2_rubOnce_51 : decode cX2_rubOnce 51 = .ok (.iload_n 2, 1) := by decide +kernel
theorem dX2_rubOnce_52 : decode cX2_rubOnce 52 = .ok (.iconst 5, 1) := by decide +kernel
theorem dX2_rubOnce_53 : decode cX2_rubOnce 53 = .ok (.if_icmp .ne 13, 3) := by decide +kernel
theorem dX2_rubOnce_56 : decode cX2_rubOnce 56 = .ok (.aload_n 0, 1) := by decide +kernel
theorem dX2_rubOnce_57 : decode cX2_rubOnce 57 = .ok (.dup, 1) := by decide +kernel
theorem dX2_rubOnce_58 : decode cX2_rubOnce 58 = .ok (.getfield 58, 3) := by decide +kernel
theorem dX2_rubOnce_61 : decode cX2_rubOnce 61 = .ok (.iconst 1, 1) := by decide +kernel
theorem dX2_rubOnce_62 : decode cX2_rubOnce 62 = .ok (.isub, 1) := by decide +kernel
theorem dX2_rubOnce_63 : decode cX2_rubOnce 63 = .ok (.putfield 58, 3) := by decide +kernel
theorem dX2_rubOnce_66 : decode cX2_rubOnce 66 = .ok (.return_, 1) := by decide +kernel
theorem dX3_init_0 : decode cX3_init 0 = .ok (.aload_n 0, 1) := by decide +kernel
theorem dX3_init_1 : decode cX3_init 1 = .ok (.invokespecial 1, 3) := by decide +kernel
theorem dX3_init_4 : decode cX3_init 4 = .ok (.return_, 1) := by decide +kernel
theorem dX3_number_0 : decode cX3_number 0 = .ok (.iconst 2, 1) := by decide +kernel
theorem dX3_number_1 : decode cX3_number 1 = .ok (.ireturn, 1) := by decide +kernel
theorem dX3_word_0 : decode cX3_word 0 = .ok (.ldc 7, 2) := by decide +kernel
theorem dX3_word_2 : decode cX3_word 2 = .ok (.areturn, 1) := by decide +kernel
theorem dX3_shrinks_0 : decode cX3_shrinks 0 = .ok (.iconst 2, 1) := by decide +kernel
theorem dX3_shrinks_1 : decode cX3_shrinks 1 = .ok (.aload_n 0, 1) := by decide +kernel
theorem dX3_shrinks_2 : decode cX3_shrinks 2 = .ok (.invokespecial 9, 3) := by decide +kernel
theorem dX3_shrinks_5 : decode cX3_shrinks 5 = .ok (.imul, 1) := by decide +kernel
theorem dX3_shrinks_6 : decode cX3_shrinks 6 = .ok (.ireturn, 1) := by decide +kernel
theorem dX3_dries_0 : decode cX3_dries 0 = .ok (.aload_n 0, 1) := by decide +kernel
theorem dX3_dries_1 : decode cX3_dries 1 = .ok (.invokespecial 13, 3) := by decide +kernel
theorem dX3_dries_4 : decode cX3_dries 4 = .ok (.iconst 1, 1) := by decide +kernel
theorem dX3_dries_5 : decode cX3_dries 5 = .ok (.isub, 1) := by decide +kernel
theorem dX3_dries_6 : decode cX3_dries 6 = .ok (.ireturn, 1) := by decide +kernel
theorem dX4_init_0 : decode cX4_init 0 = .ok (.aload_n 0, 1) := by decide +kernel
theorem dX4_init_1 : decode cX4_init 1 = .ok (.invokespecial 1, 3) := by decide +kernel
theorem dX4_init_4 : decode cX4_init 4 = .ok (.return_, 1) := by decide +kernel
theorem dX5_init_0 : decode cX5_init 0 = .ok (.aload_n 0, 1) := by decide +kernel
theorem dX5_init_1 : decode cX5_init 1 = .ok (.invokespecial 3, 3) := by decide +kernel
theorem dX5_init_4 : decode cX5_init 4 = .ok (.aload_n 0, 1) := by decide +kernel
theorem dX5_init_5 : decode cX5_init 5 = .ok (.bipush 16, 2) := by decide +kernel
theorem dX5_init_7 : decode cX5_init 7 = .ok (.newarray .int, 2) := by decide +kernel
theorem dX5_init_9 : decode cX5_init 9 = .ok (.putfield 9, 3) := by decide +kernel
theorem dX5_init_12 : decode cX5_init 12 = .ok (.aload_n 0, 1) := by decide +kernel
theorem dX5_init_13 : decode cX5_init 13 = .ok (.bipush 16, 2) := by decide +kernel
theorem dX5_init_15 : decode cX5_init 15 = .ok (.newarray .int, 2) := by decide +kernel
theorem dX5_init_17 : decode cX5_init 17 = .ok (.putfield 15, 3) := by decide +kernel
theorem dX5_init_20 : decode cX5_init 20 = .ok (.return_, 1) := by decide +kernel
theorem dX5_stretch_0 : decode cX5_stretch 0 = .ok (.aload_n 0, 1) := by decide +kernel
theorem dX5_stretch_1 : decode cX5_stretch 1 = .ok (.iconst 1, 1) := by decide +kernel
theorem dX5_stretch_2 : decode cX5_stretch 2 = .ok (.putfield 18, 3) := by decide +kernel
theorem dX5_stretch_5 : decode cX5_stretch 5 = .ok (.aload_n 0, 1) := by decide +kernel
theorem dX5_stretch_6 : decode cX5_stretch 6 = .ok (.iload_n 1, 1) := by decide +kernel
theorem dX5_stretch_7 : decode cX5_stretch 7 = .ok (.putfield 22, 3) := by decide +kernel
theorem dX5_stretch_10 : decode cX5_stretch 10 = .ok (.aload_n 0, 1) := by decide +kernel
theorem dX5_stretch_11 : decode cX5_stretch 11 = .ok (.iload_n 2, 1) := by decide +kernel
theorem dX5_stretch_12 : decode cX5_stretch 12 = .ok (.putfield 26, 3) := by decide +kernel
theorem dX5_stretch_15 : decode cX5_stretch 15 = .ok (.aload_n 0, 1) := by decide +kernel
theorem dX5_stretch_16 : decode cX5_stretch 16 = .ok (.getfield 9, 3) := by decide +kernel
theorem dX5_stretch_19 : decode cX5_stretch 19 = .ok (.iconst 0, 1) := by decide +kernel
theorem dX5_stretch_20 : decode cX5_stretch 20 = .ok (.invokestatic 29, 3) := by decide +kernel
theorem dX5_stretch_23 : decode cX5_stretch 23 = .ok (.return_, 1) := by decide +kernel
theorem dX5_hasPegs_0 : decode cX5_hasPegs 0 = .ok (.iload_n 1, 1) := by decide +kernel
theorem dX5_hasPegs_1 : decode cX5_hasPegs 1 = .ok (.ifCond .lt 26, 3) := by decide +kernel
theorem dX5_hasPegs_4 : decode cX5_hasPegs 4 = .ok (.iload_n 2, 1) := by decide +kernel
theorem dX5_hasPegs_5 : decode cX5_hasPegs 5 = .ok (.ifCond .lt 22, 3) := by decide +kernel
theorem dX5_hasPegs_8 : decode cX5_hasPegs 8 = .ok (.iload_n 1, 1) := by decide +kernel
theorem dX5_hasPegs_9 : decode cX5_hasPegs 9 = .ok (.aload_n 0, 1) := by decide +kernel
theorem dX5_hasPegs_10 : decode cX5_hasPegs 10 = .ok (.getfield 26, 3) := by decide +kernel
theorem dX5_hasPegs_13 : decode cX5_hasPegs 13 = .ok (.bipush 16, 2) := by decide +kernel
theorem dX5_hasPegs_15 : decode cX5_hasPegs 15 = .ok (.invokestatic 35, 3) := by decide +kernel
theorem dX5_hasPegs_18 : decode cX5_hasPegs 18 = .ok (.iload_n 2, 1) := by decide +kernel
theorem dX5_hasPegs_19 : decode cX5_hasPegs 19 = .ok (.isub, 1) := by decide +kernel
theorem dX5_hasPegs_20 : decode cX5_hasPegs 20 = .ok (.if_icmp .gt 7, 3) := by decide +kernel
theorem dX5_hasPegs_23 : decode cX5_hasPegs 23 = .ok (.iconst 1, 1) := by decide +kernel
theorem dX5_hasPegs_24 : decode cX5_hasPegs 24 = .ok (.goto 4, 3) := by decide +kernel
theorem dX5_hasPegs_27 : decode cX5_hasPegs 27 = .ok (.iconst 0, 1) := by decide +kernel
theorem dX5_hasPegs_28 : decode cX5_hasPegs 28 = .ok (.ireturn, 1) := by decide +kernel
theorem dX5_mayHold_0 : decode cX5_mayHold 0 = .ok (.iload_n 1, 1) := by decide +kernel
theorem dX5_mayHold_1 : decode cX5_mayHold 1 = .ok (.iconst 1, 1) := by decide +kernel
theorem dX5_mayHold_2 : decode cX5_mayHold 2 = .ok (.if_icmp .ne 17, 3) := by decide +kernel
theorem dX5_mayHold_5 : decode cX5_mayHold 5 = .ok (.aload_n 0, 1) := by decide +kernel
theorem dX5_mayHold_6 : decode cX5_mayHold 6 = .ok (.getfield 22, 3) := by decide +kernel
theorem dX5_mayHold_9 : decode cX5_mayHold 9 = .ok (.iconst 2, 1) := by decide +kernel
theorem dX5_mayHold_10 : decode cX5_mayHold 10 = .ok (.if_icmp .eq 7, 3) := by decide +kernel
theorem dX5_mayHold_13 : decode cX5_mayHold 13 = .ok (.iconst 1, 1) := by decide +kernel
theorem dX5_mayHold_14 : decode cX5_mayHold 14 = .ok (.goto 4, 3) := by decide +kernel
theorem dX5_mayHold_17 : decode cX5_mayHold 17 = .ok (.iconst 0, 1) := by decide +kernel
theorem dX5_mayHold_18 : decode cX5_mayHold 18 = .ok (.ireturn, 1) := by decide +kernel
theorem dX5_mayHold_19 : decode cX5_mayHold 19 = .ok (.iload_n 1, 1) := by decide +kernel
theorem dX5_mayHold_20 : decode cX5_mayHold 20 = .ok (.iconst 2, 1) := by decide +kernel
theorem dX5_mayHold_21 : decode cX5_mayHold 21 = .ok (.if_icmp .ne 11, 3) := by decide +kernel
theorem dX5_mayHold_24 : decode cX5_mayHold 24 = .ok (.aload_n 0, 1) := by decide +kernel
theorem dX5_mayHold_25 : decode cX5_mayHold 25 = .ok (.getfield 22, 3) := by decide +kernel
theorem dX5_mayHold_28 : decode cX5_mayHold 28 = .ok (.iconst 1, 1) := by decide +kernel
theorem dX5_mayHold_29 : decode cX5_mayHold 29 = .ok (.if_icmp .eq 7, 3) := by decide +kernel
theorem dX5_mayHold_32 : decode cX5_mayHold 32 = .ok (.iconst 1, 1) := by decide +kernel
theorem dX5_mayHold_33 : decode cX5_mayHold 33 = .ok (.goto 4, 3) := by decide +kernel
theorem dX5_mayHold_36 : decode cX5_mayHold 36 = .ok (.iconst 0, 1) := by decide +kernel
theorem dX5_mayHold_37 : decode cX5_mayHold 37 = .ok (.ireturn, 1) := by decide +kernel
theorem dX5_put_0 : decode cX5_put 0 = .ok (.aload_n 0, 1) := by decide +kernel
theorem dX5_put_1 : decode cX5_put 1 = .ok (.iload_n 1, 1) := by decide +kernel
theorem dX5_put_2 : decode cX5_put 2 = .ok (.iconst 1, 1) := by decide +kernel
theorem dX5_put_3 : decode cX5_put 3 = .ok (.invokevirtual 41, 3) := by decide +kernel
theorem dX5_put_6 : decode cX5_put 6 = .ok (.ifCond .eq 17, 3) := by decide +kernel
theorem dX5_put_9 : decode cX5_put 9 = .ok (.aload_n 0, 1) := by decide +kernel
theorem dX5_put_10 : decode cX5_put 10 = .ok (.getfield 9, 3) := by decide +kernel
theorem dX5_put_13 : decode cX5_put 13 = .ok (.iload_n 1, 1) := by decide +kernel
theorem dX5_put_14 : decode cX5_put 14 = .ok (.iload_n 2, 1) := by decide +kernel
theorem dX5_put_15 : decode cX5_put 15 = .ok (.iastore, 1) := by decide +kernel
theorem dX5_put_16 : decode cX5_put 16 = .ok (.aload_n 0, 1) := by decide +kernel
theorem dX5_put_17 : decode cX5_put 17 = .ok (.getfield 15, 3) := by decide +kernel
theorem dX5_put_20 : decode cX5_put 20 = .ok (.iload_n 1, 1) := by decide +kernel
theorem dX5_put_21 : decode cX5_put 21 = .ok (.iload_n 3, 1) := by decide +kernel
theorem dX5_put_22 : decode cX5_put 22 = .ok (.iastore, 1) := by decide +kernel
theorem dX5_put_23 : decode cX5_put 23 = .ok (.return_, 1) := by decide +kernel
theorem dX5_take_0 : decode cX5_take 0 = .ok (.aload_n 1, 1) := by decide +kernel
theorem dX5_take_1 : decode cX5_take 1 = .ok (.iload_n 2, 1) := by decide +kernel
theorem dX5_take_2 : decode cX5_take 2 = .ok (.iload_n 3, 1) := by decide +kernel
theorem dX5_take_3 : decode cX5_take 3 = .ok (.invokevirtual 41, 3) := by decide +kernel
theorem dX5_take_6 : decode cX5_take 6 = .ok (.ifCond .eq 31, 3) := by decide +kernel
theorem dX5_take_9 : decode cX5_take 9 = .ok (.aload_n 1, 1) := by decide +kernel
theorem dX5_take_10 : decode cX5_take 10 = .ok (.getfield 9, 3) := by decide +kernel
theorem dX5_take_13 : decode cX5_take 13 = .ok (.iload_n 2, 1) := by decide +kernel
theorem dX5_take_14 : decode cX5_take 14 = .ok (.aload_n 0, 1) := by decide +kernel
theorem dX5_take_15 : decode cX5_take 15 = .ok (.getfield 9, 3) := by decide +kernel
theorem dX5_take_18 : decode cX5_take 18 = .ok (.iconst 0, 1) := by decide +kernel
theorem dX5_take_19 : decode cX5_take 19 = .ok (.iload_n 3, 1) := by decide +kernel
theorem dX5_take_20 : decode cX5_take 20 = .ok (.invokestatic 45, 3) := by decide +kernel
theorem dX5_take_23 : decode cX5_take 23 = .ok (.aload_n 1, 1) := by decide +kernel
theorem dX5_take_24 : decode cX5_take 24 = .ok (.getfield 15, 3) := by decide +kernel
theorem dX5_take_27 : decode cX5_take 27 = .ok (.iload_n 2, 1) := by decide +kernel
theorem dX5_take_28 : decode cX5_take 28 = .ok (.aload_n 0, 1) := by decide +kernel
theorem dX5_take_29 : decode cX5_take 29 = .ok (.getfield 15, 3) := by decide +kernel
theorem dX5_take_32 : decode cX5_take 32 = .ok (.iconst 0, 1) := by decide +kernel
theorem dX5_take_33 : decode cX5_take 33 = .ok (.iload_n 3, 1) := by decide +kernel
theorem dX5_take_34 : decode cX5_take 34 = .ok (.invokestatic 45, 3) := by decide +kernel
theorem dX5_take_37 : decode cX5_take 37 = .ok (.return_, 1) := by decide +kernel
theorem dX5_heldPegs_0 : decode cX5_heldPegs 0 = .ok (.iconst 0, 1) := by decide +kernel
theorem dX5_heldPegs_1 : decode cX5_heldPegs 1 = .ok (.istore_n 1, 1) := by decide +kernel
theorem dX5_heldPegs_2 : decode cX5_heldPegs 2 = .ok (.iconst 0, 1) := by decide +kernel
theorem dX5_heldPegs_3 : decode cX5_heldPegs 3 = .ok (.istore_n 2, 1) := by decide +kernel
theorem dX5_heldPegs_4 : decode cX5_heldPegs 4 = .ok (.iload_n 2, 1) := by decide +kernel
theorem dX5_heldPegs_5 : decode cX5_heldPegs 5 = .ok (.aload_n 0, 1) := by decide +kernel
theorem dX5_heldPegs_6 : decode cX5_heldPegs 6 = .ok (.getfield 26, 3) := by decide +kernel
theorem dX5_heldPegs_9 : decode cX5_heldPegs 9 = .ok (.if_icmp .ge 32, 3) := by decide +kernel
theorem dX5_heldPegs_12 : decode cX5_heldPegs 12 = .ok (.iload_n 2, 1) := by decide +kernel
theorem dX5_heldPegs_13 : decode cX5_heldPegs 13 = .ok (.bipush 16, 2) := by decide +kernel
theorem dX5_heldPegs_15 : decode cX5_heldPegs 15 = .ok (.if_icmp .ge 26, 3) := by decide +kernel
theorem dX5_heldPegs_18 : decode cX5_heldPegs 18 = .ok (.iload_n 1, 1) := by decide +kernel
theorem dX5_heldPegs_19 : decode cX5_heldPegs 19 = .ok (.aload_n 0, 1) := by decide +kernel
theorem dX5_heldPegs_20 : decode cX5_heldPegs 20 = .ok (.getfield 9, 3) := by decide +kernel
theorem dX5_heldPegs_23 : decode cX5_heldPegs 23 = .ok (.iload_n 2, 1) := by decide +kernel
theorem dX5_heldPegs_24 : decode cX5_heldPegs 24 = .ok (.iaload, 1) := by decide +kernel
theorem dX5_heldPegs_25 : decode cX5_heldPegs 25 = .ok (.ifCond .ne 7, 3) := by decide +kernel
theorem dX5_heldPegs_28 : decode cX5_heldPegs 28 = .ok (.iconst 0, 1) := by decide +kernel
theorem dX5_heldPegs_29 : decode cX5_heldPegs 29 = .ok (.goto 4, 3) := by decide +kernel
theorem dX5_heldPegs_32 : decode cX5_heldPegs 32 = .ok (.iconst 1, 1) := by decide +kernel
theorem dX5_heldPegs_33 : decode cX5_heldPegs 33 = .ok (.iadd, 1) := by decide +kernel
theorem dX5_heldPegs_34 : decode cX5_heldPegs 34 = .ok (.istore_n 1, 1) := by decide +kernel
theorem dX5_heldPegs_35 : decode cX5_heldPegs 35 = .ok (.iinc 2 1, 3) := by decide +kernel
theorem dX5_heldPegs_38 : decode cX5_heldPegs 38 = .ok (.goto (-34), 3) := by decide +kernel
theorem dX5_heldPegs_41 : decode cX5_heldPegs 41 = .ok (.iload_n 1, 1) := by decide +kernel
theorem dX5_heldPegs_42 : decode cX5_heldPegs 42 = .ok (.ireturn, 1) := by decide +kernel
theorem dX6_init_0 : decode cX6_init 0 = .ok (.aload_n 0, 1) := by decide +kernel
theorem dX6_init_1 : decode cX6_init 1 = .ok (.invokespecial 3, 3) := by decide +kernel
theorem dX6_init_4 : decode cX6_init 4 = .ok (.aload_n 0, 1) := by decide +kernel
theorem dX6_init_5 : decode cX6_init 5 = .ok (.aload_n 1, 1) := by decide +kernel
theorem dX6_init_6 : decode cX6_init 6 = .ok (.putfield 9, 3) := by decide +kernel
theorem dX6_init_9 : decode cX6_init 9 = .ok (.aload_n 0, 1) := by decide +kernel
theorem dX6_init_10 : decode cX6_init 10 = .ok (.bipush 6, 2) := by decide +kernel
theorem dX6_init_12 : decode cX6_init 12 = .ok (.newarray .int, 2) := by decide +kernel
theorem dX6_init_14 : decode cX6_init 14 = .ok (.putfield 15, 3) := by decide +kernel
theorem dX6_init_17 : decode cX6_init 17 = .ok (.aload_n 0, 1) := by decide +kernel
theorem dX6_init_18 : decode cX6_init 18 = .ok (.iconst 3, 1) := by decide +kernel
theorem dX6_init_19 : decode cX6_init 19 = .ok (.newarray .int, 2) := by decide +kernel
theorem dX6_init_21 : decode cX6_init 21 = .ok (.putfield 19, 3) := by decide +kernel
theorem dX6_init_24 : decode cX6_init 24 = .ok (.aload_n 0, 1) := by decide +kernel
theorem dX6_init_25 : decode cX6_init 25 = .ok (.bipush 6, 2) := by decide +kernel
theorem dX6_init_27 : decode cX6_init 27 = .ok (.newarray .int, 2) := by decide +kernel
theorem dX6_init_29 : decode cX6_init 29 = .ok (.putfield 22, 3) := by decide +kernel
theorem dX6_init_32 : decode cX6_init 32 = .ok (.aload_n 0, 1) := by decide +kernel
theorem dX6_init_33 : decode cX6_init 33 = .ok (.bipush 6, 2) := by decide +kernel
theorem dX6_init_35 : decode cX6_init 35 = .ok (.newarray .int, 2) := by decide +kernel
theorem dX6_init_37 : decode cX6_init 37 = .ok (.putfield 25, 3) := by decide +kernel
theorem dX6_init_40 : decode cX6_init 40 = .ok (.aload_n 0, 1) := by decide +kernel
theorem dX6_init_41 : decode cX6_init 41 = .ok (.iconst 3, 1) := by decide +kernel
theorem dX6_init_42 : decode cX6_init 42 = .ok (.bipush 6, 2) := by decide +kernel
theorem dX6_init_44 : decode cX6_init 44 = .ok (.multianewarray 28 2, 4) := by decide +kernel
theorem dX6_init_48 : decode cX6_init 48 = .ok (.putfield 30, 3) := by decide +kernel
theorem dX6_init_51 : decode cX6_init 51 = .ok (.return_, 1) := by decide +kernel
theorem dX6_washerFor_0 : decode cX6_washerFor 0 = .ok (.iload_n 1, 1) := by decide +kernel
theorem dX6_washerFor_1 : decode cX6_washerFor 1 = .ok (.ifCond .lt 9, 3) := by decide +kernel
theorem dX6_washerFor_4 : decode cX6_washerFor 4 = .ok (.iload_n 1, 1) := by decide +kernel
theorem dX6_washerFor_5 : decode cX6_washerFor 5 = .ok (.bipush 6, 2) := by decide +kernel
theorem dX6_washerFor_7 : decode cX6_washerFor 7 = .ok (.if_icmp .lt 7, 3) := by decide +kernel
theorem dX6_washerFor_10 : decode cX6_washerFor 10 = .ok (.iconst (-1), 1) := by decide +kernel
theorem dX6_washerFor_11 : decode cX6_washerFor 11 = .ok (.goto 9, 3) := by decide +kernel
theorem dX6_washerFor_14 : decode cX6_washerFor 14 = .ok (.aload_n 0, 1) := by decide +kernel
theorem dX6_washerFor_15 : decode cX6_washerFor 15 = .ok (.getfield 25, 3) := by decide +kernel
theorem dX6_washerFor_18 : decode cX6_washerFor 18 = .ok (.iload_n 1, 1) := by decide +kernel
theorem dX6_washerFor_19 : decode cX6_washerFor 19 = .ok (.iaload, 1) := by decide +kernel
theorem dX6_washerFor_20 : decode cX6_washerFor 20 = .ok (.ireturn, 1) := by decide +kernel
theorem dX6_make_0 : decode cX6_make 0 = .ok (.aload_n 0, 1) := by decide +kernel
theorem dX6_make_1 : decode cX6_make 1 = .ok (.iconst (-1), 1) := by decide +kernel
theorem dX6_make_2 : decode cX6_make 2 = .ok (.putfield 33, 3) := by decide +kernel
theorem dX6_make_5 : decode cX6_make 5 = .ok (.aload_n 0, 1) := by decide +kernel
theorem dX6_make_6 : decode cX6_make 6 = .ok (.getfield 19, 3) := by decide +kernel
theorem dX6_make_9 : decode cX6_make 9 = .ok (.iconst 0, 1) := by decide +kernel
theorem dX6_make_10 : decode cX6_make 10 = .ok (.invokestatic 37, 3) := by decide +kernel
theorem dX6_make_13 : decode cX6_make 13 = .ok (.aload_n 0, 1) := by decide +kernel
theorem dX6_make_14 : decode cX6_make 14 = .ok (.getfield 22, 3) := by decide +kernel
theorem dX6_make_17 : decode cX6_make 17 = .ok (.iconst (-1), 1) := by decide +kernel
theorem dX6_make_18 : decode cX6_make 18 = .ok (.invokestatic 37, 3) := by decide +kernel
theorem dX6_make_21 : decode cX6_make 21 = .ok (.aload_n 0, 1) := by decide +kernel
theorem dX6_make_22 : decode cX6_make 22 = .ok (.getfield 25, 3) := by decide +kernel
theorem dX6_make_25 : decode cX6_make 25 = .ok (.iconst (-1), 1) := by decide +kernel
theorem dX6_make_26 : decode cX6_make 26 = .ok (.invokestatic 37, 3) := by decide +kernel
theorem dX6_make_29 : decode cX6_make 29 = .ok (.aload_n 0, 1) := by decide +kernel
theorem dX6_make_30 : decode cX6_make 30 = .ok (.invokevirtual 43, 3) := by decide +kernel
theorem dX6_make_33 : decode cX6_make 33 = .ok (.iconst 0, 1) := by decide +kernel
theorem dX6_make_34 : decode cX6_make 34 = .ok (.istore_n 1, 1) := by decide +kernel
theorem dX6_make_35 : decode cX6_make 35 = .ok (.iload_n 1, 1) := by decide +kernel
theorem dX6_make_36 : decode cX6_make 36 = .ok (.aload_n 0, 1) := by decide +kernel
theorem dX6_make_37 : decode cX6_make 37 = .ok (.getfield 9, 3) := by decide +kernel
theorem dX6_make_40 : decode cX6_make 40 = .ok (.getfield 46, 3) := by decide +kernel
theorem dX6_make_43 : decode cX6_make 43 = .ok (.if_icmp .ge 80, 3) := by decide +kernel
theorem dX6_make_46 : decode cX6_make 46 = .ok (.iload_n 1, 1) := by decide +kernel
theorem dX6_make_47 : decode cX6_make 47 = .ok (.iconst 3, 1) := by decide +kernel
theorem dX6_make_48 : decode cX6_make 48 = .ok (.if_icmp .ge 75, 3) := by decide +kernel
theorem dX6_make_51 : decode cX6_make 51 = .ok (.iconst 0, 1) := by decide +kernel
theorem dX6_make_52 : decode cX6_make 52 = .ok (.istore_n 2, 1) := by decide +kernel
theorem dX6_make_53 : decode cX6_make 53 = .ok (.iload_n 2, 1) := by decide +kernel
theorem dX6_make_54 : decode cX6_make 54 = .ok (.aload_n 0, 1) := by decide +kernel
theorem dX6_make_55 : decode cX6_make 55 = .ok (.getfield 9, 3) := by decide +kernel
theorem dX6_make_58 : decode cX6_make 58 = .ok (.getfield 51, 3) := by decide +kernel
theorem dX6_make_61 : decode cX6_make 61 = .ok (.if_icmp .ge 56, 3) := by decide +kernel
theorem dX6_make_64 : decode cX6_make 64 = .ok (.iload_n 2, 1) := by decide +kernel
theorem dX6_make_65 : decode cX6_make 65 = .ok (.bipush 6, 2) := by decide +kernel
theorem dX6_make_67 : decode cX6_make 67 = .ok (.if_icmp .ge 50, 3) := by decide +kernel
theorem dX6_make_70 : decode cX6_make 70 = .ok (.aload_n 0, 1) := by decide +kernel
theorem dX6_make_71 : decode cX6_make 71 = .ok (.getfield 30, 3) := by decide +kernel
theorem dX6_make_74 : decode cX6_make 74 = .ok (.iload_n 1, 1) := by decide +kernel
theorem dX6_make_75 : decode cX6_make 75 = .ok (.aaload, 1) := by decide +kernel
theorem dX6_make_76 : decode cX6_make 76 = .ok (.iload_n 2, 1) := by decide +kernel
theorem dX6_make_77 : decode cX6_make 77 = .ok (.aload_n 0, 1) := by decide +kernel
theorem dX6_make_78 : decode cX6_make 78 = .ok (.getfield 9, 3) := by decide +kernel
theorem dX6_make_81 : decode cX6_make 81 = .ok (.getfield 54, 3) := by decide +kernel
theorem dX6_make_84 : decode cX6_make 84 = .ok (.iload_n 2, 1) := by decide +kernel
theorem dX6_make_85 : decode cX6_make 85 = .ok (.aaload, 1) := by decide +kernel
theorem dX6_make_86 : decode cX6_make 86 = .ok (.aload_n 0, 1) := by decide +kernel
theorem dX6_make_87 : decode cX6_make 87 = .ok (.getfield 9, 3) := by decide +kernel
theorem dX6_make_90 : decode cX6_make 90 = .ok (.getfield 54, 3) := by decide +kernel
theorem dX6_make_93 : decode cX6_make 93 = .ok (.iload_n 2, 1) := by decide +kernel
theorem dX6_make_94 : decode cX6_make 94 = .ok (.aaload, 1) := by decide +kernel
theorem dX6_make_95 : decode cX6_make 95 = .ok (.getfield 58, 3) := by decide +kernel
theorem dX6_make_98 : decode cX6_make 98 = .ok (.aload_n 0, 1) := by decide +kernel
theorem dX6_make_99 : decode cX6_make 99 = .ok (.getfield 9, 3) := by decide +kernel
theorem dX6_make_102 : decode cX6_make 102 = .ok (.getfield 64, 3) := by decide +kernel
theorem dX6_make_105 : decode cX6_make 105 = .ok (.iload_n 1, 1) := by decide +kernel
theorem dX6_make_106 : decode cX6_make 106 = .ok (.iaload, 1) := by decide +kernel
theorem dX6_make_107 : decode cX6_make 107 = .ok (.invokevirtual 67, 3) := by decide +kernel
theorem dX6_make_110 : decode cX6_make 110 = .ok (.iastore, 1) := by decide +kernel
theorem dX6_make_111 : decode cX6_make 111 = .ok (.iinc 2 1, 3) := by decide +kernel
theorem dX6_make_114 : decode cX6_make 114 = .ok (.goto (-61), 3) := by decide +kernel
theorem dX6_make_117 : decode cX6_make 117 = .ok (.iinc 1 1, 3) := by decide +kernel
theorem dX6_make_120 : decode cX6_make 120 = .ok (.goto (-85), 3) := by decide +kernel
theorem dX6_make_123 : decode cX6_make 123 = .ok (.aload_n 0, 1) := by decide +kernel
theorem dX6_make_124 : decode cX6_make 124 = .ok (.iconst 0, 1) := by decide +kernel
theorem dX6_make_125 : decode cX6_make 125 = .ok (.iconst 0, 1) := by decide +kernel
theorem dX6_make_126 : decode cX6_make 126 = .ok (.invokevirtual 71, 3) := by decide +kernel
theorem dX6_make_129 : decode cX6_make 129 = .ok (.return_, 1) := by decide +kernel
theorem dX6_sortByDue_0 : decode cX6_sortByDue 0 = .ok (.iconst 0, 1) := by decide +kernel
theorem dX6_sortByDue_1 : decode cX6_sortByDue 1 = .ok (.istore_n 1, 1) := by decide +kernel
theorem dX6_sortByDue_2 : decode cX6_sortByDue 2 = .ok (.iload_n 1, 1) := by decide +kernel
theorem dX6_sortByDue_3 : decode cX6_sortByDue 3 = .ok (.aload_n 0, 1) := by decide +kernel
theorem dX6_sortByDue_4 : decode cX6_sortByDue 4 = .ok (.getfield 9, 3) := by decide +kernel
theorem dX6_sortByDue_7 : decode cX6_sortByDue 7 = .ok (.getfield 51, 3) := by decide +kernel
theorem dX6_sortByDue_10 : decode cX6_sortByDue 10 = .ok (.if_icmp .ge 68, 3) := by decide +kernel
theorem dX6_sortByDue_13 : decode cX6_sortByDue 13 = .ok (.iload_n 1, 1) := by decide +kernel
theorem dX6_sortByDue_14 : decode cX6_sortByDue 14 = .ok (.bipush 6, 2) := by decide +kernel
theorem dX6_sortByDue_16 : decode cX6_sortByDue 16 = .ok (.if_icmp .ge 62, 3) := by decide +kernel
theorem dX6_sortByDue_19 : decode cX6_sortByDue 19 = .ok (.iload_n 1, 1) := by decide +kernel
theorem dX6_sortByDue_20 : decode cX6_sortByDue 20 = .ok (.istore_n 2, 1) := by decide +kernel
theorem dX6_sortByDue_21 : decode cX6_sortByDue 21 = .ok (.iload_n 2, 1) := by decide +kernel
theorem dX6_sortByDue_22 : decode cX6_sortByDue 22 = .ok (.ifCond .le 43, 3) := by decide +kernel
theorem dX6_sortByDue_25 : decode cX6_sortByDue 25 = .ok (.aload_n 0, 1) := by decide +kernel
theorem dX6_sortByDue_26 : decode cX6_sortByDue 26 = .ok (.aload_n 0, 1) := by decide +kernel
theorem dX6_sortByDue_27 : decode cX6_sortByDue 27 = .ok (.getfield 15, 3) := by decide +kernel
theorem dX6_sortByDue_30 : decode cX6_sortByDue 30 = .ok (.iload_n 2, 1) := by decide +kernel
theorem dX6_sortByDue_31 : decode cX6_sortByDue 31 = .ok (.iconst 1, 1) := by decide +kernel
theorem dX6_sortByDue_32 : decode cX6_sortByDue 32 = .ok (.isub, 1) := by decide +kernel
theorem dX6_sortByDue_33 : decode cX6_sortByDue 33 = .ok (.iaload, 1) := by decide +kernel
theorem dX6_sortByDue_34 : decode cX6_sortByDue 34 = .ok (.invokevirtual 75, 3) := by decide +kernel
theorem dX6_sortByDue_37 : decode cX6_sortByDue 37 = .ok (.aload_n 0, 1) := by decide +kernel
theorem dX6_sortByDue_38 : decode cX6_sortByDue 38 = .ok (.iload_n 1, 1) := by decide +kernel
theorem dX6_sortByDue_39 : decode cX6_sortByDue 39 = .ok (.invokevirtual 75, 3) := by decide +kernel
theorem dX6_sortByDue_42 : decode cX6_sortByDue 42 = .ok (.if_icmp .le 23, 3) := by decide +kernel
theorem dX6_sortByDue_45 : decode cX6_sortByDue 45 = .ok (.aload_n 0, 1) := by decide +kernel
theorem dX6_sortByDue_46 : decode cX6_sortByDue 46 = .ok (.getfield 15, 3) := by decide +kernel
theorem dX6_sortByDue_49 : decode cX6_sortByDue 49 = .ok (.iload_n 2, 1) := by decide +kernel
theorem dX6_sortByDue_50 : decode cX6_sortByDue 50 = .ok (.aload_n 0, 1) := by decide +kernel
theorem dX6_sortByDue_51 : decode cX6_sortByDue 51 = .ok (.getfield 15, 3) := by decide +kernel
theorem dX6_sortByDue_54 : decode cX6_sortByDue 54 = .ok (.iload_n 2, 1) := by decide +kernel
theorem dX6_sortByDue_55 : decode cX6_sortByDue 55 = .ok (.iconst 1, 1) := by decide +kernel
theorem dX6_sortByDue_56 : decode cX6_sortByDue 56 = .ok (.isub, 1) := by decide +kernel
theorem dX6_sortByDue_57 : decode cX6_sortByDue 57 = .ok (.iaload, 1) := by decide +kernel
theorem dX6_sortByDue_58 : decode cX6_sortByDue 58 = .ok (.iastore, 1) := by decide +kernel
theorem dX6_sortByDue_59 : decode cX6_sortByDue 59 = .ok (.iinc 2 (-1), 3) := by decide +kernel
theorem dX6_sortByDue_62 : decode cX6_sortByDue 62 = .ok (.goto (-41), 3) := by decide +kernel
theorem dX6_sortByDue_65 : decode cX6_sortByDue 65 = .ok (.aload_n 0, 1) := by decide +kernel
theorem dX6_sortByDue_66 : decode cX6_sortByDue 66 = .ok (.getfield 15, 3) := by decide +kernel
theorem dX6_sortByDue_69 : decode cX6_sortByDue 69 = .ok (.iload_n 2, 1) := by decide +kernel
theorem dX6_sortByDue_70 : decode cX6_sortByDue 70 = .ok (.iload_n 1, 1) := by decide +kernel
theorem dX6_sortByDue_71 : decode cX6_sortByDue 71 = .ok (.iastore, 1) := by decide +kernel
theorem dX6_sortByDue_72 : decode cX6_sortByDue 72 = .ok (.iinc 1 1, 3) := by decide +kernel
theorem dX6_sortByDue_75 : decode cX6_sortByDue 75 = .ok (.goto (-73), 3) := by decide +kernel
theorem dX6_sortByDue_78 : decode cX6_sortByDue 78 = .ok (.return_, 1) := by decide +kernel
theorem dX6_dueOf_0 : decode cX6_dueOf 0 = .ok (.aload_n 0, 1) := by decide +kernel
theorem dX6_dueOf_1 : decode cX6_dueOf 1 = .ok (.getfield 9, 3) := by decide +kernel
theorem dX6_dueOf_4 : decode cX6_dueOf 4 = .ok (.iload_n 1, 1) := by decide +kernel
theorem dX6_dueOf_5 : decode cX6_dueOf 5 = .ok (.invokevirtual 79, 3) := by decide +kernel
theorem dX6_dueOf_8 : decode cX6_dueOf 8 = .ok (.astore_n 2, 1) := by decide +kernel
theorem dX6_dueOf_9 : decode cX6_dueOf 9 = .ok (.aload_n 2, 1) := by decide +kernel
theorem dX6_dueOf_10 : decode cX6_dueOf 10 = .ok (.ifnonnull 7, 3) := by decide +kernel
theorem dX6_dueOf_13 : decode cX6_dueOf 13 = .ok (.iconst (-1), 1) := by decide +kernel
theorem dX6_dueOf_14 : decode cX6_dueOf 14 = .ok (.goto 7, 3) := by decide +kernel
theorem dX6_dueOf_17 : decode cX6_dueOf 17 = .ok (.aload_n 2, 1) := by decide +kernel
theorem dX6_dueOf_18 : decode cX6_dueOf 18 = .ok (.getfield 83, 3) := by decide +kernel
theorem dX6_dueOf_21 : decode cX6_dueOf 21 = .ok (.ireturn, 1) := by decide +kernel
theorem dX6_hoursOf_0 : decode cX6_hoursOf 0 = .ok (.iload_n 1, 1) := by decide +kernel
theorem dX6_hoursOf_1 : decode cX6_hoursOf 1 = .ok (.ifCond .lt 18, 3) := by decide +kernel
theorem dX6_hoursOf_4 : decode cX6_hoursOf 4 = .ok (.iload_n 1, 1) := by decide +kernel
theorem dX6_hoursOf_5 : decode cX6_hoursOf 5 = .ok (.iconst 3, 1) := by decide +kernel
theorem dX6_hoursOf_6 : decode cX6_hoursOf 6 = .ok (.if_icmp .ge 13, 3) := by decide +kernel
theorem dX6_hoursOf_9 : decode cX6_hoursOf 9 = .ok (.iload_n 2, 1) := by decide +kernel
theorem dX6_hoursOf_10 : decode cX6_hoursOf 10 = .ok (.ifCond .lt 9, 3) := by decide +kernel
theorem dX6_hoursOf_13 : decode cX6_hoursOf 13 = .ok (.iload_n 2, 1) := by decide +kernel
theorem dX6_hoursOf_14 : decode cX6_hoursOf 14 = .ok (.bipush 6, 2) := by decide +kernel
theorem dX6_hoursOf_16 : decode cX6_hoursOf 16 = .ok (.if_icmp .lt 7, 3) := by decide +kernel
theorem dX6_hoursOf_19 : decode cX6_hoursOf 19 = .ok (.iconst (-1), 1) := by decide +kernel
theorem dX6_hoursOf_20 : decode cX6_hoursOf 20 = .ok (.goto 11, 3) := by decide +kernel
theorem dX6_hoursOf_23 : decode cX6_hoursOf 23 = .ok (.aload_n 0, 1) := by decide +kernel
theorem dX6_hoursOf_24 : decode cX6_hoursOf 24 = .ok (.getfield 30, 3) := by decide +kernel
theorem dX6_hoursOf_27 : decode cX6_hoursOf 27 = .ok (.iload_n 1, 1) := by decide +kernel
theorem dX6_hoursOf_28 : decode cX6_hoursOf 28 = .ok (.aaload, 1) := by decide +kernel
theorem dX6_hoursOf_29 : decode cX6_hoursOf 29 = .ok (.iload_n 2, 1) := by decide +kernel
theorem dX6_hoursOf_30 : decode cX6_hoursOf 30 = .ok (.iaload, 1) := by decide +kernel
theorem dX6_hoursOf_31 : decode cX6_hoursOf 31 = .ok (.ireturn, 1) := by decide +kernel
theorem dX6_isHers_0 : decode cX6_isHers 0 = .ok (.iload_n 1, 1) := by decide +kernel
theorem dX6_isHers_1 : decode cX6_isHers 1 = .ok (.ifCond .lt 26, 3) := by decide +kernel
theorem dX6_isHers_4 : decode cX6_isHers 4 = .ok (.iload_n 1, 1) := by decide +kernel
theorem dX6_isHers_5 : decode cX6_isHers 5 = .ok (.iconst 3, 1) := by decide +kernel
theorem dX6_isHers_6 : decode cX6_isHers 6 = .ok (.if_icmp .ge 21, 3) := by decide +kernel
theorem dX6_isHers_9 : decode cX6_isHers 9 = .ok (.aload_n 0, 1) := by decide +kernel
theorem dX6_isHers_10 : decode cX6_isHers 10 = .ok (.getfield 19, 3) := by decide +kernel
theorem dX6_isHers_13 : decode cX6_isHers 13 = .ok (.iload_n 1, 1) := by decide +kernel
theorem dX6_isHers_14 : decode cX6_isHers 14 = .ok (.iaload, 1) := by decide +kernel
theorem dX6_isHers_15 : decode cX6_isHers 15 = .ok (.iload_n 2, 1) := by decide +kernel
theorem dX6_isHers_16 : decode cX6_isHers 16 = .ok (.ishr, 1) := by decide +kernel
theorem dX6_isHers_17 : decode cX6_isHers 17 = .ok (.iconst 1, 1) := by decide +kernel
theorem dX6_isHers_18 : decode cX6_isHers 18 = .ok (.iand, 1) := by decide +kernel
theorem dX6_isHers_19 : decode cX6_isHers 19 = .ok (.iconst 1, 1) := by decide +kernel
theorem dX6_isHers_20 : decode cX6_isHers 20 = .ok (.if_icmp .ne 7, 3) := by decide +kernel
theorem dX6_isHers_23 : decode cX6_isHers 23 = .ok (.iconst 1, 1) := by decide +kernel
theorem dX6_isHers_24 : decode cX6_isHers 24 = .ok (.goto 4, 3) := by decide +kernel
theorem dX6_isHers_27 : decode cX6_isHers 27 = .ok (.iconst 0, 1) := by decide +kernel
theorem dX6_isHers_28 : decode cX6_isHers 28 = .ok (.ireturn, 1) := by decide +kernel
theorem dX6_share_0 : decode cX6_share 0 = .ok (.iload_n 1, 1) := by decide +kernel
theorem dX6_share_1 : decode cX6_share 1 = .ok (.ifCond .lt 20, 3) := by decide +kernel
theorem dX6_share_4 : decode cX6_share 4 = .ok (.iload_n 1, 1) := by decide +kernel
theorem dX6_share_5 : decode cX6_share 5 = .ok (.aload_n 0, 1) := by decide +kernel
theorem dX6_share_6 : decode cX6_share 6 = .ok (.getfield 9, 3) := by decide +kernel
theorem dX6_share_9 : decode cX6_share 9 = .ok (.getfield 51, 3) := by decide +kernel
theorem dX6_share_12 : decode cX6_share 12 = .ok (.if_icmp .ge 9, 3) := by decide +kernel
theorem dX6_share_15 : decode cX6_share 15 = .ok (.iload_n 1, 1) := by decide +kernel
theorem dX6_share_16 : decode cX6_share 16 = .ok (.bipush 6, 2) := by decide +kernel
theorem dX6_share_18 : decode cX6_share 18 = .ok (.if_icmp .lt 32, 3) := by decide +kernel
theorem dX6_share_21 : decode cX6_share 21 = .ok (.iload_n 2, 1) := by decide +kernel
theorem dX6_share_22 : decode cX6_share 22 = .ok (.aload_n 0, 1) := by decide +kernel
theorem dX6_share_23 : decode cX6_share 23 = .ok (.getfield 33, 3) := by decide +kernel
theorem dX6_share_26 : decode cX6_share 26 = .ok (.if_icmp .le 23, 3) := by decide +kernel
theorem dX6_share_29 : decode cX6_share 29 = .ok (.aload_n 0, 1) := by decide +kernel
theorem dX6_share_30 : decode cX6_share 30 = .ok (.iload_n 2, 1) := by decide +kernel
theorem dX6_share_31 : decode cX6_share 31 = .ok (.putfield 33, 3) := by decide +kernel
theorem dX6_share_34 : decode cX6_share 34 = .ok (.aload_n 0, 1) := by decide +kernel
theorem dX6_share_35 : decode cX6_share 35 = .ok (.getfield 22, 3) := by decide +kernel
theorem dX6_share_38 : decode cX6_share 38 = .ok (.iconst 0, 1) := by decide +kernel
theorem dX6_share_39 : decode cX6_share 39 = .ok (.aload_n 0, 1) := by decide +kernel
theorem dX6_share_40 : decode cX6_share 40 = .ok (.getfield 25, 3) := by decide +kernel
theorem dX6_share_43 : decode cX6_share 43 = .ok (.iconst 0, 1) := by decide +kernel
theorem dX6_share_44 : decode cX6_share 44 = .ok (.bipush 6, 2) := by decide +kernel
theorem dX6_share_46 : decode cX6_share 46 = .ok (.invokestatic 86, 3) := by decide +kernel
theorem dX6_share_49 : decode cX6_share 49 = .ok (.return_, 1) := by decide +kernel
theorem dX6_share_50 : decode cX6_share 50 = .ok (.iload_n 2, 1) := by decide +kernel
theorem dX6_share_51 : decode cX6_share 51 = .ok (.aload_n 0, 1) := by decide +kernel
theorem dX6_share_52 : decode cX6_share 52 = .ok (.getfield 9, 3) := by decide +kernel
theorem dX6_share_55 : decode cX6_share 55 = .ok (.getfield 51, 3) := by decide +kernel
theorem dX6_share_58 : decode cX6_share 58 = .ok (.iadd, 1) := by decide +kernel
theorem dX6_share_59 : decode cX6_share 59 = .ok (.iload_n 1, 1) := by decide +kernel
theorem dX6_share_60 : decode cX6_share 60 = .ok (.isub, 1) := by decide +kernel
theorem dX6_share_61 : decode cX6_share 61 = .ok (.aload_n 0, 1) := by decide +kernel
theorem dX6_share_62 : decode cX6_share 62 = .ok (.getfield 33, 3) := by decide +kernel
theorem dX6_share_65 : decode cX6_share 65 = .ok (.if_icmp .gt 4, 3) := by decide +kernel
theorem dX6_share_68 : decode cX6_share 68 = .ok (.return_, 1) := by decide +kernel
theorem dX6_share_69 : decode cX6_share 69 = .ok (.aload_n 0, 1) := by decide +kernel
theorem dX6_share_70 : decode cX6_share 70 = .ok (.getfield 9, 3) := by decide +kernel
theorem dX6_share_73 : decode cX6_share 73 = .ok (.getfield 54, 3) := by decide +kernel
theorem dX6_share_76 : decode cX6_share 76 = .ok (.iload_n 1, 1) := by decide +kernel
theorem dX6_share_77 : decode cX6_share 77 = .ok (.aaload, 1) := by decide +kernel
theorem dX6_share_78 : decode cX6_share 78 = .ok (.getfield 92, 3) := by decide +kernel
theorem dX6_share_81 : decode cX6_share 81 = .ok (.ifCond .ne 7, 3) := by decide +kernel
theorem dX6_share_84 : decode cX6_share 84 = .ok (.iconst 1, 1) := by decide +kernel
theorem dX6_share_85 : decode cX6_share 85 = .ok (.goto 4, 3) := by decide +kernel
theorem dX6_share_88 : decode cX6_share 88 = .ok (.iconst 0, 1) := by decide +kernel
theorem dX6_share_89 : decode cX6_share 89 = .ok (.istore_n 3, 1) := by decide +kernel
theorem dX6_share_90 : decode cX6_share 90 = .ok (.iconst 0, 1) := by decide +kernel
theorem dX6_share_91 : decode cX6_share 91 = .ok (.istore 4, 2) := by decide +kernel
theorem dX6_share_93 : decode cX6_share 93 = .ok (.iload_n 3, 1) := by decide +kernel
theorem dX6_share_94 : decode cX6_share 94 = .ok (.ifCond .eq 82, 3) := by decide +kernel
theorem dX6_share_97 : decode cX6_share 97 = .ok (.iload 4, 2) := by decide +kernel
theorem dX6_share_99 : decode cX6_share 99 = .ok (.aload_n 0, 1) := by decide +kernel
theorem dX6_share_100 : decode cX6_share 100 = .ok (.getfield 9, 3) := by decide +kernel
theorem dX6_share_103 : decode cX6_share 103 = .ok (.getfield 46, 3) := by decide +kernel
theorem dX6_share_106 : decode cX6_share 106 = .ok (.if_icmp .ge 70, 3) := by decide +kernel
theorem dX6_share_109 : decode cX6_share 109 = .ok (.iload 4, 2) := by decide +kernel
theorem dX6_share_111 : decode cX6_share 111 = .ok (.iconst 3, 1) := by decide +kernel
theorem dX6_share_112 : decode cX6_share 112 = .ok (.if_icmp .ge 64, 3) := by decide +kernel
theorem dX6_share_115 : decode cX6_share 115 = .ok (.aload_n 0, 1) := by decide +kernel
theorem dX6_share_116 : decode cX6_share 116 = .ok (.getfield 19, 3) := by decide +kernel
theorem dX6_share_119 : decode cX6_share 119 = .ok (.iload 4, 2) := by decide +kernel
theorem dX6_share_121 : decode cX6_share 121 = .ok (.dup2, 1) := by decide +kernel
theorem dX6_share_122 : decode cX6_share 122 = .ok (.iaload, 1) := by decide +kernel
theorem dX6_share_123 : decode cX6_share 123 = .ok (.iconst 1, 1) := by decide +kernel
theorem dX6_share_124 : decode cX6_share 124 = .ok (.iload_n 1, 1) := by decide +kernel
theorem dX6_share_125 : decode cX6_share 125 = .ok (.ishl, 1) := by decide +kernel
theorem dX6_share_126 : decode cX6_share 126 = .ok (.ior, 1) := by decide +kernel
theorem dX6_share_127 : decode cX6_share 127 = .ok (.iastore, 1) := by decide +kernel
theorem dX6_share_128 : decode cX6_share 128 = .ok (.aload_n 0, 1) := by decide +kernel
theorem dX6_share_129 : decode cX6_share 129 = .ok (.iload 4, 2) := by decide +kernel
theorem dX6_share_131 : decode cX6_share 131 = .ok (.invokevirtual 95, 3) := by decide +kernel
theorem dX6_share_134 : decode cX6_share 134 = .ok (.ifCond .eq 21, 3) := by decide +kernel
theorem dX6_share_137 : decode cX6_share 137 = .ok (.aload_n 0, 1) := by decide +kernel
theorem dX6_share_138 : decode cX6_share 138 = .ok (.getfield 22, 3) := by decide +kernel
theorem dX6_share_141 : decode cX6_share 141 = .ok (.iload_n 1, 1) := by decide +kernel
theorem dX6_share_142 : decode cX6_share 142 = .ok (.iload 4, 2) := by decide +kernel
theorem dX6_share_144 : decode cX6_share 144 = .ok (.iastore, 1) := by decide +kernel
theorem dX6_share_145 : decode cX6_share 145 = .ok (.aload_n 0, 1) := by decide +kernel
theorem dX6_share_146 : decode cX6_share 146 = .ok (.iload_n 1, 1) := by decide +kernel
theorem dX6_share_147 : decode cX6_share 147 = .ok (.iconst 1, 1) := by decide +kernel
theorem dX6_share_148 : decode cX6_share 148 = .ok (.iadd, 1) := by decide +kernel
theorem dX6_share_149 : decode cX6_share 149 = .ok (.iload_n 2, 1) := by decide +kernel
theorem dX6_share_150 : decode cX6_share 150 = .ok (.iconst 1, 1) := by decide +kernel
theorem dX6_share_151 : decode cX6_share 151 = .ok (.iadd, 1) := by decide +kernel
theorem dX6_share_152 : decode cX6_share 152 = .ok (.invokevirtual 71, 3) := by decide +kernel
theorem dX6_share_155 : decode cX6_share 155 = .ok (.aload_n 0, 1) := by decide +kernel
theorem dX6_share_156 : decode cX6_share 156 = .ok (.getfield 19, 3) := by decide +kernel
theorem dX6_share_159 : decode cX6_share 159 = .ok (.iload 4, 2) := by decide +kernel
theorem dX6_share_161 : decode cX6_share 161 = .ok (.dup2, 1) := by decide +kernel
theorem dX6_share_162 : decode cX6_share 162 = .ok (.iaload, 1) := by decide +kernel
theorem dX6_share_163 : decode cX6_share 163 = .ok (.iconst 1, 1) := by decide +kernel
theorem dX6_share_164 : decode cX6_share 164 = .ok (.iload_n 1, 1) := by decide +kernel
theorem dX6_share_165 : decode cX6_share 165 = .ok (.ishl, 1) := by decide +kernel
theorem dX6_share_166 : decode cX6_share 166 = .ok (.iconst (-1), 1) := by decide +kernel
theorem dX6_share_167 : decode cX6_share 167 = .ok (.ixor, 1) := by decide +kernel
theorem dX6_share_168 : decode cX6_share 168 = .ok (.iand, 1) := by decide +kernel
theorem dX6_share_169 : decode cX6_share 169 = .ok (.iastore, 1) := by decide +kernel
theorem dX6_share_170 : decode cX6_share 170 = .ok (.iinc 4 1, 3) := by decide +kernel
theorem dX6_share_173 : decode cX6_share 173 = .ok (.goto (-80), 3) := by decide +kernel
theorem dX6_share_176 : decode cX6_share 176 = .ok (.aload_n 0, 1) := by decide +kernel
theorem dX6_share_177 : decode cX6_share 177 = .ok (.getfield 22, 3) := by decide +kernel
theorem dX6_share_180 : decode cX6_share 180 = .ok (.iload_n 1, 1) := by decide +kernel
theorem dX6_share_181 : decode cX6_share 181 = .ok (.iconst (-1), 1) := by decide +kernel
theorem dX6_share_182 : decode cX6_share 182 = .ok (.iastore, 1) := by decide +kernel
theorem dX6_share_183 : decode cX6_share 183 = .ok (.aload_n 0, 1) := by decide +kernel
theorem dX6_share_184 : decode cX6_share 184 = .ok (.iload_n 1, 1) := by decide +kernel
theorem dX6_share_185 : decode cX6_share 185 = .ok (.iconst 1, 1) := by decide +kernel
theorem dX6_share_186 : decode cX6_share 186 = .ok (.iadd, 1) := by decide +kernel
theorem dX6_share_187 : decode cX6_share 187 = .ok (.iload_n 2, 1) := by decide +kernel
theorem dX6_share_188 : decode cX6_share 188 = .ok (.invokevirtual 71, 3) := by decide +kernel
theorem dX6_share_191 : decode cX6_share 191 = .ok (.return_, 1) := by decide +kernel
theorem dX6_isInTime_0 : decode cX6_isInTime 0 = .ok (.aload_n 0, 1) := by decide +kernel
theorem dX6_isInTime_1 : decode cX6_isInTime 1 = .ok (.getfield 9, 3) := by decide +kernel
theorem dX6_isInTime_4 : decode cX6_isInTime 4 = .ok (.getfield 99, 3) := by decide +kernel
theorem dX6_isInTime_7 : decode cX6_isInTime 7 = .ok (.istore_n 2, 1) := by decide +kernel
theorem dX6_isInTime_8 : decode cX6_isInTime 8 = .ok (.iconst 0, 1) := by decide +kernel
theorem dX6_isInTime_9 : decode cX6_isInTime 9 = .ok (.istore_n 3, 1) := by decide +kernel
theorem dX6_isInTime_10 : decode cX6_isInTime 10 = .ok (.iload_n 3, 1) := by decide +kernel
theorem dX6_isInTime_11 : decode cX6_isInTime 11 = .ok (.aload_n 0, 1) := by decide +kernel
theorem dX6_isInTime_12 : decode cX6_isInTime 12 = .ok (.getfield 9, 3) := by decide +kernel
theorem dX6_isInTime_15 : decode cX6_isInTime 15 = .ok (.getfield 51, 3) := by decide +kernel
theorem dX6_isInTime_18 : decode cX6_isInTime 18 = .ok (.if_icmp .ge 65, 3) := by decide +kernel
theorem dX6_isInTime_21 : decode cX6_isInTime 21 = .ok (.iload_n 3, 1) := by decide +kernel
theorem dX6_isInTime_22 : decode cX6_isInTime 22 = .ok (.bipush 6, 2) := by decide +kernel
theorem dX6_isInTime_24 : decode cX6_isInTime 24 = .ok (.if_icmp .ge 59, 3) := by decide +kernel
theorem dX6_isInTime_27 : decode cX6_isInTime 27 = .ok (.aload_n 0, 1) := by decide +kernel
theorem dX6_isInTime_28 : decode cX6_isInTime 28 = .ok (.getfield 15, 3) := by decide +kernel
theorem dX6_isInTime_31 : decode cX6_isInTime 31 = .ok (.iload_n 3, 1) := by decide +kernel
theorem dX6_isInTime_32 : decode cX6_isInTime 32 = .ok (.iaload, 1) := by decide +kernel
theorem dX6_isInTime_33 : decode cX6_isInTime 33 = .ok (.istore 4, 2) := by decide +kernel
theorem dX6_isInTime_35 : decode cX6_isInTime 35 = .ok (.aload_n 0, 1) := by decide +kernel
theorem dX6_isInTime_36 : decode cX6_isInTime 36 = .ok (.iload_n 1, 1) := by decide +kernel
theorem dX6_isInTime_37 : decode cX6_isInTime 37 = .ok (.iload 4, 2) := by decide +kernel
theorem dX6_isInTime_39 : decode cX6_isInTime 39 = .ok (.invokevirtual 102, 3) := by decide +kernel
theorem dX6_isInTime_42 : decode cX6_isInTime 42 = .ok (.ifCond .eq 35, 3) := by decide +kernel
theorem dX6_isInTime_45 : decode cX6_isInTime 45 = .ok (.aload_n 0, 1) := by decide +kernel
theorem dX6_isInTime_46 : decode cX6_isInTime 46 = .ok (.iload_n 1, 1) := by decide +kernel
theorem dX6_isInTime_47 : decode cX6_isInTime 47 = .ok (.iload 4, 2) := by decide +kernel
theorem dX6_isInTime_49 : decode cX6_isInTime 49 = .ok (.invokevirtual 106, 3) := by decide +kernel
theorem dX6_isInTime_52 : decode cX6_isInTime 52 = .ok (.istore 5, 2) := by decide +kernel
theorem dX6_isInTime_54 : decode cX6_isInTime 54 = .ok (.iload_n 2, 1) := by decide +kernel
theorem dX6_isInTime_55 : decode cX6_isInTime 55 = .ok (.iload 5, 2) := by decide +kernel
theorem dX6_isInTime_57 : decode cX6_isInTime 57 = .ok (.iadd, 1) := by decide +kernel
theorem dX6_isInTime_58 : decode cX6_isInTime 58 = .ok (.istore_n 2, 1) := by decide +kernel
theorem dX6_isInTime_59 : decode cX6_isInTime 59 = .ok (.iload 5, 2) := by decide +kernel
theorem dX6_isInTime_61 : decode cX6_isInTime 61 = .ok (.iconst (-1), 1) := by decide +kernel
theorem dX6_isInTime_62 : decode cX6_isInTime 62 = .ok (.if_icmp .eq 13, 3) := by decide +kernel
theorem dX6_isInTime_65 : decode cX6_isInTime 65 = .ok (.iload_n 2, 1) := by decide +kernel
theorem dX6_isInTime_66 : decode cX6_isInTime 66 = .ok (.aload_n 0, 1) := by decide +kernel
theorem dX6_isInTime_67 : decode cX6_isInTime 67 = .ok (.iload 4, 2) := by decide +kernel
theorem dX6_isInTime_69 : decode cX6_isInTime 69 = .ok (.invokevirtual 75, 3) := by decide +kernel
theorem dX6_isInTime_72 : decode cX6_isInTime 72 = .ok (.if_icmp .le 5, 3) := by decide +kernel
theorem dX6_isInTime_75 : decode cX6_isInTime 75 = .ok (.iconst 0, 1) := by decide +kernel
theorem dX6_isInTime_76 : decode cX6_isInTime 76 = .ok (.ireturn, 1) := by decide +kernel
theorem dX6_isInTime_77 : decode cX6_isInTime 77 = .ok (.iinc 3 1, 3) := by decide +kernel
theorem dX6_isInTime_80 : decode cX6_isInTime 80 = .ok (.goto (-70), 3) := by decide +kernel
theorem dX6_isInTime_83 : decode cX6_isInTime 83 = .ok (.iconst 1, 1) := by decide +kernel
theorem dX6_isInTime_84 : decode cX6_isInTime 84 = .ok (.ireturn, 1) := by decide +kernel
theorem dX7_init_0 : decode cX7_init 0 = .ok (.aload_n 0, 1) := by decide +kernel
theorem dX7_init_1 : decode cX7_init 1 = .ok (.invokespecial 3, 3) := by decide +kernel
theorem dX7_init_4 : decode cX7_init 4 = .ok (.aload_n 0, 1) := by decide +kernel
theorem dX7_init_5 : decode cX7_init 5 = .ok (.aload_n 1, 1) := by decide +kernel
theorem dX7_init_6 : decode cX7_init 6 = .ok (.putfield 9, 3) := by decide +kernel
theorem dX7_init_9 : decode cX7_init 9 = .ok (.aload_n 0, 1) := by decide +kernel
theorem dX7_init_10 : decode cX7_init 10 = .ok (.aload_n 2, 1) := by decide +kernel
theorem dX7_init_11 : decode cX7_init 11 = .ok (.putfield 15, 3) := by decide +kernel
theorem dX7_init_14 : decode cX7_init 14 = .ok (.aload_n 0, 1) := by decide +kernel
theorem dX7_init_15 : decode cX7_init 15 = .ok (.aload_n 3, 1) := by decide +kernel
theorem dX7_init_16 : decode cX7_init 16 = .ok (.putfield 19, 3) := by decide +kernel
theorem dX7_init_19 : decode cX7_init 19 = .ok (.return_, 1) := by decide +kernel
theorem dX7_read_0 : decode cX7_read 0 = .ok (.aload_n 0, 1) := by decide +kernel
theorem dX7_read_1 : decode cX7_read 1 = .ok (.getfield 15, 3) := by decide +kernel
theorem dX7_read_4 : decode cX7_read 4 = .ok (.aload_n 1, 1) := by decide +kernel
theorem dX7_read_5 : decode cX7_read 5 = .ok (.invokevirtual 23, 3) := by decide +kernel
theorem dX7_read_8 : decode cX7_read 8 = .ok (.aload_n 0, 1) := by decide +kernel
theorem dX7_read_9 : decode cX7_read 9 = .ok (.iconst 0, 1) := by decide +kernel
theorem dX7_read_10 : decode cX7_read 10 = .ok (.putfield 29, 3) := by decide +kernel
theorem dX7_read_13 : decode cX7_read 13 = .ok (.aload_n 0, 1) := by decide +kernel
theorem dX7_read_14 : decode cX7_read 14 = .ok (.invokevirtual 33, 3) := by decide +kernel
theorem dX7_read_17 : decode cX7_read 17 = .ok (.aload_n 0, 1) := by decide +kernel
theorem dX7_read_18 : decode cX7_read 18 = .ok (.iconst 1, 1) := by decide +kernel
theorem dX7_read_19 : decode cX7_read 19 = .ok (.putfield 36, 3) := by decide +kernel
theorem dX7_read_22 : decode cX7_read 22 = .ok (.aload_n 0, 1) := by decide +kernel
theorem dX7_read_23 : decode cX7_read 23 = .ok (.getfield 36, 3) := by decide +kernel
theorem dX7_read_26 : decode cX7_read 26 = .ok (.bipush 20, 2) := by decide +kernel
theorem dX7_read_28 : decode cX7_read 28 = .ok (.if_icmp .gt 78, 3) := by decide +kernel
theorem dX7_read_31 : decode cX7_read 31 = .ok (.aload_n 0, 1) := by decide +kernel
theorem dX7_read_32 : decode cX7_read 32 = .ok (.invokevirtual 39, 3) := by decide +kernel
theorem dX7_read_35 : decode cX7_read 35 = .ok (.ifCond .ne 8, 3) := by decide +kernel
theorem dX7_read_38 : decode cX7_read 38 = .ok (.aload_n 0, 1) := by decide +kernel
theorem dX7_read_39 : decode cX7_read 39 = .ok (.getfield 43, 3) := by decide +kernel
theorem dX7_read_42 : decode cX7_read 42 = .ok (.ireturn, 1) := by decide +kernel
theorem dX7_read_43 : decode cX7_read 43 = .ok (.aload_n 0, 1) := by decide +kernel
theorem dX7_read_44 : decode cX7_read 44 = .ok (.getfield 43, 3) := by decide +kernel
theorem dX7_read_47 : decode cX7_read 47 = .ok (.aload_n 0, 1) := by decide +kernel
theorem dX7_read_48 : decode cX7_read 48 = .ok (.getfield 9, 3) := by decide +kernel
theorem dX7_read_51 : decode cX7_read 51 = .ok (.getfield 46, 3) := by decide +kernel
theorem dX7_read_54 : decode cX7_read 54 = .ok (.if_icmp .lt 5, 3) := by decide +kernel
theorem dX7_read_57 : decode cX7_read 57 = .ok (.iconst (-1), 1) := by decide +kernel
theorem dX7_read_58 : decode cX7_read 58 = .ok (.ireturn, 1) := by decide +kernel
theorem dX7_read_59 : decode cX7_read 59 = .ok (.aload_n 0, 1) := by decide +kernel
theorem dX7_read_60 : decode cX7_read 60 = .ok (.getfield 9, 3) := by decide +kernel
theorem dX7_read_63 : decode cX7_read 63 = .ok (.aload_n 0, 1) := by decide +kernel
theorem dX7_read_64 : decode cX7_read 64 = .ok (.getfield 43, 3) := by decide +kernel
theorem dX7_read_67 : decode cX7_read 67 = .ok (.invokevirtual 51, 3) := by decide +kernel
theorem dX7_read_70 : decode cX7_read 70 = .ok (.bipush 59, 2) := by decide +kernel
theorem dX7_read_72 : decode cX7_read 72 = .ok (.if_icmp .ne 12, 3) := by decide +kernel
theorem dX7_read_75 : decode cX7_read 75 = .ok (.aload_n 0, 1) := by decide +kernel
theorem dX7_read_76 : decode cX7_read 76 = .ok (.getfield 36, 3) := by decide +kernel
theorem dX7_read_79 : decode cX7_read 79 = .ok (.bipush 20, 2) := by decide +kernel
theorem dX7_read_81 : decode cX7_read 81 = .ok (.if_icmp .ne 8, 3) := by decide +kernel
theorem dX7_read_84 : decode cX7_read 84 = .ok (.aload_n 0, 1) := by decide +kernel
theorem dX7_read_85 : decode cX7_read 85 = .ok (.getfield 43, 3) := by decide +kernel
theorem dX7_read_88 : decode cX7_read 88 = .ok (.ireturn, 1) := by decide +kernel
theorem dX7_read_89 : decode cX7_read 89 = .ok (.aload_n 0, 1) := by decide +kernel
theorem dX7_read_90 : decode cX7_read 90 = .ok (.invokevirtual 33, 3) := by decide +kernel
theorem dX7_read_93 : decode cX7_read 93 = .ok (.aload_n 0, 1) := by decide +kernel
theorem dX7_read_94 : decode cX7_read 94 = .ok (.dup, 1) := by decide +kernel
theorem dX7_read_95 : decode cX7_read 95 = .ok (.getfield 36, 3) := by decide +kernel
theorem dX7_read_98 : decode cX7_read 98 = .ok (.iconst 1, 1) := by decide +kernel
theorem dX7_read_99 : decode cX7_read 99 = .ok (.iadd, 1) := by decide +kernel
theorem dX7_read_100 : decode cX7_read 100 = .ok (.putfield 36, 3) := by decide +kernel
theorem dX7_read_103 : decode cX7_read 103 = .ok (.goto (-81), 3) := by decide +kernel
theorem dX7_read_106 : decode cX7_read 106 = .ok (.aload_n 0, 1) := by decide +kernel
theorem dX7_read_107 : decode cX7_read 107 = .ok (.getfield 43, 3) := by decide +kernel
theorem dX7_read_110 : decode cX7_read 110 = .ok (.ireturn, 1) := by decide +kernel
theorem dX7_step_0 : decode cX7_step 0 = .ok (.aload_n 0, 1) := by decide +kernel
theorem dX7_step_1 : decode cX7_step 1 = .ok (.aload_n 0, 1) := by decide +kernel
theorem dX7_step_2 : decode cX7_step 2 = .ok (.getfield 29, 3) := by decide +kernel
theorem dX7_step_5 : decode cX7_step 5 = .ok (.putfield 43, 3) := by decide +kernel
theorem dX7_step_8 : decode cX7_step 8 = .ok (.aload_n 0, 1) := by decide +kernel
theorem dX7_step_9 : decode cX7_step 9 = .ok (.getfield 43, 3) := by decide +kernel
theorem dX7_step_12 : decode cX7_step 12 = .ok (.aload_n 0, 1) := by decide +kernel
theorem dX7_step_13 : decode cX7_step 13 = .ok (.getfield 9, 3) := by decide +kernel
theorem dX7_step_16 : decode cX7_step 16 = .ok (.getfield 46, 3) := by decide +kernel
theorem dX7_step_19 : decode cX7_step 19 = .ok (.if_icmp .ge 32, 3) := by decide +kernel
theorem dX7_step_22 : decode cX7_step 22 = .ok (.aload_n 0, 1) := by decide +kernel
theorem dX7_step_23 : decode cX7_step 23 = .ok (.getfield 9, 3) := by decide +kernel
theorem dX7_step_26 : decode cX7_step 26 = .ok (.aload_n 0, 1) := by decide +kernel
theorem dX7_step_27 : decode cX7_step 27 = .ok (.getfield 43, 3) := by decide +kernel
theorem dX7_step_30 : decode cX7_step 30 = .ok (.invokevirtual 51, 3) := by decide +kernel
theorem dX7_step_33 : decode cX7_step 33 = .ok (.bipush 32, 2) := by decide +kernel
theorem dX7_step_35 : decode cX7_step 35 = .ok (.if_icmp .ne 16, 3) := by decide +kernel
theorem dX7_step_38 : decode cX7_step 38 = .ok (.aload_n 0, 1) := by decide +kernel
theorem dX7_step_39 : decode cX7_step 39 = .ok (.dup, 1) := by decide +kernel
theorem dX7_step_40 : decode cX7_step 40 = .ok (.getfield 43, 3) := by decide +kernel
theorem dX7_step_43 : decode cX7_step 43 = .ok (.iconst 1, 1) := by decide +kernel
theorem dX7_step_44 : decode cX7_step 44 = .ok (.iadd, 1) := by decide +kernel
theorem dX7_step_45 : decode cX7_step 45 = .ok (.putfield 43, 3) := by decide +kernel
theorem dX7_step_48 : decode cX7_step 48 = .ok (.goto (-40), 3) := by decide +kernel
theorem dX7_step_51 : decode cX7_step 51 = .ok (.aload_n 0, 1) := by decide +kernel
theorem dX7_step_52 : decode cX7_step 52 = .ok (.aload_n 0, 1) := by decide +kernel
theorem dX7_step_53 : decode cX7_step 53 = .ok (.getfield 43, 3) := by decide +kernel
theorem dX7_step_56 : decode cX7_step 56 = .ok (.putfield 29, 3) := by decide +kernel
theorem dX7_step_59 : decode cX7_step 59 = .ok (.aload_n 0, 1) := by decide +kernel
theorem dX7_step_60 : decode cX7_step 60 = .ok (.getfield 43, 3) := by decide +kernel
theorem dX7_step_63 : decode cX7_step 63 = .ok (.aload_n 0, 1) := by decide +kernel
theorem dX7_step_64 : decode cX7_step 64 = .ok (.getfield 9, 3) := by decide +kernel
theorem dX7_step_67 : decode cX7_step 67 = .ok (.getfield 46, 3) := by decide +kernel
theorem dX7_step_70 : decode cX7_step 70 = .ok (.if_icmp .lt 4, 3) := by decide +kernel
theorem dX7_step_73 : decode cX7_step 73 = .ok (.return_, 1) := by decide +kernel
theorem dX7_step_74 : decode cX7_step 74 = .ok (.aload_n 0, 1) := by decide +kernel
theorem dX7_step_75 : decode cX7_step 75 = .ok (.getfield 9, 3) := by decide +kernel
theorem dX7_step_78 : decode cX7_step 78 = .ok (.aload_n 0, 1) := by decide +kernel
theorem dX7_step_79 : decode cX7_step 79 = .ok (.getfield 43, 3) := by decide +kernel
theorem dX7_step_82 : decode cX7_step 82 = .ok (.invokevirtual 51, 3) := by decide +kernel
theorem dX7_step_85 : decode cX7_step 85 = .ok (.invokestatic 55, 3) := by decide +kernel
theorem dX7_step_88 : decode cX7_step 88 = .ok (.istore_n 1, 1) := by decide +kernel
theorem dX7_step_89 : decode cX7_step 89 = .ok (.aload_n 0, 1) := by decide +kernel
theorem dX7_step_90 : decode cX7_step 90 = .ok (.dup, 1) := by decide +kernel
theorem dX7_step_91 : decode cX7_step 91 = .ok (.getfield 29, 3) := by decide +kernel
theorem dX7_step_94 : decode cX7_step 94 = .ok (.iconst 1, 1) := by decide +kernel
theorem dX7_step_95 : decode cX7_step 95 = .ok (.iadd, 1) := by decide +kernel
theorem dX7_step_96 : decode cX7_step 96 = .ok (.putfield 29, 3) := by decide +kernel
theorem dX7_step_99 : decode cX7_step 99 = .ok (.aload_n 0, 1) := by decide +kernel
theorem dX7_step_100 : decode cX7_step 100 = .ok (.getfield 29, 3) := by decide +kernel
theorem dX7_step_103 : decode cX7_step 103 = .ok (.aload_n 0, 1) := by decide +kernel
theorem dX7_step_104 : decode cX7_step 104 = .ok (.getfield 9, 3) := by decide +kernel
theorem dX7_step_107 : decode cX7_step 107 = .ok (.getfield 46, 3) := by decide +kernel
theorem dX7_step_110 : decode cX7_step 110 = .ok (.if_icmp .ge 39, 3) := by decide +kernel
theorem dX7_step_113 : decode cX7_step 113 = .ok (.iload_n 1, 1) := by decide +kernel
theorem dX7_step_114 : decode cX7_step 114 = .ok (.iconst 3, 1) := by decide +kernel
theorem dX7_step_115 : decode cX7_step 115 = .ok (.if_icmp .eq 34, 3) := by decide +kernel
theorem dX7_step_118 : decode cX7_step 118 = .ok (.aload_n 0, 1) := by decide +kernel
theorem dX7_step_119 : decode cX7_step 119 = .ok (.getfield 9, 3) := by decide +kernel
theorem dX7_step_122 : decode cX7_step 122 = .ok (.aload_n 0, 1) := by decide +kernel
theorem dX7_step_123 : decode cX7_step 123 = .ok (.getfield 29, 3) := by decide +kernel
theorem dX7_step_126 : decode cX7_step 126 = .ok (.invokevirtual 51, 3) := by decide +kernel
theorem dX7_step_129 : decode cX7_step 129 = .ok (.invokestatic 55, 3) := by decide +kernel
theorem dX7_step_132 : decode cX7_step 132 = .ok (.iload_n 1, 1) := by decide +kernel
theorem dX7_step_133 : decode cX7_step 133 = .ok (.if_icmp .ne 16, 3) := by decide +kernel
theorem dX7_step_136 : decode cX7_step 136 = .ok (.aload_n 0, 1) := by decide +kernel
theorem dX7_step_137 : decode cX7_step 137 = .ok (.dup, 1) := by decide +kernel
theorem dX7_step_138 : decode cX7_step 138 = .ok (.getfield 29, 3) := by decide +kernel
theorem dX7_step_141 : decode cX7_step 141 = .ok (.iconst 1, 1) := by decide +kernel
theorem dX7_step_142 : decode cX7_step 142 = .ok (.iadd, 1) := by decide +kernel
theorem dX7_step_143 : decode cX7_step 143 = .ok (.putfield 29, 3) := by decide +kernel
theorem dX7_step_146 : decode cX7_step 146 = .ok (.goto (-47), 3) := by decide +kernel
theorem dX7_step_149 : decode cX7_step 149 = .ok (.return_, 1) := by decide +kernel
theorem dX7_sortOf_0 : decode cX7_sortOf 0 = .ok (.iload_n 0, 1) := by decide +kernel
theorem dX7_sortOf_1 : decode cX7_sortOf 1 = .ok (.bipush 97, 2) := by decide +kernel
theorem dX7_sortOf_3 : decode cX7_sortOf 3 = .ok (.if_icmp .lt 11, 3) := by decide +kernel
theorem dX7_sortOf_6 : decode cX7_sortOf 6 = .ok (.iload_n 0, 1) := by decide +kernel
theorem dX7_sortOf_7 : decode cX7_sortOf 7 = .ok (.bipush 122, 2) := by decide +kernel
theorem dX7_sortOf_9 : decode cX7_sortOf 9 = .ok (.if_icmp .gt 5, 3) := by decide +kernel
theorem dX7_sortOf_12 : decode cX7_sortOf 12 = .ok (.iconst 1, 1) := by decide +kernel
theorem dX7_sortOf_13 : decode cX7_sortOf 13 = .ok (.ireturn, 1) := by decide +kernel
theorem dX7_sortOf_14 : decode cX7_sortOf 14 = .ok (.iload_n 0, 1) := by decide +kernel
theorem dX7_sortOf_15 : decode cX7_sortOf 15 = .ok (.bipush 48, 2) := by decide +kernel
theorem dX7_sortOf_17 : decode cX7_sortOf 17 = .ok (.if_icmp .lt 13, 3) := by decide +kernel
theorem dX7_sortOf_20 : decode cX7_sortOf 20 = .ok (.iload_n 0, 1) := by decide +kernel
theorem dX7_sortOf_21 : decode cX7_sortOf 21 = .ok (.bipush 57, 2) := by decide +kernel
theorem dX7_sortOf_23 : decode cX7_sortOf 23 = .ok (.if_icmp .gt 7, 3) := by decide +kernel
theorem dX7_sortOf_26 : decode cX7_sortOf 26 = .ok (.iconst 2, 1) := by decide +kernel
theorem dX7_sortOf_27 : decode cX7_sortOf 27 = .ok (.goto 4, 3) := by decide +kernel
theorem dX7_sortOf_30 : decode cX7_sortOf 30 = .ok (.iconst 3, 1) := by decide +kernel
theorem dX7_sortOf_31 : decode cX7_sortOf 31 = .ok (.ireturn, 1) := by decide +kernel
theorem dX7_isWord_0 : decode cX7_isWord 0 = .ok (.aload_n 0, 1) := by decide +kernel
theorem dX7_isWord_1 : decode cX7_isWord 1 = .ok (.getfield 29, 3) := by decide +kernel
theorem dX7_isWord_4 : decode cX7_isWord 4 = .ok (.aload_n 0, 1) := by decide +kernel
theorem dX7_isWord_5 : decode cX7_isWord 5 = .ok (.getfield 43, 3) := by decide +kernel
theorem dX7_isWord_8 : decode cX7_isWord 8 = .ok (.isub, 1) := by decide +kernel
theorem dX7_isWord_9 : decode cX7_isWord 9 = .ok (.aload_n 1, 1) := by decide +kernel
theorem dX7_isWord_10 : decode cX7_isWord 10 = .ok (.invokevirtual 59, 3) := by decide +kernel
theorem dX7_isWord_13 : decode cX7_isWord 13 = .ok (.if_icmp .eq 5, 3) := by decide +kernel
theorem dX7_isWord_16 : decode cX7_isWord 16 = .ok (.iconst 0, 1) := by decide +kernel
theorem dX7_isWord_17 : decode cX7_isWord 17 = .ok (.ireturn, 1) := by decide +kernel
theorem dX7_isWord_18 : decode cX7_isWord 18 = .ok (.iconst 0, 1) := by decide +kernel
theorem dX7_isWord_19 : decode cX7_isWord 19 = .ok (.istore_n 2, 1) := by decide +kernel
theorem dX7_isWord_20 : decode cX7_isWord 20 = .ok (.iload_n 2, 1) := by decide +kernel
theorem dX7_isWord_21 : decode cX7_isWord 21 = .ok (.aload_n 1, 1) := by decide +kernel
theorem dX7_isWord_22 : decode cX7_isWord 22 = .ok (.invokevirtual 59, 3) := by decide +kernel
theorem dX7_isWord_25 : decode cX7_isWord 25 = .ok (.if_icmp .ge 32, 3) := by decide +kernel
theorem dX7_isWord_28 : decode cX7_isWord 28 = .ok (.aload_n 0, 1) := by decide +kernel
theorem dX7_isWord_29 : decode cX7_isWord 29 = .ok (.getfield 9, 3) := by decide +kernel
theorem dX7_isWord_32 : decode cX7_isWord 32 = .ok (.aload_n 0, 1) := by decide +kernel
theorem dX7_isWord_33 : decode cX7_isWord 33 = .ok (.getfield 43, 3) := by decide +kernel
theorem dX7_isWord_36 : decode cX7_isWord 36 = .ok (.iload_n 2, 1) := by decide +kernel
theorem dX7_isWord_37 : decode cX7_isWord 37 = .ok (.iadd, 1) := by decide +kernel
theorem dX7_isWord_38 : decode cX7_isWord 38 = .ok (.invokevirtual 51, 3) := by decide +kernel
theorem dX7_isWord_41 : decode cX7_isWord 41 = .ok (.aload_n 1, 1) := by decide +kernel
theorem dX7_isWord_42 : decode cX7_isWord 42 = .ok (.iload_n 2, 1) := by decide +kernel
theorem dX7_isWord_43 : decode cX7_isWord 43 = .ok (.invokevirtual 64, 3) := by decide +kernel
theorem dX7_isWord_46 : decode cX7_isWord 46 = .ok (.if_icmp .eq 5, 3) := by decide +kernel
theorem dX7_isWord_49 : decode cX7_isWord 49 = .ok (.iconst 0, 1) := by decide +kernel
theorem dX7_isWord_50 : decode cX7_isWord 50 = .ok (.ireturn, 1) := by decide +kernel
theorem dX7_isWord_51 : decode cX7_isWord 51 = .ok (.iinc 2 1, 3) := by decide +kernel
theorem dX7_isWord_54 : decode cX7_isWord 54 = .ok (.goto (-34), 3) := by decide +kernel
theorem dX7_isWord_57 : decode cX7_isWord 57 = .ok (.iconst 1, 1) := by decide +kernel
theorem dX7_isWord_58 : decode cX7_isWord 58 = .ok (.ireturn, 1) := by decide +kernel
theorem dX7_number_0 : decode cX7_number 0 = .ok (.aload_n 0, 1) := by decide +kernel
theorem dX7_number_1 : decode cX7_number 1 = .ok (.getfield 29, 3) := by decide +kernel
theorem dX7_number_4 : decode cX7_number 4 = .ok (.aload_n 0, 1) := by decide +kernel
theorem dX7_number_5 : decode cX7_number 5 = .ok (.getfield 43, 3) := by decide +kernel
theorem dX7_number_8 : decode cX7_number 8 = .ok (.isub, 1) := by decide +kernel
theorem dX7_number_9 : decode cX7_number 9 = .ok (.istore_n 3, 1) := by decide +kernel
theorem dX7_number_10 : decode cX7_number 10 = .ok (.iload_n 3, 1) := by decide +kernel
theorem dX7_number_11 : decode cX7_number 11 = .ok (.iconst 1, 1) := by decide +kernel
theorem dX7_number_12 : decode cX7_number 12 = .ok (.if_icmp .lt 26, 3) := by decide +kernel
theorem dX7_number_15 : decode cX7_number 15 = .ok (.iload_n 3, 1) := by decide +kernel
theorem dX7_number_16 : decode cX7_number 16 = .ok (.iconst 2, 1) := by decide +kernel
theorem dX7_number_17 : decode cX7_number 17 = .ok (.if_icmp .gt 21, 3) := by decide +kernel
theorem dX7_number_20 : decode cX7_number 20 = .ok (.aload_n 0, 1) := by decide +kernel
theorem dX7_number_21 : decode cX7_number 21 = .ok (.getfield 9, 3) := by decide +kernel
theorem dX7_number_24 : decode cX7_number 24 = .ok (.aload_n 0, 1) := by decide +kernel
theorem dX7_number_25 : decode cX7_number 25 = .ok (.getfield 43, 3) := by decide +kernel
theorem dX7_number_28 : decode cX7_number 28 = .ok (.invokevirtual 51, 3) := by decide +kernel
theorem dX7_number_31 : decode cX7_number 31 = .ok (.invokestatic 55, 3) := by decide +kernel
theorem dX7_number_34 : decode cX7_number 34 = .ok (.iconst 2, 1) := by decide +kernel
theorem dX7_number_35 : decode cX7_number 35 = .ok (.if_icmp .eq 5, 3) := by decide +kernel
theorem dX7_number_38 : decode cX7_number 38 = .ok (.iconst (-1), 1) := by decide +kernel
theorem dX7_number_39 : decode cX7_number 39 = .ok (.ireturn, 1) := by decide +kernel
theorem dX7_number_40 : decode cX7_number 40 = .ok (.iconst 0, 1) := by decide +kernel
theorem dX7_number_41 : decode cX7_number 41 = .ok (.istore 4, 2) := by decide +kernel
theorem dX7_number_43 : decode cX7_number 43 = .ok (.aload_n 0, 1) := by decide +kernel
theorem dX7_number_44 : decode cX7_number 44 = .ok (.getfield 43, 3) := by decide +kernel
theorem dX7_number_47 : decode cX7_number 47 = .ok (.istore 5, 2) := by decide +kernel
theorem dX7_number_49 : decode cX7_number 49 = .ok (.iload 5, 2) := by decide +kernel
theorem dX7_number_51 : decode cX7_number 51 = .ok (.aload_n 0, 1) := by decide +kernel
theorem dX7_number_52 : decode cX7_number 52 = .ok (.getfield 29, 3) := by decide +kernel
theorem dX7_number_55 : decode cX7_number 55 = .ok (.if_icmp .ge 29, 3) := by decide +kernel
theorem dX7_number_58 : decode cX7_number 58 = .ok (.bipush 10, 2) := by decide +kernel
theorem dX7_number_60 : decode cX7_number 60 = .ok (.iload 4, 2) := by decide +kernel
theorem dX7_number_62 : decode cX7_number 62 = .ok (.imul, 1) := by decide +kernel
theorem dX7_number_63 : decode cX7_number 63 = .ok (.aload_n 0, 1) := by decide +kernel
theorem dX7_number_64 : decode cX7_number 64 = .ok (.getfield 9, 3) := by decide +kernel
theorem dX7_number_67 : decode cX7_number 67 = .ok (.iload 5, 2) := by decide +kernel
theorem dX7_number_69 : decode cX7_number 69 = .ok (.invokevirtual 51, 3) := by decide +kernel
theorem dX7_number_72 : decode cX7_number 72 = .ok (.iadd, 1) := by decide +kernel
theorem dX7_number_73 : decode cX7_number 73 = .ok (.bipush 48, 2) := by decide +kernel
theorem dX7_number_75 : decode cX7_number 75 = .ok (.isub, 1) := by decide +kernel
theorem dX7_number_76 : decode cX7_number 76 = .ok (.istore 4, 2) := by decide +kernel
theorem dX7_number_78 : decode cX7_number 78 = .ok (.iinc 5 1, 3) := by decide +kernel
theorem dX7_number_81 : decode cX7_number 81 = .ok (.goto (-32), 3) := by decide +kernel
theorem dX7_number_84 : decode cX7_number 84 = .ok (.iload 4, 2) := by decide +kernel
theorem dX7_number_86 : decode cX7_number 86 = .ok (.iload_n 1, 1) := by decide +kernel
theorem dX7_number_87 : decode cX7_number 87 = .ok (.if_icmp .lt 9, 3) := by decide +kernel
theorem dX7_number_90 : decode cX7_number 90 = .ok (.iload 4, 2) := by decide +kernel
theorem dX7_number_92 : decode cX7_number 92 = .ok (.iload_n 2, 1) := by decide +kernel
theorem dX7_number_93 : decode cX7_number 93 = .ok (.if_icmp .le 5, 3) := by decide +kernel
theorem dX7_number_96 : decode cX7_number 96 = .ok (.iconst (-1), 1) := by decide +kernel
theorem dX7_number_97 : decode cX7_number 97 = .ok (.ireturn, 1) := by decide +kernel
theorem dX7_number_98 : decode cX7_number 98 = .ok (.aload_n 0, 1) := by decide +kernel
theorem dX7_number_99 : decode cX7_number 99 = .ok (.invokevirtual 33, 3) := by decide +kernel
theorem dX7_number_102 : decode cX7_number 102 = .ok (.iload 4, 2) := by decide +kernel
theorem dX7_number_104 : decode cX7_number 104 = .ok (.ireturn, 1) := by decide +kernel
theorem dX7_readsClause_0 : decode cX7_readsClause 0 = .ok (.aload_n 0, 1) := by decide +kernel
theorem dX7_readsClause_1 : decode cX7_readsClause 1 = .ok (.ldc 67, 2) := by decide +kernel
theorem dX7_readsClause_3 : decode cX7_readsClause 3 = .ok (.invokevirtual 69, 3) := by decide +kernel
theorem dX7_readsClause_6 : decode cX7_readsClause 6 = .ok (.ifCond .eq 16, 3) := by decide +kernel
theorem dX7_readsClause_9 : decode cX7_readsClause 9 = .ok (.aload_n 0, 1) := by decide +kernel
theorem dX7_readsClause_10 : decode cX7_readsClause 10 = .ok (.getfield 15, 3) := by decide +kernel
theorem dX7_readsClause_13 : decode cX7_readsClause 13 = .ok (.invokevirtual 73, 3) := by decide +kernel
theorem dX7_readsClause_16 : decode cX7_readsClause 16 = .ok (.aload_n 0, 1) := by decide +kernel
theorem dX7_readsClause_17 : decode cX7_readsClause 17 = .ok (.invokevirtual 33, 3) := by decide +kernel
theorem dX7_readsClause_20 : decode cX7_readsClause 20 = .ok (.iconst 1, 1) := by decide +kernel
theorem dX7_readsClause_21 : decode cX7_readsClause 21 = .ok (.ireturn, 1) := by decide +kernel
theorem dX7_readsClause_22 : decode cX7_readsClause 22 = .ok (.aload_n 0, 1) := by decide +kernel
theorem dX7_readsClause_23 : decode cX7_readsClause 23 = .ok (.ldc 76, 2) := by decide +kernel
theorem dX7_readsClause_25 : decode cX7_readsClause 25 = .ok (.invokevirtual 69, 3) := by decide +kernel
theorem dX7_readsClause_28 : decode cX7_readsClause 28 = .ok (.ifCond .eq 8, 3) := by decide +kernel
theorem dX7_readsClause_31 : decode cX7_readsClause 31 = .ok (.aload_n 0, 1) := by decide +kernel
theorem dX7_readsClause_32 : decode cX7_readsClause 32 = .ok (.invokevirtual 78, 3) := by decide +kernel
theorem dX7_readsClause_35 : decode cX7_readsClause 35 = .ok (.ireturn, 1) := by decide +kernel
theorem dX7_readsClause_36 : decode cX7_readsClause 36 = .ok (.aload_n 0, 1) := by decide +kernel
theorem dX7_readsClause_37 : decode cX7_readsClause 37 = .ok (.ldc 81, 2) := by decide +kernel
theorem dX7_readsClause_39 : decode cX7_readsClause 39 = .ok (.invokevirtual 69, 3) := by decide +kernel
theorem dX7_readsClause_42 : decode cX7_readsClause 42 = .ok (.ifCond .eq 8, 3) := by decide +kernel
theorem dX7_readsClause_45 : decode cX7_readsClause 45 = .ok (.aload_n 0, 1) := by decide +kernel
theorem dX7_readsClause_46 : decode cX7_readsClause 46 = .ok (.invokevirtual 83, 3) := by decide +kernel
theorem dX7_readsClause_49 : decode cX7_readsClause 49 = .ok (.ireturn, 1) := by decide +kernel
theorem dX7_readsClause_50 : decode cX7_readsClause 50 = .ok (.aload_n 0, 1) := by decide +kernel
theorem dX7_readsClause_51 : decode cX7_readsClause 51 = .ok (.ldc 86, 2) := by decide +kernel
theorem dX7_readsClause_53 : decode cX7_readsClause 53 = .ok (.invokevirtual 69, 3) := by decide +kernel
theorem dX7_readsClause_56 : decode cX7_readsClause 56 = .ok (.ifCond .eq 8, 3) := by decide +kernel
theorem dX7_readsClause_59 : decode cX7_readsClause 59 = .ok (.aload_n 0, 1) := by decide +kernel
theorem dX7_readsClause_60 : decode cX7_readsClause 60 = .ok (.invokevirtual 88, 3) := by decide +kernel
theorem dX7_readsClause_63 : decode cX7_readsClause 63 = .ok (.ireturn, 1) := by decide +kernel
theorem dX7_readsClause_64 : decode cX7_readsClause 64 = .ok (.aload_n 0, 1) := by decide +kernel
theorem dX7_readsClause_65 : decode cX7_readsClause 65 = .ok (.ldc 91, 2) := by decide +kernel
theorem dX7_readsClause_67 : decode cX7_readsClause 67 = .ok (.invokevirtual 69, 3) := by decide +kernel
theorem dX7_readsClause_70 : decode cX7_readsClause 70 = .ok (.ifCond .eq 8, 3) := by decide +kernel
theorem dX7_readsClause_73 : decode cX7_readsClause 73 = .ok (.aload_n 0, 1) := by decide +kernel
theorem dX7_readsClause_74 : decode cX7_readsClause 74 = .ok (.invokevirtual 93, 3) := by decide +kernel
theorem dX7_readsClause_77 : decode cX7_readsClause 77 = .ok (.ireturn, 1) := by decide +kernel
theorem dX7_readsClause_78 : decode cX7_readsClause 78 = .ok (.iconst 0, 1) := by decide +kernel
theorem dX7_readsClause_79 : decode cX7_readsClause 79 = .ok (.istore_n 1, 1) := by decide +kernel
theorem dX7_readsClause_80 : decode cX7_readsClause 80 = .ok (.iload_n 1, 1) := by decide +kernel
theorem dX7_readsClause_81 : decode cX7_readsClause 81 = .ok (.aload_n 0, 1) := by decide +kernel
theorem dX7_readsClause_82 : decode cX7_readsClause 82 = .ok (.getfield 19, 3) := by decide +kernel
theorem dX7_readsClause_85 : decode cX7_readsClause 85 = .ok (.arraylength, 1) := by decide +kernel
theorem dX7_readsClause_86 : decode cX7_readsClause 86 = .ok (.if_icmp .ge 36, 3) := by decide +kernel
theorem dX7_readsClause_89 : decode cX7_readsClause 89 = .ok (.aload_n 0, 1) := by decide +kernel
theorem dX7_readsClause_90 : decode cX7_readsClause 90 = .ok (.aload_n 0, 1) := by decide +kernel
theorem dX7_readsClause_91 : decode cX7_readsClause 91 = .ok (.getfield 19, 3) := by decide +kernel
theorem dX7_readsClause_94 : decode cX7_readsClause 94 = .ok (.iload_n 1, 1) := by decide +kernel
theorem dX7_readsClause_95 : decode cX7_readsClause 95 = .ok (.aaload, 1) := by decide +kernel
theorem dX7_readsClause_96 : decode cX7_readsClause 96 = .ok (.invokevirtual 96, 3) := by decide +kernel
theorem dX7_readsClause_99 : decode cX7_readsClause 99 = .ok (.invokevirtual 69, 3) := by decide +kernel
theorem dX7_readsClause_102 : decode cX7_readsClause 102 = .ok (.ifCond .eq 14, 3) := by decide +kernel
theorem dX7_readsClause_105 : decode cX7_readsClause 105 = .ok (.aload_n 0, 1) := by decide +kernel
theorem dX7_readsClause_106 : decode cX7_readsClause 106 = .ok (.aload_n 0, 1) := by decide +kernel
theorem dX7_readsClause_107 : decode cX7_readsClause 107 = .ok (.getfield 19, 3) := by decide +kernel
theorem dX7_readsClause_110 : decode cX7_readsClause 110 = .ok (.iload_n 1, 1) := by decide +kernel
theorem dX7_readsClause_111 : decode cX7_readsClause 111 = .ok (.aaload, 1) := by decide +kernel
theorem dX7_readsClause_112 : decode cX7_readsClause 112 = .ok (.invokevirtual 102, 3) := by decide +kernel
theorem dX7_readsClause_115 : decode cX7_readsClause 115 = .ok (.ireturn, 1) := by decide +kernel
theorem dX7_readsClause_116 : decode cX7_readsClause 116 = .ok (.iinc 1 1, 3) := by decide +kernel
theorem dX7_readsClause_119 : decode cX7_readsClause 119 = .ok (.goto (-39), 3) := by decide +kernel
theorem dX7_readsClause_122 : decode cX7_readsClause 122 = .ok (.iconst 0, 1) := by decide +kernel
theorem dX7_readsClause_123 : decode cX7_readsClause 123 = .ok (.ireturn, 1) := by decide +kernel
theorem dX7_readsCloud_0 : decode cX7_readsCloud 0 = .ok (.aload_n 0, 1) := by decide +kernel
theorem dX7_readsCloud_1 : decode cX7_readsCloud 1 = .ok (.getfield 15, 3) := by decide +kernel
theorem dX7_readsCloud_4 : decode cX7_readsCloud 4 = .ok (.getfield 106, 3) := by decide +kernel
theorem dX7_readsCloud_7 : decode cX7_readsCloud 7 = .ok (.bipush 6, 2) := by decide +kernel
theorem dX7_readsCloud_9 : decode cX7_readsCloud 9 = .ok (.if_icmp .lt 5, 3) := by decide +kernel
theorem dX7_readsCloud_12 : decode cX7_readsCloud 12 = .ok (.iconst 0, 1) := by decide +kernel
theorem dX7_readsCloud_13 : decode cX7_readsCloud 13 = .ok (.ireturn, 1) := by decide +kernel
theorem dX7_readsCloud_14 : decode cX7_readsCloud 14 = .ok (.aload_n 0, 1) := by decide +kernel
theorem dX7_readsCloud_15 : decode cX7_readsCloud 15 = .ok (.invokevirtual 33, 3) := by decide +kernel
theorem dX7_readsCloud_18 : decode cX7_readsCloud 18 = .ok (.aload_n 0, 1) := by decide +kernel
theorem dX7_readsCloud_19 : decode cX7_readsCloud 19 = .ok (.iconst 1, 1) := by decide +kernel
theorem dX7_readsCloud_20 : decode cX7_readsCloud 20 = .ok (.bipush 99, 2) := by decide +kernel
theorem dX7_readsCloud_22 : decode cX7_readsCloud 22 = .ok (.invokevirtual 109, 3) := by decide +kernel
theorem dX7_readsCloud_25 : decode cX7_readsCloud 25 = .ok (.istore_n 2, 1) := by decide +kernel
theorem dX7_readsCloud_26 : decode cX7_readsCloud 26 = .ok (.iload_n 2, 1) := by decide +kernel
theorem dX7_readsCloud_27 : decode cX7_readsCloud 27 = .ok (.iconst (-1), 1) := by decide +kernel
theorem dX7_readsCloud_28 : decode cX7_readsCloud 28 = .ok (.if_icmp .ne 5, 3) := by decide +kernel
theorem dX7_readsCloud_31 : decode cX7_readsCloud 31 = .ok (.iconst 0, 1) := by decide +kernel
theorem dX7_readsCloud_32 : decode cX7_readsCloud 32 = .ok (.ireturn, 1) := by decide +kernel
theorem dX7_readsCloud_33 : decode cX7_readsCloud 33 = .ok (.aload_n 0, 1) := by decide +kernel
theorem dX7_readsCloud_34 : decode cX7_readsCloud 34 = .ok (.iconst 0, 1) := by decide +kernel
theorem dX7_readsCloud_35 : decode cX7_readsCloud 35 = .ok (.bipush 99, 2) := by decide +kernel
theorem dX7_readsCloud_37 : decode cX7_readsCloud 37 = .ok (.invokevirtual 109, 3) := by decide +kernel
theorem dX7_readsCloud_40 : decode cX7_readsCloud 40 = .ok (.istore_n 3, 1) := by decide +kernel
theorem dX7_readsCloud_41 : decode cX7_readsCloud 41 = .ok (.iload_n 3, 1) := by decide +kernel
theorem dX7_readsCloud_42 : decode cX7_readsCloud 42 = .ok (.iconst (-1), 1) := by decide +kernel
theorem dX7_readsCloud_43 : decode cX7_readsCloud 43 = .ok (.if_icmp .ne 5, 3) := by decide +kernel
theorem dX7_readsCloud_46 : decode cX7_readsCloud 46 = .ok (.iconst 0, 1) := by decide +kernel
theorem dX7_readsCloud_47 : decode cX7_readsCloud 47 = .ok (.ireturn, 1) := by decide +kernel
theorem dX7_readsCloud_48 : decode cX7_readsCloud 48 = .ok (.aload_n 0, 1) := by decide +kernel
theorem dX7_readsCloud_49 : decode cX7_readsCloud 49 = .ok (.getfield 15, 3) := by decide +kernel
theorem dX7_readsCloud_52 : decode cX7_readsCloud 52 = .ok (.aload_n 1, 1) := by decide +kernel
theorem dX7_readsCloud_53 : decode cX7_readsCloud 53 = .ok (.iload_n 2, 1) := by decide +kernel
theorem dX7_readsCloud_54 : decode cX7_readsCloud 54 = .ok (.iload_n 3, 1) := by decide +kernel
theorem dX7_readsCloud_55 : decode cX7_readsCloud 55 = .ok (.invokevirtual 113, 3) := by decide +kernel
theorem dX7_readsCloud_58 : decode cX7_readsCloud 58 = .ok (.iconst 1, 1) := by decide +kernel
theorem dX7_readsCloud_59 : decode cX7_readsCloud 59 = .ok (.ireturn, 1) := by decide +kernel
theorem dX7_readsStain_0 : decode cX7_readsStain 0 = .ok (.aload_n 0, 1) := by decide +kernel
theorem dX7_readsStain_1 : decode cX7_readsStain 1 = .ok (.invokevirtual 33, 3) := by decide +kernel
theorem dX7_readsStain_4 : decode cX7_readsStain 4 = .ok (.aload_n 0, 1) := by decide +kernel
theorem dX7_readsStain_5 : decode cX7_readsStain 5 = .ok (.getfield 15, 3) := by decide +kernel
theorem dX7_readsStain_8 : decode cX7_readsStain 8 = .ok (.aload_n 0, 1) := by decide +kernel
theorem dX7_readsStain_9 : decode cX7_readsStain 9 = .ok (.iconst 0, 1) := by decide +kernel
theorem dX7_readsStain_10 : decode cX7_readsStain 10 = .ok (.aload_n 0, 1) := by decide +kernel
theorem dX7_readsStain_11 : decode cX7_readsStain 11 = .ok (.getfield 15, 3) := by decide +kernel
theorem dX7_readsStain_14 : decode cX7_readsStain 14 = .ok (.getfield 106, 3) := by decide +kernel
theorem dX7_readsStain_17 : decode cX7_readsStain 17 = .ok (.iconst 1, 1) := by decide +kernel
theorem dX7_readsStain_18 : decode cX7_readsStain 18 = .ok (.isub, 1) := by decide +kernel
theorem dX7_readsStain_19 : decode cX7_readsStain 19 = .ok (.invokevirtual 109, 3) := by decide +kernel
theorem dX7_readsStain_22 : decode cX7_readsStain 22 = .ok (.invokevirtual 117, 3) := by decide +kernel
theorem dX7_readsStain_25 : decode cX7_readsStain 25 = .ok (.astore_n 1, 1) := by decide +kernel
theorem dX7_readsStain_26 : decode cX7_readsStain 26 = .ok (.aload_n 1, 1) := by decide +kernel
theorem dX7_readsStain_27 : decode cX7_readsStain 27 = .ok (.ifnonnull 5, 3) := by decide +kernel
theorem dX7_readsStain_30 : decode cX7_readsStain 30 = .ok (.iconst 0, 1) := by decide +kernel
theorem dX7_readsStain_31 : decode cX7_readsStain 31 = .ok (.ireturn, 1) := by decide +kernel
theorem dX7_readsStain_32 : decode cX7_readsStain 32 = .ok (.aload_n 0, 1) := by decide +kernel
theorem dX7_readsStain_33 : decode cX7_readsStain 33 = .ok (.iconst 0, 1) := by decide +kernel
theorem dX7_readsStain_34 : decode cX7_readsStain 34 = .ok (.iconst 5, 1) := by decide +kernel
theorem dX7_readsStain_35 : decode cX7_readsStain 35 = .ok (.invokevirtual 109, 3) := by decide +kernel
theorem dX7_readsStain_38 : decode cX7_readsStain 38 = .ok (.istore_n 2, 1) := by decide +kernel
theorem dX7_readsStain_39 : decode cX7_readsStain 39 = .ok (.iload_n 2, 1) := by decide +kernel
theorem dX7_readsStain_40 : decode cX7_readsStain 40 = .ok (.ifCond .lt 9, 3) := by decide +kernel
theorem dX7_readsStain_43 : decode cX7_readsStain 43 = .ok (.iload_n 2, 1) := by decide +kernel
theorem dX7_readsStain_44 : decode cX7_readsStain 44 = .ok (.bipush 6, 2) := by decide +kernel
theorem dX7_readsStain_46 : decode cX7_readsStain 46 = .ok (.if_icmp .lt 5, 3) := by decide +kernel
theorem dX7_readsStain_49 : decode cX7_readsStain 49 = .ok (.iconst 0, 1) := by decide +kernel
theorem dX7_readsStain_50 : decode cX7_readsStain 50 = .ok (.ireturn, 1) := by decide +kernel
theorem dX7_readsStain_51 : decode cX7_readsStain 51 = .ok (.aload_n 0, 1) := by decide +kernel
theorem dX7_readsStain_52 : decode cX7_readsStain 52 = .ok (.iconst 0, 1) := by decide +kernel
theorem dX7_readsStain_53 : decode cX7_readsStain 53 = .ok (.bipush 9, 2) := by decide +kernel
theorem dX7_readsStain_55 : decode cX7_readsStain 55 = .ok (.invokevirtual 109, 3) := by decide +kernel
theorem dX7_readsStain_58 : decode cX7_readsStain 58 = .ok (.istore_n 3, 1) := by decide +kernel
theorem dX7_readsStain_59 : decode cX7_readsStain 59 = .ok (.iload_n 3, 1) := by decide +kernel
theorem dX7_readsStain_60 : decode cX7_readsStain 60 = .ok (.iconst (-1), 1) := by decide +kernel
theorem dX7_readsStain_61 : decode cX7_readsStain 61 = .ok (.if_icmp .ne 5, 3) := by decide +kernel
theorem dX7_readsStain_64 : decode cX7_readsStain 64 = .ok (.iconst 0, 1) := by decide +kernel
theorem dX7_readsStain_65 : decode cX7_readsStain 65 = .ok (.ireturn, 1) := by decide +kernel
theorem dX7_readsStain_66 : decode cX7_readsStain 66 = .ok (.aload_n 1, 1) := by decide +kernel
theorem dX7_readsStain_67 : decode cX7_readsStain 67 = .ok (.getfield 121, 3) := by decide +kernel
theorem dX7_readsStain_70 : decode cX7_readsStain 70 = .ok (.iload_n 2, 1) := by decide +kernel
theorem dX7_readsStain_71 : decode cX7_readsStain 71 = .ok (.iload_n 3, 1) := by decide +kernel
theorem dX7_readsStain_72 : decode cX7_readsStain 72 = .ok (.iastore, 1) := by decide +kernel
theorem dX7_readsStain_73 : decode cX7_readsStain 73 = .ok (.iconst 1, 1) := by decide +kernel
theorem dX7_readsStain_74 : decode cX7_readsStain 74 = .ok (.ireturn, 1) := by decide +kernel
theorem dX7_readsWasher_0 : decode cX7_readsWasher 0 = .ok (.aload_n 0, 1) := by decide +kernel
theorem dX7_readsWasher_1 : decode cX7_readsWasher 1 = .ok (.getfield 15, 3) := by decide +kernel
theorem dX7_readsWasher_4 : decode cX7_readsWasher 4 = .ok (.getfield 127, 3) := by decide +kernel
theorem dX7_readsWasher_7 : decode cX7_readsWasher 7 = .ok (.iconst 3, 1) := by decide +kernel
theorem dX7_readsWasher_8 : decode cX7_readsWasher 8 = .ok (.if_icmp .lt 5, 3) := by decide +kernel
theorem dX7_readsWasher_11 : decode cX7_readsWasher 11 = .ok (.iconst 0, 1) := by decide +kernel
theorem dX7_readsWasher_12 : decode cX7_readsWasher 12 = .ok (.ireturn, 1) := by decide +kernel
theorem dX7_readsWasher_13 : decode cX7_readsWasher 13 = .ok (.aload_n 0, 1) := by decide +kernel
theorem dX7_readsWasher_14 : decode cX7_readsWasher 14 = .ok (.invokevirtual 33, 3) := by decide +kernel
theorem dX7_readsWasher_17 : decode cX7_readsWasher 17 = .ok (.aload_n 0, 1) := by decide +kernel
theorem dX7_readsWasher_18 : decode cX7_readsWasher 18 = .ok (.iconst 1, 1) := by decide +kernel
theorem dX7_readsWasher_19 : decode cX7_readsWasher 19 = .ok (.iconst 3, 1) := by decide +kernel
theorem dX7_readsWasher_20 : decode cX7_readsWasher 20 = .ok (.invokevirtual 109, 3) := by decide +kernel
theorem dX7_readsWasher_23 : decode cX7_readsWasher 23 = .ok (.istore_n 1, 1) := by decide +kernel
theorem dX7_readsWasher_24 : decode cX7_readsWasher 24 = .ok (.iload_n 1, 1) := by decide +kernel
theorem dX7_readsWasher_25 : decode cX7_readsWasher 25 = .ok (.iconst (-1), 1) := by decide +kernel
theorem dX7_readsWasher_26 : decode cX7_readsWasher 26 = .ok (.if_icmp .ne 5, 3) := by decide +kernel
theorem dX7_readsWasher_29 : decode cX7_readsWasher 29 = .ok (.iconst 0, 1) := by decide +kernel
theorem dX7_readsWasher_30 : decode cX7_readsWasher 30 = .ok (.ireturn, 1) := by decide +kernel
theorem dX7_readsWasher_31 : decode cX7_readsWasher 31 = .ok (.aload_n 0, 1) := by decide +kernel
theorem dX7_readsWasher_32 : decode cX7_readsWasher 32 = .ok (.getfield 15, 3) := by decide +kernel
theorem dX7_readsWasher_35 : decode cX7_readsWasher 35 = .ok (.iload_n 1, 1) := by decide +kernel
theorem dX7_readsWasher_36 : decode cX7_readsWasher 36 = .ok (.invokevirtual 130, 3) := by decide +kernel
theorem dX7_readsWasher_39 : decode cX7_readsWasher 39 = .ok (.iconst 1, 1) := by decide +kernel
theorem dX7_readsWasher_40 : decode cX7_readsWasher 40 = .ok (.ireturn, 1) := by decide +kernel
theorem dX7_readsSoap_0 : decode cX7_readsSoap 0 = .ok (.aload_n 0, 1) := by decide +kernel
theorem dX7_readsSoap_1 : decode cX7_readsSoap 1 = .ok (.invokevirtual 33, 3) := by decide +kernel
theorem dX7_readsSoap_4 : decode cX7_readsSoap 4 = .ok (.aload_n 0, 1) := by decide +kernel
theorem dX7_readsSoap_5 : decode cX7_readsSoap 5 = .ok (.iconst 0, 1) := by decide +kernel
theorem dX7_readsSoap_6 : decode cX7_readsSoap 6 = .ok (.bipush 99, 2) := by decide +kernel
theorem dX7_readsSoap_8 : decode cX7_readsSoap 8 = .ok (.invokevirtual 109, 3) := by decide +kernel
theorem dX7_readsSoap_11 : decode cX7_readsSoap 11 = .ok (.istore_n 1, 1) := by decide +kernel
theorem dX7_readsSoap_12 : decode cX7_readsSoap 12 = .ok (.iload_n 1, 1) := by decide +kernel
theorem dX7_readsSoap_13 : decode cX7_readsSoap 13 = .ok (.iconst (-1), 1) := by decide +kernel
theorem dX7_readsSoap_14 : decode cX7_readsSoap 14 = .ok (.if_icmp .ne 5, 3) := by decide +kernel
theorem dX7_readsSoap_17 : decode cX7_readsSoap 17 = .ok (.iconst 0, 1) := by decide +kernel
theorem dX7_readsSoap_18 : decode cX7_readsSoap 18 = .ok (.ireturn, 1) := by decide +kernel
theorem dX7_readsSoap_19 : decode cX7_readsSoap 19 = .ok (.aload_n 0, 1) := by decide +kernel
theorem dX7_readsSoap_20 : decode cX7_readsSoap 20 = .ok (.getfield 15, 3) := by decide +kernel
theorem dX7_readsSoap_23 : decode cX7_readsSoap 23 = .ok (.iload_n 1, 1) := by decide +kernel
theorem dX7_readsSoap_24 : decode cX7_readsSoap 24 = .ok (.putfield 134, 3) := by decide +kernel
theorem dX7_readsSoap_27 : decode cX7_readsSoap 27 = .ok (.iconst 1, 1) := by decide +kernel
theorem dX7_readsSoap_28 : decode cX7_readsSoap 28 = .ok (.ireturn, 1) := by decide +kernel
theorem dX7_readsEye_0 : decode cX7_readsEye 0 = .ok (.aload_n 0, 1) := by decide +kernel
theorem dX7_readsEye_1 : decode cX7_readsEye 1 = .ok (.invokevirtual 33, 3) := by decide +kernel
theorem dX7_readsEye_4 : decode cX7_readsEye 4 = .ok (.aload_n 0, 1) := by decide +kernel
theorem dX7_readsEye_5 : decode cX7_readsEye 5 = .ok (.iconst 1, 1) := by decide +kernel
theorem dX7_readsEye_6 : decode cX7_readsEye 6 = .ok (.bipush 99, 2) := by decide +kernel
theorem dX7_readsEye_8 : decode cX7_readsEye 8 = .ok (.invokevirtual 109, 3) := by decide +kernel
theorem dX7_readsEye_11 : decode cX7_readsEye 11 = .ok (.istore_n 1, 1) := by decide +kernel
theorem dX7_readsEye_12 : decode cX7_readsEye 12 = .ok (.iload_n 1, 1) := by decide +kernel
theorem dX7_readsEye_13 : decode cX7_readsEye 13 = .ok (.iconst (-1), 1) := by decide +kernel
theorem dX7_readsEye_14 : decode cX7_readsEye 14 = .ok (.if_icmp .ne 5, 3) := by decide +kernel
theorem dX7_readsEye_17 : decode cX7_readsEye 17 = .ok (.iconst 0, 1) := by decide +kernel
theorem dX7_readsEye_18 : decode cX7_readsEye 18 = .ok (.ireturn, 1) := by decide +kernel
theorem dX7_readsEye_19 : decode cX7_readsEye 19 = .ok (.aload_n 0, 1) := by decide +kernel
theorem dX7_readsEye_20 : decode cX7_readsEye 20 = .ok (.getfield 15, 3) := by decide +kernel
theorem dX7_readsEye_23 : decode cX7_readsEye 23 = .ok (.iload_n 1, 1) := by decide +kernel
theorem dX7_readsEye_24 : decode cX7_readsEye 24 = .ok (.putfield 136, 3) := by decide +kernel
theorem dX7_readsEye_27 : decode cX7_readsEye 27 = .ok (.iconst 1, 1) := by decide +kernel
theorem dX7_readsEye_28 : decode cX7_readsEye 28 = .ok (.ireturn, 1) := by decide +kernel
theorem dX8_init_0 : decode cX8_init 0 = .ok (.aload_n 0, 1) := by decide +kernel
theorem dX8_init_1 : decode cX8_init 1 = .ok (.invokespecial 3, 3) := by decide +kernel
theorem dX8_init_4 : decode cX8_init 4 = .ok (.aload_n 0, 1) := by decide +kernel
theorem dX8_init_5 : decode cX8_init 5 = .ok (.sipush 200, 3) := by decide +kernel
theorem dX8_init_8 : decode cX8_init 8 = .ok (.newarray .char, 2) := by decide +kernel
theorem dX8_init_10 : decode cX8_init 10 = .ok (.putfield 9, 3) := by decide +kernel
theorem dX8_init_13 : decode cX8_init 13 = .ok (.return_, 1) := by decide +kernel
theorem dX8_add_0 : decode cX8_add 0 = .ok (.aload_n 0, 1) := by decide +kernel
theorem dX8_add_1 : decode cX8_add 1 = .ok (.getfield 15, 3) := by decide +kernel
theorem dX8_add_4 : decode cX8_add 4 = .ok (.ifCond .lt 13, 3) := by decide +kernel
theorem dX8_add_7 : decode cX8_add 7 = .ok (.aload_n 0, 1) := by decide +kernel
theorem dX8_add_8 : decode cX8_add 8 = .ok (.getfield 15, 3) := by decide +kernel
theorem dX8_add_11 : decode cX8_add 11 = .ok (.sipush 200, 3) := by decide +kernel
theorem dX8_add_14 : decode cX8_add 14 = .ok (.if_icmp .lt 5, 3) := by decide +kernel
theorem dX8_add_17 : decode cX8_add 17 = .ok (.iconst 0, 1) := by decide +kernel
theorem dX8_add_18 : decode cX8_add 18 = .ok (.ireturn, 1) := by decide +kernel
theorem dX8_add_19 : decode cX8_add 19 = .ok (.aload_n 0, 1) := by decide +kernel
theorem dX8_add_20 : decode cX8_add 20 = .ok (.getfield 9, 3) := by decide +kernel
theorem dX8_add_23 : decode cX8_add 23 = .ok (.aload_n 0, 1) := by decide +kernel
theorem dX8_add_24 : decode cX8_add 24 = .ok (.getfield 15, 3) := by decide +kernel
theorem dX8_add_27 : decode cX8_add 27 = .ok (.iload_n 1, 1) := by decide +kernel
theorem dX8_add_28 : decode cX8_add 28 = .ok (.castore, 1) := by decide +kernel
theorem dX8_add_29 : decode cX8_add 29 = .ok (.aload_n 0, 1) := by decide +kernel
theorem dX8_add_30 : decode cX8_add 30 = .ok (.dup, 1) := by decide +kernel
theorem dX8_add_31 : decode cX8_add 31 = .ok (.getfield 15, 3) := by decide +kernel
theorem dX8_add_34 : decode cX8_add 34 = .ok (.iconst 1, 1) := by decide +kernel
theorem dX8_add_35 : decode cX8_add 35 = .ok (.iadd, 1) := by decide +kernel
theorem dX8_add_36 : decode cX8_add 36 = .ok (.putfield 15, 3) := by decide +kernel
theorem dX8_add_39 : decode cX8_add 39 = .ok (.iconst 1, 1) := by decide +kernel
theorem dX8_add_40 : decode cX8_add 40 = .ok (.ireturn, 1) := by decide +kernel
theorem dX8_copyFrom_0 : decode cX8_copyFrom 0 = .ok (.aload_n 0, 1) := by decide +kernel
theorem dX8_copyFrom_1 : decode cX8_copyFrom 1 = .ok (.aload_n 1, 1) := by decide +kernel
theorem dX8_copyFrom_2 : decode cX8_copyFrom 2 = .ok (.getfield 15, 3) := by decide +kernel
theorem dX8_copyFrom_5 : decode cX8_copyFrom 5 = .ok (.putfield 15, 3) := by decide +kernel
theorem dX8_copyFrom_8 : decode cX8_copyFrom 8 = .ok (.aload_n 1, 1) := by decide +kernel
theorem dX8_copyFrom_9 : decode cX8_copyFrom 9 = .ok (.getfield 9, 3) := by decide +kernel
theorem dX8_copyFrom_12 : decode cX8_copyFrom 12 = .ok (.iconst 0, 1) := by decide +kernel
theorem dX8_copyFrom_13 : decode cX8_copyFrom 13 = .ok (.aload_n 0, 1) := by decide +kernel
theorem dX8_copyFrom_14 : decode cX8_copyFrom 14 = .ok (.getfield 9, 3) := by decide +kernel
theorem dX8_copyFrom_17 : decode cX8_copyFrom 17 = .ok (.iconst 0, 1) := by decide +kernel
theorem dX8_copyFrom_18 : decode cX8_copyFrom 18 = .ok (.sipush 200, 3) := by decide +kernel
theorem dX8_copyFrom_21 : decode cX8_copyFrom 21 = .ok (.invokestatic 19, 3) := by decide +kernel
theorem dX8_copyFrom_24 : decode cX8_copyFrom 24 = .ok (.return_, 1) := by decide +kernel
theorem dX8_at_0 : decode cX8_at 0 = .ok (.iload_n 1, 1) := by decide +kernel
theorem dX8_at_1 : decode cX8_at 1 = .ok (.ifCond .lt 18, 3) := by decide +kernel
theorem dX8_at_4 : decode cX8_at 4 = .ok (.iload_n 1, 1) := by decide +kernel
theorem dX8_at_5 : decode cX8_at 5 = .ok (.aload_n 0, 1) := by decide +kernel
theorem dX8_at_6 : decode cX8_at 6 = .ok (.getfield 15, 3) := by decide +kernel
theorem dX8_at_9 : decode cX8_at 9 = .ok (.if_icmp .ge 10, 3) := by decide +kernel
theorem dX8_at_12 : decode cX8_at 12 = .ok (.iload_n 1, 1) := by decide +kernel
theorem dX8_at_13 : decode cX8_at 13 = .ok (.sipush 200, 3) := by decide +kernel
theorem dX8_at_16 : decode cX8_at 16 = .ok (.if_icmp .lt 7, 3) := by decide +kernel
theorem dX8_at_19 : decode cX8_at 19 = .ok (.iconst 0, 1) := by decide +kernel
theorem dX8_at_20 : decode cX8_at 20 = .ok (.goto 9, 3) := by decide +kernel
theorem dX8_at_23 : decode cX8_at 23 = .ok (.aload_n 0, 1) := by decide +kernel
theorem dX8_at_24 : decode cX8_at 24 = .ok (.getfield 9, 3) := by decide +kernel
theorem dX8_at_27 : decode cX8_at 27 = .ok (.iload_n 1, 1) := by decide +kernel
theorem dX8_at_28 : decode cX8_at 28 = .ok (.caload, 1) := by decide +kernel
theorem dX8_at_29 : decode cX8_at 29 = .ok (.ireturn, 1) := by decide +kernel
theorem dX9_init_0 : decode cX9_init 0 = .ok (.aload_n 0, 1) := by decide +kernel
theorem dX9_init_1 : decode cX9_init 1 = .ok (.invokespecial 1, 3) := by decide +kernel
theorem dX9_init_4 : decode cX9_init 4 = .ok (.return_, 1) := by decide +kernel
theorem dX9_number_0 : decode cX9_number 0 = .ok (.iconst 1, 1) := by decide +kernel
theorem dX9_number_1 : decode cX9_number 1 = .ok (.ireturn, 1) := by decide +kernel
theorem dX9_word_0 : decode cX9_word 0 = .ok (.ldc 7, 2) := by decide +kernel
theorem dX9_word_2 : decode cX9_word 2 = .ok (.areturn, 1) := by decide +kernel
theorem dX9_rubs_0 : decode cX9_rubs 0 = .ok (.iconst 1, 1) := by decide +kernel
theorem dX9_rubs_1 : decode cX9_rubs 1 = .ok (.aload_n 0, 1) := by decide +kernel
theorem dX9_rubs_2 : decode cX9_rubs 2 = .ok (.iload_n 1, 1) := by decide +kernel
theorem dX9_rubs_3 : decode cX9_rubs 3 = .ok (.invokespecial 9, 3) := by decide +kernel
theorem dX9_rubs_6 : decode cX9_rubs 6 = .ok (.iconst 1, 1) := by decide +kernel
theorem dX9_rubs_7 : decode cX9_rubs 7 = .ok (.isub, 1) := by decide +kernel
theorem dX9_rubs_8 : decode cX9_rubs 8 = .ok (.invokestatic 13, 3) := by decide +kernel
theorem dX9_rubs_11 : decode cX9_rubs 11 = .ok (.ireturn, 1) := by decide +kernel
theorem dX9_dries_0 : decode cX9_dries 0 = .ok (.aload_n 0, 1) := by decide +kernel
theorem dX9_dries_1 : decode cX9_dries 1 = .ok (.invokespecial 19, 3) := by decide +kernel
theorem dX9_dries_4 : decode cX9_dries 4 = .ok (.iconst 1, 1) := by decide +kernel
theorem dX9_dries_5 : decode cX9_dries 5 = .ok (.iadd, 1) := by decide +kernel
theorem dX9_dries_6 : decode cX9_dries 6 = .ok (.ireturn, 1) := by decide +kernel
theorem dX10_init_0 : decode cX10_init 0 = .ok (.aload_n 0, 1) := by decide +kernel
theorem dX10_init_1 : decode cX10_init 1 = .ok (.invokespecial 1, 3) := by decide +kernel
theorem dX10_init_4 : decode cX10_init 4 = .ok (.return_, 1) := by decide +kernel
theorem dX10_number_0 : decode cX10_number 0 = .ok (.iconst 0, 1) := by decide +kernel
theorem dX10_number_1 : decode cX10_number 1 = .ok (.ireturn, 1) := by decide +kernel
theorem dX10_word_0 : decode cX10_word 0 = .ok (.ldc 7, 2) := by decide +kernel
theorem dX10_word_2 : decode cX10_word 2 = .ok (.areturn, 1) := by decide +kernel
theorem dX10_rubs_0 : decode cX10_rubs 0 = .ok (.iload_n 1, 1) := by decide +kernel
theorem dX10_rubs_1 : decode cX10_rubs 1 = .ok (.ireturn, 1) := by decide +kernel
theorem dX10_shrinks_0 : decode cX10_shrinks 0 = .ok (.iconst 1, 1) := by decide +kernel
theorem dX10_shrinks_1 : decode cX10_shrinks 1 = .ok (.ireturn, 1) := by decide +kernel
theorem dX10_dries_0 : decode cX10_dries 0 = .ok (.iconst 2, 1) := by decide +kernel
theorem dX10_dries_1 : decode cX10_dries 1 = .ok (.ireturn, 1) := by decide +kernel
theorem dX11_init_0 : decode cX11_init 0 = .ok (.aload_n 0, 1) := by decide +kernel
theorem dX11_init_1 : decode cX11_init 1 = .ok (.invokespecial 1, 3) := by decide +kernel
theorem dX11_init_4 : decode cX11_init 4 = .ok (.new 7, 3) := by decide +kernel
theorem dX11_init_7 : decode cX11_init 7 = .ok (.dup, 1) := by decide +kernel
theorem dX11_init_8 : decode cX11_init 8 = .ok (.invokespecial 9, 3) := by decide +kernel
theorem dX11_init_11 : decode cX11_init 11 = .ok (.astore_n 1, 1) := by decide +kernel
theorem dX11_init_12 : decode cX11_init 12 = .ok (.aload_n 0, 1) := by decide +kernel
theorem dX11_init_13 : decode cX11_init 13 = .ok (.iconst 4, 1) := by decide +kernel
theorem dX11_init_14 : decode cX11_init 14 = .ok (.anewarray 10, 3) := by decide +kernel
theorem dX11_init_17 : decode cX11_init 17 = .ok (.dup, 1) := by decide +kernel
theorem dX11_init_18 : decode cX11_init 18 = .ok (.iconst 0, 1) := by decide +kernel
theorem dX11_init_19 : decode cX11_init 19 = .ok (.aload_n 1, 1) := by decide +kernel
theorem dX11_init_20 : decode cX11_init 20 = .ok (.aastore, 1) := by decide +kernel
theorem dX11_init_21 : decode cX11_init 21 = .ok (.dup, 1) := by decide +kernel
theorem dX11_init_22 : decode cX11_init 22 = .ok (.iconst 1, 1) := by decide +kernel
theorem dX11_init_23 : decode cX11_init 23 = .ok (.new 12, 3) := by decide +kernel
theorem dX11_init_26 : decode cX11_init 26 = .ok (.dup, 1) := by decide +kernel
theorem dX11_init_27 : decode cX11_init 27 = .ok (.invokespecial 14, 3) := by decide +kernel
theorem dX11_init_30 : decode cX11_init 30 = .ok (.aastore, 1) := by decide +kernel
theorem dX11_init_31 : decode cX11_init 31 = .ok (.dup, 1) := by decide +kernel
theorem dX11_init_32 : decode cX11_init 32 = .ok (.iconst 2, 1) := by decide +kernel
theorem dX11_init_33 : decode cX11_init 33 = .ok (.new 15, 3) := by decide +kernel
theorem dX11_init_36 : decode cX11_init 36 = .ok (.dup, 1) := by decide +kernel
theorem dX11_init_37 : decode cX11_init 37 = .ok (.invokespecial 17, 3) := by decide +kernel
theorem dX11_init_40 : decode cX11_init 40 = .ok (.aastore, 1) := by decide +kernel
theorem dX11_init_41 : decode cX11_init 41 = .ok (.dup, 1) := by decide +kernel
theorem dX11_init_42 : decode cX11_init 42 = .ok (.iconst 3, 1) := by decide +kernel
theorem dX11_init_43 : decode cX11_init 43 = .ok (.new 18, 3) := by decide +kernel
theorem dX11_init_46 : decode cX11_init 46 = .ok (.dup, 1) := by decide +kernel
theorem dX11_init_47 : decode cX11_init 47 = .ok (.invokespecial 20, 3) := by decide +kernel
theorem dX11_init_50 : decode cX11_init 50 = .ok (.aastore, 1) := by decide +kernel
theorem dX11_init_51 : decode cX11_init 51 = .ok (.putfield 21, 3) := by decide +kernel
theorem dX11_init_54 : decode cX11_init 54 = .ok (.aload_n 0, 1) := by decide +kernel
theorem dX11_init_55 : decode cX11_init 55 = .ok (.new 27, 3) := by decide +kernel
theorem dX11_init_58 : decode cX11_init 58 = .ok (.dup, 1) := by decide +kernel
theorem dX11_init_59 : decode cX11_init 59 = .ok (.invokespecial 29, 3) := by decide +kernel
theorem dX11_init_62 : decode cX11_init 62 = .ok (.putfield 30, 3) := by decide +kernel
theorem dX11_init_65 : decode cX11_init 65 = .ok (.aload_n 0, 1) := by decide +kernel
theorem dX11_init_66 : decode cX11_init 66 = .ok (.new 34, 3) := by decide +kernel
theorem dX11_init_69 : decode cX11_init 69 = .ok (.dup, 1) := by decide +kernel
theorem dX11_init_70 : decode cX11_init 70 = .ok (.aload_n 1, 1) := by decide +kernel
theorem dX11_init_71 : decode cX11_init 71 = .ok (.invokespecial 36, 3) := by decide +kernel
theorem dX11_init_74 : decode cX11_init 74 = .ok (.putfield 39, 3) := by decide +kernel
theorem dX11_init_77 : decode cX11_init 77 = .ok (.aload_n 0, 1) := by decide +kernel
theorem dX11_init_78 : decode cX11_init 78 = .ok (.new 34, 3) := by decide +kernel
theorem dX11_init_81 : decode cX11_init 81 = .ok (.dup, 1) := by decide +kernel
theorem dX11_init_82 : decode cX11_init 82 = .ok (.aload_n 1, 1) := by decide +kernel
theorem dX11_init_83 : decode cX11_init 83 = .ok (.invokespecial 36, 3) := by decide +kernel
theorem dX11_init_86 : decode cX11_init 86 = .ok (.putfield 43, 3) := by decide +kernel
theorem dX11_init_89 : decode cX11_init 89 = .ok (.aload_n 0, 1) := by decide +kernel
theorem dX11_init_90 : decode cX11_init 90 = .ok (.new 34, 3) := by decide +kernel
theorem dX11_init_93 : decode cX11_init 93 = .ok (.dup, 1) := by decide +kernel
theorem dX11_init_94 : decode cX11_init 94 = .ok (.aload_n 1, 1) := by decide +kernel
theorem dX11_init_95 : decode cX11_init 95 = .ok (.invokespecial 36, 3) := by decide +kernel
theorem dX11_init_98 : decode cX11_init 98 = .ok (.putfield 46, 3) := by decide +kernel
theorem dX11_init_101 : decode cX11_init 101 = .ok (.aload_n 0, 1) := by decide +kernel
theorem dX11_init_102 : decode cX11_init 102 = .ok (.new 34, 3) := by decide +kernel
theorem dX11_init_105 : decode cX11_init 105 = .ok (.dup, 1) := by decide +kernel
theorem dX11_init_106 : decode cX11_init 106 = .ok (.aload_n 1, 1) := by decide +kernel
theorem dX11_init_107 : decode cX11_init 107 = .ok (.invokespecial 36, 3) := by decide +kernel
theorem dX11_init_110 : decode cX11_init 110 = .ok (.putfield 49, 3) := by decide +kernel
theorem dX11_init_113 : decode cX11_init 113 = .ok (.aload_n 0, 1) := by decide +kernel
theorem dX11_init_114 : decode cX11_init 114 = .ok (.new 52, 3) := by decide +kernel
theorem dX11_init_117 : decode cX11_init 117 = .ok (.dup, 1) := by decide +kernel
theorem dX11_init_118 : decode cX11_init 118 = .ok (.aload_n 0, 1) := by decide +kernel
theorem dX11_init_119 : decode cX11_init 119 = .ok (.getfield 30, 3) := by decide +kernel
theorem dX11_init_122 : decode cX11_init 122 = .ok (.aload_n 0, 1) := by decide +kernel
theorem dX11_init_123 : decode cX11_init 123 = .ok (.getfield 43, 3) := by decide +kernel
theorem dX11_init_126 : decode cX11_init 126 = .ok (.aload_n 0, 1) := by decide +kernel
theorem dX11_init_127 : decode cX11_init 127 = .ok (.getfield 21, 3) := by decide +kernel
theorem dX11_init_130 : decode cX11_init 130 = .ok (.invokespecial 54, 3) := by decide +kernel
theorem dX11_init_133 : decode cX11_init 133 = .ok (.putfield 57, 3) := by decide +kernel
theorem dX11_init_136 : decode cX11_init 136 = .ok (.aload_n 0, 1) := by decide +kernel
theorem dX11_init_137 : decode cX11_init 137 = .ok (.new 61, 3) := by decide +kernel
theorem dX11_init_140 : decode cX11_init 140 = .ok (.dup, 1) := by decide +kernel
theorem dX11_init_141 : decode cX11_init 141 = .ok (.aload_n 0, 1) := by decide +kernel
theorem dX11_init_142 : decode cX11_init 142 = .ok (.getfield 46, 3) := by decide +kernel
theorem dX11_init_145 : decode cX11_init 145 = .ok (.invokespecial 63, 3) := by decide +kernel
theorem dX11_init_148 : decode cX11_init 148 = .ok (.putfield 66, 3) := by decide +kernel
theorem dX11_init_151 : decode cX11_init 151 = .ok (.aload_n 0, 1) := by decide +kernel
theorem dX11_init_152 : decode cX11_init 152 = .ok (.bipush 7, 2) := by decide +kernel
theorem dX11_init_154 : decode cX11_init 154 = .ok (.newarray .int, 2) := by decide +kernel
theorem dX11_init_156 : decode cX11_init 156 = .ok (.putfield 70, 3) := by decide +kernel
theorem dX11_init_159 : decode cX11_init 159 = .ok (.aload_n 0, 1) := by decide +kernel
theorem dX11_init_160 : decode cX11_init 160 = .ok (.bipush 8, 2) := by decide +kernel
theorem dX11_init_162 : decode cX11_init 162 = .ok (.anewarray 34, 3) := by decide +kernel
theorem dX11_init_165 : decode cX11_init 165 = .ok (.putfield 74, 3) := by decide +kernel
theorem dX11_init_168 : decode cX11_init 168 = .ok (.iconst 0, 1) := by decide +kernel
theorem dX11_init_169 : decode cX11_init 169 = .ok (.istore_n 2, 1) := by decide +kernel
theorem dX11_init_170 : decode cX11_init 170 = .ok (.iload_n 2, 1) := by decide +kernel
theorem dX11_init_171 : decode cX11_init 171 = .ok (.bipush 8, 2) := by decide +kernel
theorem dX11_init_173 : decode cX11_init 173 = .ok (.if_icmp .ge 23, 3) := by decide +kernel
theorem dX11_init_176 : decode cX11_init 176 = .ok (.aload_n 0, 1) := by decide +kernel
theorem dX11_init_177 : decode cX11_init 177 = .ok (.getfield 74, 3) := by decide +kernel
theorem dX11_init_180 : decode cX11_init 180 = .ok (.iload_n 2, 1) := by decide +kernel
theorem dX11_init_181 : decode cX11_init 181 = .ok (.new 34, 3) := by decide +kernel
theorem dX11_init_184 : decode cX11_init 184 = .ok (.dup, 1) := by decide +kernel
theorem dX11_init_185 : decode cX11_init 185 = .ok (.aload_n 1, 1) := by decide +kernel
theorem dX11_init_186 : decode cX11_init 186 = .ok (.invokespecial 36, 3) := by decide +kernel
theorem dX11_init_189 : decode cX11_init 189 = .ok (.aastore, 1) := by decide +kernel
theorem dX11_init_190 : decode cX11_init 190 = .ok (.iinc 2 1, 3) := by decide +kernel
theorem dX11_init_193 : decode cX11_init 193 = .ok (.goto (-23), 3) := by decide +kernel
theorem dX11_init_196 : decode cX11_init 196 = .ok (.aload_n 0, 1) := by decide +kernel
theorem dX11_init_197 : decode cX11_init 197 = .ok (.iconst 2, 1) := by decide +kernel
theorem dX11_init_198 : decode cX11_init 198 = .ok (.anewarray 34, 3) := by decide +kernel
theorem dX11_init_201 : decode cX11_init 201 = .ok (.putfield 78, 3) := by decide +kernel
theorem dX11_init_204 : decode cX11_init 204 = .ok (.aload_n 0, 1) := by decide +kernel
theorem dX11_init_205 : decode cX11_init 205 = .ok (.iconst 2, 1) := by decide +kernel
theorem dX11_init_206 : decode cX11_init 206 = .ok (.anewarray 27, 3) := by decide +kernel
theorem dX11_init_209 : decode cX11_init 209 = .ok (.putfield 81, 3) := by decide +kernel
theorem dX11_init_212 : decode cX11_init 212 = .ok (.aload_n 0, 1) := by decide +kernel
theorem dX11_init_213 : decode cX11_init 213 = .ok (.iconst 2, 1) := by decide +kernel
theorem dX11_init_214 : decode cX11_init 214 = .ok (.newarray .boolean, 2) := by decide +kernel
theorem dX11_init_216 : decode cX11_init 216 = .ok (.putfield 85, 3) := by decide +kernel
theorem dX11_init_219 : decode cX11_init 219 = .ok (.iconst 0, 1) := by decide +kernel
theorem dX11_init_220 : decode cX11_init 220 = .ok (.istore_n 2, 1) := by decide +kernel
theorem dX11_init_221 : decode cX11_init 221 = .ok (.iload_n 2, 1) := by decide +kernel
theorem dX11_init_222 : decode cX11_init 222 = .ok (.iconst 2, 1) := by decide +kernel
theorem dX11_init_223 : decode cX11_init 223 = .ok (.if_icmp .ge 36, 3) := by decide +kernel
theorem dX11_init_226 : decode cX11_init 226 = .ok (.aload_n 0, 1) := by decide +kernel
theorem dX11_init_227 : decode cX11_init 227 = .ok (.getfield 78, 3) := by decide +kernel
theorem dX11_init_230 : decode cX11_init 230 = .ok (.iload_n 2, 1) := by decide +kernel
theorem dX11_init_231 : decode cX11_init 231 = .ok (.new 34, 3) := by decide +kernel
theorem dX11_init_234 : decode cX11_init 234 = .ok (.dup, 1) := by decide +kernel
theorem dX11_init_235 : decode cX11_init 235 = .ok (.aload_n 1, 1) := by decide +kernel
theorem dX11_init_236 : decode cX11_init 236 = .ok (.invokespecial 36, 3) := by decide +kernel
theorem dX11_init_239 : decode cX11_init 239 = .ok (.aastore, 1) := by decide +kernel
theorem dX11_init_240 : decode cX11_init 240 = .ok (.aload_n 0, 1) := by decide +kernel
theorem dX11_init_241 : decode cX11_init 241 = .ok (.getfield 81, 3) := by decide +kernel
theorem dX11_init_244 : decode cX11_init 244 = .ok (.iload_n 2, 1) := by decide +kernel
theorem dX11_init_245 : decode cX11_init 245 = .ok (.new 27, 3) := by decide +kernel
theorem dX11_init_248 : decode cX11_init 248 = .ok (.dup, 1) := by decide +kernel
theorem dX11_init_249 : decode cX11_init 249 = .ok (.invokespecial 29, 3) := by decide +kernel
theorem dX11_init_252 : decode cX11_init 252 = .ok (.aastore, 1) := by decide +kernel
theorem dX11_init_253 : decode cX11_init 253 = .ok (.iinc 2 1, 3) := by decide +kernel
theorem dX11_init_256 : decode cX11_init 256 = .ok (.goto (-35), 3) := by decide +kernel
theorem dX11_init_259 : decode cX11_init 259 = .ok (.aload_n 0, 1) := by decide +kernel
theorem dX11_init_260 : decode cX11_init 260 = .ok (.bipush 6, 2) := by decide +kernel
theorem dX11_init_262 : decode cX11_init 262 = .ok (.newarray .int, 2) := by decide +kernel
theorem dX11_init_264 : decode cX11_init 264 = .ok (.putfield 89, 3) := by decide +kernel
theorem dX11_init_267 : decode cX11_init 267 = .ok (.aload_n 0, 1) := by decide +kernel
theorem dX11_init_268 : decode cX11_init 268 = .ok (.bipush 6, 2) := by decide +kernel
theorem dX11_init_270 : decode cX11_init 270 = .ok (.newarray .int, 2) := by decide +kernel
theorem dX11_init_272 : decode cX11_init 272 = .ok (.putfield 92, 3) := by decide +kernel
theorem dX11_init_275 : decode cX11_init 275 = .ok (.aload_n 0, 1) := by decide +kernel
theorem dX11_init_276 : decode cX11_init 276 = .ok (.bipush 6, 2) := by decide +kernel
theorem dX11_init_278 : decode cX11_init 278 = .ok (.newarray .int, 2) := by decide +kernel
theorem dX11_init_280 : decode cX11_init 280 = .ok (.putfield 95, 3) := by decide +kernel
theorem dX11_init_283 : decode cX11_init 283 = .ok (.aload_n 0, 1) := by decide +kernel
theorem dX11_init_284 : decode cX11_init 284 = .ok (.iconst 3, 1) := by decide +kernel
theorem dX11_init_285 : decode cX11_init 285 = .ok (.anewarray 98, 3) := by decide +kernel
theorem dX11_init_288 : decode cX11_init 288 = .ok (.putfield 100, 3) := by decide +kernel
theorem dX11_init_291 : decode cX11_init 291 = .ok (.iconst 0, 1) := by decide +kernel
theorem dX11_init_292 : decode cX11_init 292 = .ok (.istore_n 2, 1) := by decide +kernel
theorem dX11_init_293 : decode cX11_init 293 = .ok (.iload_n 2, 1) := by decide +kernel
theorem dX11_init_294 : decode cX11_init 294 = .ok (.iconst 3, 1) := by decide +kernel
theorem dX11_init_295 : decode cX11_init 295 = .ok (.if_icmp .ge 22, 3) := by decide +kernel
theorem dX11_init_298 : decode cX11_init 298 = .ok (.aload_n 0, 1) := by decide +kernel
theorem dX11_init_299 : decode cX11_init 299 = .ok (.getfield 100, 3) := by decide +kernel
theorem dX11_init_302 : decode cX11_init 302 = .ok (.iload_n 2, 1) := by decide +kernel
theorem dX11_init_303 : decode cX11_init 303 = .ok (.new 98, 3) := by decide +kernel
theorem dX11_init_306 : decode cX11_init 306 = .ok (.dup, 1) := by decide +kernel
theorem dX11_init_307 : decode cX11_init 307 = .ok (.invokespecial 104, 3) := by decide +kernel
theorem dX11_init_310 : decode cX11_init 310 = .ok (.aastore, 1) := by decide +kernel
theorem dX11_init_311 : decode cX11_init 311 = .ok (.iinc 2 1, 3) := by decide +kernel
theorem dX11_init_314 : decode cX11_init 314 = .ok (.goto (-21), 3) := by decide +kernel
theorem dX11_init_317 : decode cX11_init 317 = .ok (.aload_n 0, 1) := by decide +kernel
theorem dX11_init_318 : decode cX11_init 318 = .ok (.new 98, 3) := by decide +kernel
theorem dX11_init_321 : decode cX11_init 321 = .ok (.dup, 1) := by decide +kernel
theorem dX11_init_322 : decode cX11_init 322 = .ok (.invokespecial 104, 3) := by decide +kernel
theorem dX11_init_325 : decode cX11_init 325 = .ok (.putfield 105, 3) := by decide +kernel
theorem dX11_init_328 : decode cX11_init 328 = .ok (.return_, 1) := by decide +kernel
theorem dX11_write_0 : decode cX11_write 0 = .ok (.iload_n 1, 1) := by decide +kernel
theorem dX11_write_1 : decode cX11_write 1 = .ok (.ifCond .lt 10, 3) := by decide +kernel
theorem dX11_write_4 : decode cX11_write 4 = .ok (.iload_n 1, 1) := by decide +kernel
theorem dX11_write_5 : decode cX11_write 5 = .ok (.sipush 255, 3) := by decide +kernel
theorem dX11_write_8 : decode cX11_write 8 = .ok (.if_icmp .le 6, 3) := by decide +kernel
theorem dX11_write_11 : decode cX11_write 11 = .ok (.bipush (-3), 2) := by decide +kernel
theorem dX11_write_13 : decode cX11_write 13 = .ok (.ireturn, 1) := by decide +kernel
theorem dX11_write_14 : decode cX11_write 14 = .ok (.aload_n 0, 1) := by decide +kernel
theorem dX11_write_15 : decode cX11_write 15 = .ok (.getfield 30, 3) := by decide +kernel
theorem dX11_write_18 : decode cX11_write 18 = .ok (.iload_n 1, 1) := by decide +kernel
theorem dX11_write_19 : decode cX11_write 19 = .ok (.i2c, 1) := by decide +kernel
theorem dX11_write_20 : decode cX11_write 20 = .ok (.invokevirtual 109, 3) := by decide +kernel
theorem dX11_write_23 : decode cX11_write 23 = .ok (.ifCond .eq 13, 3) := by decide +kernel
theorem dX11_write_26 : decode cX11_write 26 = .ok (.aload_n 0, 1) := by decide +kernel
theorem dX11_write_27 : decode cX11_write 27 = .ok (.getfield 30, 3) := by decide +kernel
theorem dX11_write_30 : decode cX11_write 30 = .ok (.getfield 113, 3) := by decide +kernel
theorem dX11_write_33 : decode cX11_write 33 = .ok (.goto 5, 3) := by decide +kernel
theorem dX11_write_36 : decode cX11_write 36 = .ok (.bipush (-5), 2) := by decide +kernel
theorem dX11_write_38 : decode cX11_write 38 = .ok (.ireturn, 1) := by decide +kernel
theorem dX11_erase_0 : decode cX11_erase 0 = .ok (.aload_n 0, 1) := by decide +kernel
theorem dX11_erase_1 : decode cX11_erase 1 = .ok (.getfield 30, 3) := by decide +kernel
theorem dX11_erase_4 : decode cX11_erase 4 = .ok (.getfield 113, 3) := by decide +kernel
theorem dX11_erase_7 : decode cX11_erase 7 = .ok (.istore_n 1, 1) := by decide +kernel
theorem dX11_erase_8 : decode cX11_erase 8 = .ok (.aload_n 0, 1) := by decide +kernel
theorem dX11_erase_9 : decode cX11_erase 9 = .ok (.getfield 30, 3) := by decide +kernel
theorem dX11_erase_12 : decode cX11_erase 12 = .ok (.iconst 0, 1) := by decide +kernel
theorem dX11_erase_13 : decode cX11_erase 13 = .ok (.putfield 113, 3) := by decide +kernel
theorem dX11_erase_16 : decode cX11_erase 16 = .ok (.iload_n 1, 1) := by decide +kernel
theorem dX11_erase_17 : decode cX11_erase 17 = .ok (.ireturn, 1) := by decide +kernel
theorem dX11_fault_0 : decode cX11_fault 0 = .ok (.aload_n 0, 1) := by decide +kernel
theorem dX11_fault_1 : decode cX11_fault 1 = .ok (.getfield 57, 3) := by decide +kernel
theorem dX11_fault_4 : decode cX11_fault 4 = .ok (.aload_n 0, 1) := by decide +kernel
theorem dX11_fault_5 : decode cX11_fault 5 = .ok (.getfield 39, 3) := by decide +kernel
theorem dX11_fault_8 : decode cX11_fault 8 = .ok (.invokevirtual 117, 3) := by decide +kernel
theorem dX11_fault_11 : decode cX11_fault 11 = .ok (.ireturn, 1) := by decide +kernel
theorem dX11_summer_0 : decode cX11_summer 0 = .ok (.aload_n 0, 1) := by decide +kernel
theorem dX11_summer_1 : decode cX11_summer 1 = .ok (.getfield 57, 3) := by decide +kernel
theorem dX11_summer_4 : decode cX11_summer 4 = .ok (.aload_n 0, 1) := by decide +kernel
theorem dX11_summer_5 : decode cX11_summer 5 = .ok (.getfield 39, 3) := by decide +kernel
theorem dX11_summer_8 : decode cX11_summer 8 = .ok (.invokevirtual 117, 3) := by decide +kernel
theorem dX11_summer_11 : decode cX11_summer 11 = .ok (.iconst (-1), 1) := by decide +kernel
theorem dX11_summer_12 : decode cX11_summer 12 = .ok (.if_icmp .eq 6, 3) := by decide +kernel
theorem dX11_summer_15 : decode cX11_summer 15 = .ok (.bipush (-4), 2) := by decide +kernel
theorem dX11_summer_17 : decode cX11_summer 17 = .ok (.ireturn, 1) := by decide +kernel
theorem dX11_summer_18 : decode cX11_summer 18 = .ok (.aload_n 0, 1) := by decide +kernel
theorem dX11_summer_19 : decode cX11_summer 19 = .ok (.getfield 39, 3) := by decide +kernel
theorem dX11_summer_22 : decode cX11_summer 22 = .ok (.aload_n 0, 1) := by decide +kernel
theorem dX11_summer_23 : decode cX11_summer 23 = .ok (.getfield 43, 3) := by decide +kernel
theorem dX11_summer_26 : decode cX11_summer 26 = .ok (.invokevirtual 121, 3) := by decide +kernel
theorem dX11_summer_29 : decode cX11_summer 29 = .ok (.aload_n 0, 1) := by decide +kernel
theorem dX11_summer_30 : decode cX11_summer 30 = .ok (.getfield 46, 3) := by decide +kernel
theorem dX11_summer_33 : decode cX11_summer 33 = .ok (.aload_n 0, 1) := by decide +kernel
theorem dX11_summer_34 : decode cX11_summer 34 = .ok (.getfield 39, 3) := by decide +kernel
theorem dX11_summer_37 : decode cX11_summer 37 = .ok (.invokevirtual 121, 3) := by decide +kernel
theorem dX11_summer_40 : decode cX11_summer 40 = .ok (.aload_n 0, 1) := by decide +kernel
theorem dX11_summer_41 : decode cX11_summer 41 = .ok (.getfield 30, 3) := by decide +kernel
theorem dX11_summer_44 : decode cX11_summer 44 = .ok (.iconst 0, 1) := by decide +kernel
theorem dX11_summer_45 : decode cX11_summer 45 = .ok (.putfield 113, 3) := by decide +kernel
theorem dX11_summer_48 : decode cX11_summer 48 = .ok (.iconst 0, 1) := by decide +kernel
theorem dX11_summer_49 : decode cX11_summer 49 = .ok (.istore_n 1, 1) := by decide +kernel
theorem dX11_summer_50 : decode cX11_summer 50 = .ok (.iload_n 1, 1) := by decide +kernel
theorem dX11_summer_51 : decode cX11_summer 51 = .ok (.iconst 3, 1) := by decide +kernel
theorem dX11_summer_52 : decode cX11_summer 52 = .ok (.if_icmp .ge 19, 3) := by decide +kernel
theorem dX11_summer_55 : decode cX11_summer 55 = .ok (.aload_n 0, 1) := by decide +kernel
theorem dX11_summer_56 : decode cX11_summer 56 = .ok (.getfield 100, 3) := by decide +kernel
theorem dX11_summer_59 : decode cX11_summer 59 = .ok (.iload_n 1, 1) := by decide +kernel
theorem dX11_summer_60 : decode cX11_summer 60 = .ok (.aaload, 1) := by decide +kernel
theorem dX11_summer_61 : decode cX11_summer 61 = .ok (.iconst 0, 1) := by decide +kernel
theorem dX11_summer_62 : decode cX11_summer 62 = .ok (.putfield 124, 3) := by decide +kernel
theorem dX11_summer_65 : decode cX11_summer 65 = .ok (.iinc 1 1, 3) := by decide +kernel
theorem dX11_summer_68 : decode cX11_summer 68 = .ok (.goto (-18), 3) := by decide +kernel
theorem dX11_summer_71 : decode cX11_summer 71 = .ok (.iconst 0, 1) := by decide +kernel
theorem dX11_summer_72 : decode cX11_summer 72 = .ok (.istore_n 1, 1) := by decide +kernel
theorem dX11_summer_73 : decode cX11_summer 73 = .ok (.iload_n 1, 1) := by decide +kernel
theorem dX11_summer_74 : decode cX11_summer 74 = .ok (.iconst 2, 1) := by decide +kernel
theorem dX11_summer_75 : decode cX11_summer 75 = .ok (.if_icmp .ge 16, 3) := by decide +kernel
theorem dX11_summer_78 : decode cX11_summer 78 = .ok (.aload_n 0, 1) := by decide +kernel
theorem dX11_summer_79 : decode cX11_summer 79 = .ok (.getfield 85, 3) := by decide +kernel
theorem dX11_summer_82 : decode cX11_summer 82 = .ok (.iload_n 1, 1) := by decide +kernel
theorem dX11_summer_83 : decode cX11_summer 83 = .ok (.iconst 0, 1) := by decide +kernel
theorem dX11_summer_84 : decode cX11_summer 84 = .ok (.bastore, 1) := by decide +kernel
theorem dX11_summer_85 : decode cX11_summer 85 = .ok (.iinc 1 1, 3) := by decide +kernel
theorem dX11_summer_88 : decode cX11_summer 88 = .ok (.goto (-15), 3) := by decide +kernel
theorem dX11_summer_91 : decode cX11_summer 91 = .ok (.aload_n 0, 1) := by decide +kernel
theorem dX11_summer_92 : decode cX11_summer 92 = .ok (.iconst 0, 1) := by decide +kernel
theorem dX11_summer_93 : decode cX11_summer 93 = .ok (.putfield 128, 3) := by decide +kernel
theorem dX11_summer_96 : decode cX11_summer 96 = .ok (.aload_n 0, 1) := by decide +kernel
theorem dX11_summer_97 : decode cX11_summer 97 = .ok (.iconst 0, 1) := by decide +kernel
theorem dX11_summer_98 : decode cX11_summer 98 = .ok (.putfield 131, 3) := by decide +kernel
theorem dX11_summer_101 : decode cX11_summer 101 = .ok (.aload_n 0, 1) := by decide +kernel
theorem dX11_summer_102 : decode cX11_summer 102 = .ok (.getfield 57, 3) := by decide +kernel
theorem dX11_summer_105 : decode cX11_summer 105 = .ok (.getfield 134, 3) := by decide +kernel
theorem dX11_summer_108 : decode cX11_summer 108 = .ok (.ireturn, 1) := by decide +kernel
theorem dX11_cloud_0 : decode cX11_cloud 0 = .ok (.aload_n 0, 1) := by decide +kernel
theorem dX11_cloud_1 : decode cX11_cloud 1 = .ok (.getfield 46, 3) := by decide +kernel
theorem dX11_cloud_4 : decode cX11_cloud 4 = .ok (.iload_n 1, 1) := by decide +kernel
theorem dX11_cloud_5 : decode cX11_cloud 5 = .ok (.invokevirtual 137, 3) := by decide +kernel
theorem dX11_cloud_8 : decode cX11_cloud 8 = .ok (.astore_n 3, 1) := by decide +kernel
theorem dX11_cloud_9 : decode cX11_cloud 9 = .ok (.aload_n 3, 1) := by decide +kernel
theorem dX11_cloud_10 : decode cX11_cloud 10 = .ok (.ifnonnull 6, 3) := by decide +kernel
theorem dX11_cloud_13 : decode cX11_cloud 13 = .ok (.bipush (-2), 2) := by decide +kernel
theorem dX11_cloud_15 : decode cX11_cloud 15 = .ok (.ireturn, 1) := by decide +kernel
theorem dX11_cloud_16 : decode cX11_cloud 16 = .ok (.iload_n 2, 1) := by decide +kernel
theorem dX11_cloud_17 : decode cX11_cloud 17 = .ok (.tableswitch 110 0 7 #[47, 55, 60, 65, 70, 79, 84, 97], 47) := by decide +kernel
theorem dX11_cloud_64 : decode cX11_cloud 64 = .ok (.aload_n 3, 1) := by decide +kernel
theorem dX11_cloud_65 : decode cX11_cloud 65 = .ok (.getfield 141, 3) := by decide +kernel
theorem dX11_cloud_68 : decode cX11_cloud 68 = .ok (.invokevirtual 147, 3) := by decide +kernel
theorem dX11_cloud_71 : decode cX11_cloud 71 = .ok (.ireturn, 1) := by decide +kernel
theorem dX11_cloud_72 : decode cX11_cloud 72 = .ok (.aload_n 3, 1) := by decide +kernel
theorem dX11_cloud_73 : decode cX11_cloud 73 = .ok (.getfield 151, 3) := by decide +kernel
theorem dX11_cloud_76 : decode cX11_cloud 76 = .ok (.ireturn, 1) := by decide +kernel
theorem dX11_cloud_77 : decode cX11_cloud 77 = .ok (.aload_n 3, 1) := by decide +kernel
theorem dX11_cloud_78 : decode cX11_cloud 78 = .ok (.getfield 154, 3) := by decide +kernel
theorem dX11_cloud_81 : decode cX11_cloud 81 = .ok (.ireturn, 1) := by decide +kernel
theorem dX11_cloud_82 : decode cX11_cloud 82 = .ok (.aload_n 3, 1) := by decide +kernel
theorem dX11_cloud_83 : decode cX11_cloud 83 = .ok (.getfield 157, 3) := by decide +kernel
theorem dX11_cloud_86 : decode cX11_cloud 86 = .ok (.ireturn, 1) := by decide +kernel
theorem dX11_cloud_87 : decode cX11_cloud 87 = .ok (.aload_n 0, 1) := by decide +kernel
theorem dX11_cloud_88 : decode cX11_cloud 88 = .ok (.getfield 46, 3) := by decide +kernel
theorem dX11_cloud_91 : decode cX11_cloud 91 = .ok (.iload_n 1, 1) := by decide +kernel
theorem dX11_cloud_92 : decode cX11_cloud 92 = .ok (.invokevirtual 160, 3) := by decide +kernel
theorem dX11_cloud_95 : decode cX11_cloud 95 = .ok (.ireturn, 1) := by decide +kernel
theorem dX11_cloud_96 : decode cX11_cloud 96 = .ok (.aload_n 3, 1) := by decide +kernel
theorem dX11_cloud_97 : decode cX11_cloud 97 = .ok (.getfield 164, 3) := by decide +kernel
theorem dX11_cloud_100 : decode cX11_cloud 100 = .ok (.ireturn, 1) := by decide +kernel
theorem dX11_cloud_101 : decode cX11_cloud 101 = .ok (.aload_n 3, 1) := by decide +kernel
theorem dX11_cloud_102 : decode cX11_cloud 102 = .ok (.invokevirtual 167, 3) := by decide +kernel
theorem dX11_cloud_105 : decode cX11_cloud 105 = .ok (.ifCond .eq 7, 3) := by decide +kernel
theorem dX11_cloud_108 : decode cX11_cloud 108 = .ok (.iconst 1, 1) := by decide +kernel
theorem dX11_cloud_109 : decode cX11_cloud 109 = .ok (.goto 4, 3) := by decide +kernel
theorem dX11_cloud_112 : decode cX11_cloud 112 = .ok (.iconst 0, 1) := by decide +kernel
theorem dX11_cloud_113 : decode cX11_cloud 113 = .ok (.ireturn, 1) := by decide +kernel
theorem dX11_cloud_114 : decode cX11_cloud 114 = .ok (.aload_n 3, 1) := by decide +kernel
theorem dX11_cloud_115 : decode cX11_cloud 115 = .ok (.invokevirtual 171, 3) := by decide +kernel
theorem dX11_cloud_118 : decode cX11_cloud 118 = .ok (.ifCond .eq 7, 3) := by decide +kernel
theorem dX11_cloud_121 : decode cX11_cloud 121 = .ok (.iconst 1, 1) := by decide +kernel
theorem dX11_cloud_122 : decode cX11_cloud 122 = .ok (.goto 4, 3) := by decide +kernel
theorem dX11_cloud_125 : decode cX11_cloud 125 = .ok (.iconst 0, 1) := by decide +kernel
theorem dX11_cloud_126 : decode cX11_cloud 126 = .ok (.ireturn, 1) := by decide +kernel
theorem dX11_cloud_127 : decode cX11_cloud 127 = .ok (.bipush (-3), 2) := by decide +kernel
theorem dX11_cloud_129 : decode cX11_cloud 129 = .ok (.ireturn, 1) := by decide +kernel
theorem dX11_deep_0 : decode cX11_deep 0 = .ok (.aload_n 0, 1) := by decide +kernel
theorem dX11_deep_1 : decode cX11_deep 1 = .ok (.getfield 46, 3) := by decide +kernel
theorem dX11_deep_4 : decode cX11_deep 4 = .ok (.iload_n 1, 1) := by decide +kernel
theorem dX11_deep_5 : decode cX11_deep 5 = .ok (.invokevirtual 137, 3) := by decide +kernel
theorem dX11_deep_8 : decode cX11_deep 8 = .ok (.astore_n 3, 1) := by decide +kernel
theorem dX11_deep_9 : decode cX11_deep 9 = .ok (.aload_n 3, 1) := by decide +kernel
theorem dX11_deep_10 : decode cX11_deep 10 = .ok (.ifnull 13, 3) := by decide +kernel
theorem dX11_deep_13 : decode cX11_deep 13 = .ok (.iload_n 2, 1) := by decide +kernel
theorem dX11_deep_14 : decode cX11_deep 14 = .ok (.ifCond .lt 9, 3) := by decide +kernel
theorem dX11_deep_17 : decode cX11_deep 17 = .ok (.iload_n 2, 1) := by decide +kernel
theorem dX11_deep_18 : decode cX11_deep 18 = .ok (.bipush 6, 2) := by decide +kernel
theorem dX11_deep_20 : decode cX11_deep 20 = .ok (.if_icmp .lt 6, 3) := by decide +kernel
theorem dX11_deep_23 : decode cX11_deep 23 = .ok (.bipush (-2), 2) := by decide +kernel
theorem dX11_deep_25 : decode cX11_deep 25 = .ok (.ireturn, 1) := by decide +kernel
theorem dX11_deep_26 : decode cX11_deep 26 = .ok (.aload_n 3, 1) := by decide +kernel
theorem dX11_deep_27 : decode cX11_deep 27 = .ok (.getfield 174, 3) := by decide +kernel
theorem dX11_deep_30 : decode cX11_deep 30 = .ok (.iload_n 2, 1) := by decide +kernel
theorem dX11_deep_31 : decode cX11_deep 31 = .ok (.iaload, 1) := by decide +kernel
theorem dX11_deep_32 : decode cX11_deep 32 = .ok (.ireturn, 1) := by decide +kernel
theorem dX11_washer_0 : decode cX11_washer 0 = .ok (.aload_n 0, 1) := by decide +kernel
theorem dX11_washer_1 : decode cX11_washer 1 = .ok (.getfield 46, 3) := by decide +kernel
theorem dX11_washer_4 : decode cX11_washer 4 = .ok (.iload_n 1, 1) := by decide +kernel
theorem dX11_washer_5 : decode cX11_washer 5 = .ok (.invokevirtual 177, 3) := by decide +kernel
theorem dX11_washer_8 : decode cX11_washer 8 = .ok (.ifCond .ne 6, 3) := by decide +kernel
theorem dX11_washer_11 : decode cX11_washer 11 = .ok (.bipush (-2), 2) := by decide +kernel
theorem dX11_washer_13 : decode cX11_washer 13 = .ok (.ireturn, 1) := by decide +kernel
theorem dX11_washer_14 : decode cX11_washer 14 = .ok (.iload_n 2, 1) := by decide +kernel
theorem dX11_washer_15 : decode cX11_washer 15 = .ok (.lookupswitch 45 #[(0, 25), (1, 35)], 25) := by decide +kernel
theorem dX11_washer_40 : decode cX11_washer 40 = .ok (.aload_n 0, 1) := by decide +kernel
theorem dX11_washer_41 : decode cX11_washer 41 = .ok (.getfield 46, 3) := by decide +kernel
theorem dX11_washer_44 : decode cX11_washer 44 = .ok (.getfield 181, 3) := by decide +kernel
theorem dX11_washer_47 : decode cX11_washer 47 = .ok (.iload_n 1, 1) := by decide +kernel
theorem dX11_washer_48 : decode cX11_washer 48 = .ok (.iaload, 1) := by decide +kernel
theorem dX11_washer_49 : decode cX11_washer 49 = .ok (.ireturn, 1) := by decide +kernel
theorem dX11_washer_50 : decode cX11_washer 50 = .ok (.aload_n 0, 1) := by decide +kernel
theorem dX11_washer_51 : decode cX11_washer 51 = .ok (.getfield 46, 3) := by decide +kernel
theorem dX11_washer_54 : decode cX11_washer 54 = .ok (.getfield 184, 3) := by decide +kernel
theorem dX11_washer_57 : decode cX11_washer 57 = .ok (.iload_n 1, 1) := by decide +kernel
theorem dX11_washer_58 : decode cX11_washer 58 = .ok (.iaload, 1) := by decide +kernel
theorem dX11_washer_59 : decode cX11_washer 59 = .ok (.ireturn, 1) := by decide +kernel
theorem dX11_washer_60 : decode cX11_washer 60 = .ok (.bipush (-3), 2) := by decide +kernel
theorem dX11_washer_62 : decode cX11_washer 62 = .ok (.ireturn, 1) := by decide +kernel
theorem dX11_water_0 : decode cX11_water 0 = .ok (.iload_n 1, 1) := by decide +kernel
theorem dX11_water_1 : decode cX11_water 1 = .ok (.ifCond .lt 19, 3) := by decide +kernel
theorem dX11_water_4 : decode cX11_water 4 = .ok (.iload_n 1, 1) := by decide +kernel
theorem dX11_water_5 : decode cX11_water 5 = .ok (.bipush 7, 2) := by decide +kernel
theorem dX11_water_7 : decode cX11_water 7 = .ok (.if_icmp .ge 13, 3) := by decide +kernel
theorem dX11_water_10 : decode cX11_water 10 = .ok (.iload_n 2, 1) := by decide +kernel
theorem dX11_water_11 : decode cX11_water 11 = .ok (.ifCond .lt 9, 3) := by decide +kernel
theorem dX11_water_14 : decode cX11_water 14 = .ok (.iload_n 2, 1) := by decide +kernel
theorem dX11_water_15 : decode cX11_water 15 = .ok (.bipush 6, 2) := by decide +kernel
theorem dX11_water_17 : decode cX11_water 17 = .ok (.if_icmp .lt 6, 3) := by decide +kernel
theorem dX11_water_20 : decode cX11_water 20 = .ok (.bipush (-2), 2) := by decide +kernel
theorem dX11_water_22 : decode cX11_water 22 = .ok (.ireturn, 1) := by decide +kernel
theorem dX11_water_23 : decode cX11_water 23 = .ok (.aload_n 0, 1) := by decide +kernel
theorem dX11_water_24 : decode cX11_water 24 = .ok (.getfield 46, 3) := by decide +kernel
theorem dX11_water_27 : decode cX11_water 27 = .ok (.getfield 187, 3) := by decide +kernel
theorem dX11_water_30 : decode cX11_water 30 = .ok (.iload_n 1, 1) := by decide +kernel
theorem dX11_water_31 : decode cX11_water 31 = .ok (.aaload, 1) := by decide +kernel
theorem dX11_water_32 : decode cX11_water 32 = .ok (.iload_n 2, 1) := by decide +kernel
theorem dX11_water_33 : decode cX11_water 33 = .ok (.iaload, 1) := by decide +kernel
theorem dX11_water_34 : decode cX11_water 34 = .ok (.ireturn, 1) := by decide +kernel
theorem dX11_as_0 : decode cX11_as 0 = .ok (.aload_n 0, 1) := by decide +kernel
theorem dX11_as_1 : decode cX11_as 1 = .ok (.getfield 46, 3) := by decide +kernel
theorem dX11_as_4 : decode cX11_as 4 = .ok (.iload_n 1, 1) := by decide +kernel
theorem dX11_as_5 : decode cX11_as 5 = .ok (.invokevirtual 137, 3) := by decide +kernel
theorem dX11_as_8 : decode cX11_as 8 = .ok (.astore_n 3, 1) := by decide +kernel
theorem dX11_as_9 : decode cX11_as 9 = .ok (.aload_n 3, 1) := by decide +kernel
theorem dX11_as_10 : decode cX11_as 10 = .ok (.ifnonnull 6, 3) := by decide +kernel
theorem dX11_as_13 : decode cX11_as 13 = .ok (.bipush (-2), 2) := by decide +kernel
theorem dX11_as_15 : decode cX11_as 15 = .ok (.ireturn, 1) := by decide +kernel
theorem dX11_as_16 : decode cX11_as 16 = .ok (.iload_n 2, 1) := by decide +kernel
theorem dX11_as_17 : decode cX11_as 17 = .ok (.ifCond .lt 8, 3) := by decide +kernel
theorem dX11_as_20 : decode cX11_as 20 = .ok (.iload_n 2, 1) := by decide +kernel
theorem dX11_as_21 : decode cX11_as 21 = .ok (.iconst 4, 1) := by decide +kernel
theorem dX11_as_22 : decode cX11_as 22 = .ok (.if_icmp .le 6, 3) := by decide +kernel
theorem dX11_as_25 : decode cX11_as 25 = .ok (.bipush (-3), 2) := by decide +kernel
theorem dX11_as_27 : decode cX11_as 27 = .ok (.ireturn, 1) := by decide +kernel
theorem dX11_as_28 : decode cX11_as 28 = .ok (.aload_n 3, 1) := by decide +kernel
theorem dX11_as_29 : decode cX11_as 29 = .ok (.getfield 141, 3) := by decide +kernel
theorem dX11_as_32 : decode cX11_as 32 = .ok (.iload_n 2, 1) := by decide +kernel
theorem dX11_as_33 : decode cX11_as 33 = .ok (.invokestatic 191, 3) := by decide +kernel
theorem dX11_as_36 : decode cX11_as 36 = .ok (.ifCond .eq 14, 3) := by decide +kernel
theorem dX11_as_39 : decode cX11_as 39 = .ok (.aload_n 3, 1) := by decide +kernel
theorem dX11_as_40 : decode cX11_as 40 = .ok (.getfield 141, 3) := by decide +kernel
theorem dX11_as_43 : decode cX11_as 43 = .ok (.iconst 3, 1) := by decide +kernel
theorem dX11_as_44 : decode cX11_as 44 = .ok (.invokevirtual 195, 3) := by decide +kernel
theorem dX11_as_47 : decode cX11_as 47 = .ok (.goto 5, 3) := by decide +kernel
theorem dX11_as_50 : decode cX11_as 50 = .ok (.bipush (-4), 2) := by decide +kernel
theorem dX11_as_52 : decode cX11_as 52 = .ok (.ireturn, 1) := by decide +kernel
theorem dX11_wash_0 : decode cX11_wash 0 = .ok (.aload_n 0, 1) := by decide +kernel
theorem dX11_wash_1 : decode cX11_wash 1 = .ok (.getfield 46, 3) := by decide +kernel
theorem dX11_wash_4 : decode cX11_wash 4 = .ok (.iload_n 2, 1) := by decide +kernel
theorem dX11_wash_5 : decode cX11_wash 5 = .ok (.invokevirtual 137, 3) := by decide +kernel
theorem dX11_wash_8 : decode cX11_wash 8 = .ok (.astore_n 3, 1) := by decide +kernel
theorem dX11_wash_9 : decode cX11_wash 9 = .ok (.aload_n 3, 1) := by decide +kernel
theorem dX11_wash_10 : decode cX11_wash 10 = .ok (.ifnull 14, 3) := by decide +kernel
theorem dX11_wash_13 : decode cX11_wash 13 = .ok (.aload_n 0, 1) := by decide +kernel
theorem dX11_wash_14 : decode cX11_wash 14 = .ok (.getfield 46, 3) := by decide +kernel
theorem dX11_wash_17 : decode cX11_wash 17 = .ok (.iload_n 1, 1) := by decide +kernel
theorem dX11_wash_18 : decode cX11_wash 18 = .ok (.invokevirtual 177, 3) := by decide +kernel
theorem dX11_wash_21 : decode cX11_wash 21 = .ok (.ifCond .ne 6, 3) := by decide +kernel
theorem dX11_wash_24 : decode cX11_wash 24 = .ok (.bipush (-2), 2) := by decide +kernel
theorem dX11_wash_26 : decode cX11_wash 26 = .ok (.ireturn, 1) := by decide +kernel
theorem dX11_wash_27 : decode cX11_wash 27 = .ok (.aload_n 3, 1) := by decide +kernel
theorem dX11_wash_28 : decode cX11_wash 28 = .ok (.getfield 157, 3) := by decide +kernel
theorem dX11_wash_31 : decode cX11_wash 31 = .ok (.ifCond .ne 16, 3) := by decide +kernel
theorem dX11_wash_34 : decode cX11_wash 34 = .ok (.aload_n 0, 1) := by decide +kernel
theorem dX11_wash_35 : decode cX11_wash 35 = .ok (.getfield 46, 3) := by decide +kernel
theorem dX11_wash_38 : decode cX11_wash 38 = .ok (.getfield 184, 3) := by decide +kernel
theorem dX11_wash_41 : decode cX11_wash 41 = .ok (.iload_n 1, 1) := by decide +kernel
theorem dX11_wash_42 : decode cX11_wash 42 = .ok (.iaload, 1) := by decide +kernel
theorem dX11_wash_43 : decode cX11_wash 43 = .ok (.iconst (-1), 1) := by decide +kernel
theorem dX11_wash_44 : decode cX11_wash 44 = .ok (.if_icmp .eq 6, 3) := by decide +kernel
theorem dX11_wash_47 : decode cX11_wash 47 = .ok (.bipush (-4), 2) := by decide +kernel
theorem dX11_wash_49 : decode cX11_wash 49 = .ok (.ireturn, 1) := by decide +kernel
theorem dX11_wash_50 : decode cX11_wash 50 = .ok (.aload_n 0, 1) := by decide +kernel
theorem dX11_wash_51 : decode cX11_wash 51 = .ok (.invokevirtual 198, 3) := by decide +kernel
theorem dX11_wash_54 : decode cX11_wash 54 = .ok (.aload_n 3, 1) := by decide +kernel
theorem dX11_wash_55 : decode cX11_wash 55 = .ok (.iconst 1, 1) := by decide +kernel
theorem dX11_wash_56 : decode cX11_wash 56 = .ok (.putfield 157, 3) := by decide +kernel
theorem dX11_wash_59 : decode cX11_wash 59 = .ok (.aload_n 0, 1) := by decide +kernel
theorem dX11_wash_60 : decode cX11_wash 60 = .ok (.getfield 46, 3) := by decide +kernel
theorem dX11_wash_63 : decode cX11_wash 63 = .ok (.getfield 184, 3) := by decide +kernel
theorem dX11_wash_66 : decode cX11_wash 66 = .ok (.iload_n 1, 1) := by decide +kernel
theorem dX11_wash_67 : decode cX11_wash 67 = .ok (.iload_n 2, 1) := by decide +kernel
theorem dX11_wash_68 : decode cX11_wash 68 = .ok (.iastore, 1) := by decide +kernel
theorem dX11_wash_69 : decode cX11_wash 69 = .ok (.aload_n 3, 1) := by decide +kernel
theorem dX11_wash_70 : decode cX11_wash 70 = .ok (.invokevirtual 201, 3) := by decide +kernel
theorem dX11_wash_73 : decode cX11_wash 73 = .ok (.ireturn, 1) := by decide +kernel
theorem dX11_hang_0 : decode cX11_hang 0 = .ok (.aload_n 0, 1) := by decide +kernel
theorem dX11_hang_1 : decode cX11_hang 1 = .ok (.getfield 46, 3) := by decide +kernel
theorem dX11_hang_4 : decode cX11_hang 4 = .ok (.iload_n 1, 1) := by decide +kernel
theorem dX11_hang_5 : decode cX11_hang 5 = .ok (.invokevirtual 177, 3) := by decide +kernel
theorem dX11_hang_8 : decode cX11_hang 8 = .ok (.ifCond .ne 6, 3) := by decide +kernel
theorem dX11_hang_11 : decode cX11_hang 11 = .ok (.bipush (-2), 2) := by decide +kernel
theorem dX11_hang_13 : decode cX11_hang 13 = .ok (.ireturn, 1) := by decide +kernel
theorem dX11_hang_14 : decode cX11_hang 14 = .ok (.aload_n 0, 1) := by decide +kernel
theorem dX11_hang_15 : decode cX11_hang 15 = .ok (.getfield 46, 3) := by decide +kernel
theorem dX11_hang_18 : decode cX11_hang 18 = .ok (.getfield 184, 3) := by decide +kernel
theorem dX11_hang_21 : decode cX11_hang 21 = .ok (.iload_n 1, 1) := by decide +kernel
theorem dX11_hang_22 : decode cX11_hang 22 = .ok (.iaload, 1) := by decide +kernel
theorem dX11_hang_23 : decode cX11_hang 23 = .ok (.istore_n 2, 1) := by decide +kernel
theorem dX11_hang_24 : decode cX11_hang 24 = .ok (.aload_n 0, 1) := by decide +kernel
theorem dX11_hang_25 : decode cX11_hang 25 = .ok (.getfield 46, 3) := by decide +kernel
theorem dX11_hang_28 : decode cX11_hang 28 = .ok (.iload_n 2, 1) := by decide +kernel
theorem dX11_hang_29 : decode cX11_hang 29 = .ok (.invokevirtual 137, 3) := by decide +kernel
theorem dX11_hang_32 : decode cX11_hang 32 = .ok (.astore_n 3, 1) := by decide +kernel
theorem dX11_hang_33 : decode cX11_hang 33 = .ok (.aload_n 3, 1) := by decide +kernel
theorem dX11_hang_34 : decode cX11_hang 34 = .ok (.ifnonnull 6, 3) := by decide +kernel
theorem dX11_hang_37 : decode cX11_hang 37 = .ok (.bipush (-4), 2) := by decide +kernel
theorem dX11_hang_39 : decode cX11_hang 39 = .ok (.ireturn, 1) := by decide +kernel
theorem dX11_hang_40 : decode cX11_hang 40 = .ok (.aload_n 0, 1) := by decide +kernel
theorem dX11_hang_41 : decode cX11_hang 41 = .ok (.invokevirtual 198, 3) := by decide +kernel
theorem dX11_hang_44 : decode cX11_hang 44 = .ok (.aload_n 0, 1) := by decide +kernel
theorem dX11_hang_45 : decode cX11_hang 45 = .ok (.getfield 46, 3) := by decide +kernel
theorem dX11_hang_48 : decode cX11_hang 48 = .ok (.getfield 184, 3) := by decide +kernel
theorem dX11_hang_51 : decode cX11_hang 51 = .ok (.iload_n 1, 1) := by decide +kernel
theorem dX11_hang_52 : decode cX11_hang 52 = .ok (.iconst (-1), 1) := by decide +kernel
theorem dX11_hang_53 : decode cX11_hang 53 = .ok (.iastore, 1) := by decide +kernel
theorem dX11_hang_54 : decode cX11_hang 54 = .ok (.aload_n 3, 1) := by decide +kernel
theorem dX11_hang_55 : decode cX11_hang 55 = .ok (.iconst 2, 1) := by decide +kernel
theorem dX11_hang_56 : decode cX11_hang 56 = .ok (.putfield 157, 3) := by decide +kernel
theorem dX11_hang_59 : decode cX11_hang 59 = .ok (.iload_n 2, 1) := by decide +kernel
theorem dX11_hang_60 : decode cX11_hang 60 = .ok (.ireturn, 1) := by decide +kernel
theorem dX11_again_0 : decode cX11_again 0 = .ok (.aload_n 0, 1) := by decide +kernel
theorem dX11_again_1 : decode cX11_again 1 = .ok (.getfield 46, 3) := by decide +kernel
theorem dX11_again_4 : decode cX11_again 4 = .ok (.iload_n 1, 1) := by decide +kernel
theorem dX11_again_5 : decode cX11_again 5 = .ok (.invokevirtual 137, 3) := by decide +kernel
theorem dX11_again_8 : decode cX11_again 8 = .ok (.astore_n 2, 1) := by decide +kernel
theorem dX11_again_9 : decode cX11_again 9 = .ok (.aload_n 2, 1) := by decide +kernel
theorem dX11_again_10 : decode cX11_again 10 = .ok (.ifnonnull 6, 3) := by decide +kernel
theorem dX11_again_13 : decode cX11_again 13 = .ok (.bipush (-2), 2) := by decide +kernel
theorem dX11_again_15 : decode cX11_again 15 = .ok (.ireturn, 1) := by decide +kernel
theorem dX11_again_16 : decode cX11_again 16 = .ok (.aload_n 2, 1) := by decide +kernel
theorem dX11_again_17 : decode cX11_again 17 = .ok (.getfield 157, 3) := by decide +kernel
theorem dX11_again_20 : decode cX11_again 20 = .ok (.iconst 2, 1) := by decide +kernel
theorem dX11_again_21 : decode cX11_again 21 = .ok (.if_icmp .eq 6, 3) := by decide +kernel
theorem dX11_again_24 : decode cX11_again 24 = .ok (.bipush (-4), 2) := by decide +kernel
theorem dX11_again_26 : decode cX11_again 26 = .ok (.ireturn, 1) := by decide +kernel
theorem dX11_again_27 : decode cX11_again 27 = .ok (.aload_n 0, 1) := by decide +kernel
theorem dX11_again_28 : decode cX11_again 28 = .ok (.invokevirtual 198, 3) := by decide +kernel
theorem dX11_again_31 : decode cX11_again 31 = .ok (.aload_n 2, 1) := by decide +kernel
theorem dX11_again_32 : decode cX11_again 32 = .ok (.getfield 164, 3) := by decide +kernel
theorem dX11_again_35 : decode cX11_again 35 = .ok (.istore_n 3, 1) := by decide +kernel
theorem dX11_again_36 : decode cX11_again 36 = .ok (.aload_n 2, 1) := by decide +kernel
theorem dX11_again_37 : decode cX11_again 37 = .ok (.iconst 0, 1) := by decide +kernel
theorem dX11_again_38 : decode cX11_again 38 = .ok (.putfield 157, 3) := by decide +kernel
theorem dX11_again_41 : decode cX11_again 41 = .ok (.aload_n 2, 1) := by decide +kernel
theorem dX11_again_42 : decode cX11_again 42 = .ok (.iconst 0, 1) := by decide +kernel
theorem dX11_again_43 : decode cX11_again 43 = .ok (.putfield 164, 3) := by decide +kernel
theorem dX11_again_46 : decode cX11_again 46 = .ok (.iload_n 3, 1) := by decide +kernel
theorem dX11_again_47 : decode cX11_again 47 = .ok (.ireturn, 1) := by decide +kernel
theorem dX11_send_0 : decode cX11_send 0 = .ok (.aload_n 0, 1) := by decide +kernel
theorem dX11_send_1 : decode cX11_send 1 = .ok (.getfield 46, 3) := by decide +kernel
theorem dX11_send_4 : decode cX11_send 4 = .ok (.iload_n 1, 1) := by decide +kernel
theorem dX11_send_5 : decode cX11_send 5 = .ok (.invokevirtual 137, 3) := by decide +kernel
theorem dX11_send_8 : decode cX11_send 8 = .ok (.astore_n 2, 1) := by decide +kernel
theorem dX11_send_9 : decode cX11_send 9 = .ok (.aload_n 2, 1) := by decide +kernel
theorem dX11_send_10 : decode cX11_send 10 = .ok (.ifnonnull 6, 3) := by decide +kernel
theorem dX11_send_13 : decode cX11_send 13 = .ok (.bipush (-2), 2) := by decide +kernel
theorem dX11_send_15 : decode cX11_send 15 = .ok (.ireturn, 1) := by decide +kernel
theorem dX11_send_16 : decode cX11_send 16 = .ok (.aload_n 2, 1) := by decide +kernel
theorem dX11_send_17 : decode cX11_send 17 = .ok (.invokevirtual 167, 3) := by decide +kernel
theorem dX11_send_20 : decode cX11_send 20 = .ok (.ifCond .eq 10, 3) := by decide +kernel
theorem dX11_send_23 : decode cX11_send 23 = .ok (.aload_n 2, 1) := by decide +kernel
theorem dX11_send_24 : decode cX11_send 24 = .ok (.invokevirtual 171, 3) := by decide +kernel
theorem dX11_send_27 : decode cX11_send 27 = .ok (.ifCond .ne 6, 3) := by decide +kernel
theorem dX11_send_30 : decode cX11_send 30 = .ok (.bipush (-4), 2) := by decide +kernel
theorem dX11_send_32 : decode cX11_send 32 = .ok (.ireturn, 1) := by decide +kernel
theorem dX11_send_33 : decode cX11_send 33 = .ok (.aload_n 0, 1) := by decide +kernel
theorem dX11_send_34 : decode cX11_send 34 = .ok (.invokevirtual 198, 3) := by decide +kernel
theorem dX11_send_37 : decode cX11_send 37 = .ok (.aload_n 2, 1) := by decide +kernel
theorem dX11_send_38 : decode cX11_send 38 = .ok (.iconst 3, 1) := by decide +kernel
theorem dX11_send_39 : decode cX11_send 39 = .ok (.putfield 157, 3) := by decide +kernel
theorem dX11_send_42 : decode cX11_send 42 = .ok (.aload_n 2, 1) := by decide +kernel
theorem dX11_send_43 : decode cX11_send 43 = .ok (.iconst 0, 1) := by decide +kernel
theorem dX11_send_44 : decode cX11_send 44 = .ok (.putfield 164, 3) := by decide +kernel
theorem dX11_send_47 : decode cX11_send 47 = .ok (.iconst 0, 1) := by decide +kernel
theorem dX11_send_48 : decode cX11_send 48 = .ok (.aload_n 0, 1) := by decide +kernel
theorem dX11_send_49 : decode cX11_send 49 = .ok (.getfield 46, 3) := by decide +kernel
theorem dX11_send_52 : decode cX11_send 52 = .ok (.getfield 204, 3) := by decide +kernel
theorem dX11_send_55 : decode cX11_send 55 = .ok (.aload_n 2, 1) := by decide +kernel
theorem dX11_send_56 : decode cX11_send 56 = .ok (.getfield 154, 3) := by decide +kernel
theorem dX11_send_59 : decode cX11_send 59 = .ok (.isub, 1) := by decide +kernel
theorem dX11_send_60 : decode cX11_send 60 = .ok (.invokestatic 207, 3) := by decide +kernel
theorem dX11_send_63 : decode cX11_send 63 = .ok (.ireturn, 1) := by decide +kernel
theorem dX11_soap_0 : decode cX11_soap 0 = .ok (.iload_n 1, 1) := by decide +kernel
theorem dX11_soap_1 : decode cX11_soap 1 = .ok (.iconst 1, 1) := by decide +kernel
theorem dX11_soap_2 : decode cX11_soap 2 = .ok (.if_icmp .lt 9, 3) := by decide +kernel
theorem dX11_soap_5 : decode cX11_soap 5 = .ok (.iload_n 1, 1) := by decide +kernel
theorem dX11_soap_6 : decode cX11_soap 6 = .ok (.bipush 20, 2) := by decide +kernel
theorem dX11_soap_8 : decode cX11_soap 8 = .ok (.if_icmp .le 6, 3) := by decide +kernel
theorem dX11_soap_11 : decode cX11_soap 11 = .ok (.bipush (-3), 2) := by decide +kernel
theorem dX11_soap_13 : decode cX11_soap 13 = .ok (.ireturn, 1) := by decide +kernel
theorem dX11_soap_14 : decode cX11_soap 14 = .ok (.aload_n 0, 1) := by decide +kernel
theorem dX11_soap_15 : decode cX11_soap 15 = .ok (.getfield 46, 3) := by decide +kernel
theorem dX11_soap_18 : decode cX11_soap 18 = .ok (.getfield 213, 3) := by decide +kernel
theorem dX11_soap_21 : decode cX11_soap 21 = .ok (.iload_n 1, 1) := by decide +kernel
theorem dX11_soap_22 : decode cX11_soap 22 = .ok (.iadd, 1) := by decide +kernel
theorem dX11_soap_23 : decode cX11_soap 23 = .ok (.bipush 99, 2) := by decide +kernel
theorem dX11_soap_25 : decode cX11_soap 25 = .ok (.if_icmp .le 6, 3) := by decide +kernel
theorem dX11_soap_28 : decode cX11_soap 28 = .ok (.bipush (-5), 2) := by decide +kernel
theorem dX11_soap_30 : decode cX11_soap 30 = .ok (.ireturn, 1) := by decide +kernel
theorem dX11_soap_31 : decode cX11_soap 31 = .ok (.aload_n 0, 1) := by decide +kernel
theorem dX11_soap_32 : decode cX11_soap 32 = .ok (.invokevirtual 198, 3) := by decide +kernel
theorem dX11_soap_35 : decode cX11_soap 35 = .ok (.aload_n 0, 1) := by decide +kernel
theorem dX11_soap_36 : decode cX11_soap 36 = .ok (.getfield 46, 3) := by decide +kernel
theorem dX11_soap_39 : decode cX11_soap 39 = .ok (.dup, 1) := by decide +kernel
theorem dX11_soap_40 : decode cX11_soap 40 = .ok (.getfield 213, 3) := by decide +kernel
theorem dX11_soap_43 : decode cX11_soap 43 = .ok (.iload_n 1, 1) := by decide +kernel
theorem dX11_soap_44 : decode cX11_soap 44 = .ok (.iadd, 1) := by decide +kernel
theorem dX11_soap_45 : decode cX11_soap 45 = .ok (.putfield 213, 3) := by decide +kernel
theorem dX11_soap_48 : decode cX11_soap 48 = .ok (.aload_n 0, 1) := by decide +kernel
theorem dX11_soap_49 : decode cX11_soap 49 = .ok (.getfield 46, 3) := by decide +kernel
theorem dX11_soap_52 : decode cX11_soap 52 = .ok (.getfield 213, 3) := by decide +kernel
theorem dX11_soap_55 : decode cX11_soap 55 = .ok (.ireturn, 1) := by decide +kernel
theorem dX11_hour_0 : decode cX11_hour 0 = .ok (.iload_n 1, 1) := by decide +kernel
theorem dX11_hour_1 : decode cX11_hour 1 = .ok (.iconst 1, 1) := by decide +kernel
theorem dX11_hour_2 : decode cX11_hour 2 = .ok (.if_icmp .lt 9, 3) := by decide +kernel
theorem dX11_hour_5 : decode cX11_hour 5 = .ok (.iload_n 1, 1) := by decide +kernel
theorem dX11_hour_6 : decode cX11_hour 6 = .ok (.bipush 12, 2) := by decide +kernel
theorem dX11_hour_8 : decode cX11_hour 8 = .ok (.if_icmp .le 6, 3) := by decide +kernel
theorem dX11_hour_11 : decode cX11_hour 11 = .ok (.bipush (-3), 2) := by decide +kernel
theorem dX11_hour_13 : decode cX11_hour 13 = .ok (.ireturn, 1) := by decide +kernel
theorem dX11_hour_14 : decode cX11_hour 14 = .ok (.aload_n 0, 1) := by decide +kernel
theorem dX11_hour_15 : decode cX11_hour 15 = .ok (.getfield 46, 3) := by decide +kernel
theorem dX11_hour_18 : decode cX11_hour 18 = .ok (.getfield 204, 3) := by decide +kernel
theorem dX11_hour_21 : decode cX11_hour 21 = .ok (.iload_n 1, 1) := by decide +kernel
theorem dX11_hour_22 : decode cX11_hour 22 = .ok (.iadd, 1) := by decide +kernel
theorem dX11_hour_23 : decode cX11_hour 23 = .ok (.sipush 999, 3) := by decide +kernel
theorem dX11_hour_26 : decode cX11_hour 26 = .ok (.if_icmp .le 6, 3) := by decide +kernel
theorem dX11_hour_29 : decode cX11_hour 29 = .ok (.bipush (-5), 2) := by decide +kernel
theorem dX11_hour_31 : decode cX11_hour 31 = .ok (.ireturn, 1) := by decide +kernel
theorem dX11_hour_32 : decode cX11_hour 32 = .ok (.aload_n 0, 1) := by decide +kernel
theorem dX11_hour_33 : decode cX11_hour 33 = .ok (.invokevirtual 198, 3) := by decide +kernel
theorem dX11_hour_36 : decode cX11_hour 36 = .ok (.iconst 0, 1) := by decide +kernel
theorem dX11_hour_37 : decode cX11_hour 37 = .ok (.istore_n 2, 1) := by decide +kernel
theorem dX11_hour_38 : decode cX11_hour 38 = .ok (.iload_n 2, 1) := by decide +kernel
theorem dX11_hour_39 : decode cX11_hour 39 = .ok (.iload_n 1, 1) := by decide +kernel
theorem dX11_hour_40 : decode cX11_hour 40 = .ok (.if_icmp .ge 16, 3) := by decide +kernel
theorem dX11_hour_43 : decode cX11_hour 43 = .ok (.aload_n 0, 1) := by decide +kernel
theorem dX11_hour_44 : decode cX11_hour 44 = .ok (.getfield 46, 3) := by decide +kernel
theorem dX11_hour_47 : decode cX11_hour 47 = .ok (.invokevirtual 216, 3) := by decide +kernel
theorem dX11_hour_50 : decode cX11_hour 50 = .ok (.iinc 2 1, 3) := by decide +kernel
theorem dX11_hour_53 : decode cX11_hour 53 = .ok (.goto (-15), 3) := by decide +kernel
theorem dX11_hour_56 : decode cX11_hour 56 = .ok (.aload_n 0, 1) := by decide +kernel
theorem dX11_hour_57 : decode cX11_hour 57 = .ok (.getfield 46, 3) := by decide +kernel
theorem dX11_hour_60 : decode cX11_hour 60 = .ok (.getfield 204, 3) := by decide +kernel
theorem dX11_hour_63 : decode cX11_hour 63 = .ok (.ireturn, 1) := by decide +kernel
theorem dX11_undo_0 : decode cX11_undo 0 = .ok (.aload_n 0, 1) := by decide +kernel
theorem dX11_undo_1 : decode cX11_undo 1 = .ok (.getfield 131, 3) := by decide +kernel
theorem dX11_undo_4 : decode cX11_undo 4 = .ok (.iconst 1, 1) := by decide +kernel
theorem dX11_undo_5 : decode cX11_undo 5 = .ok (.if_icmp .lt 12, 3) := by decide +kernel
theorem dX11_undo_8 : decode cX11_undo 8 = .ok (.aload_n 0, 1) := by decide +kernel
theorem dX11_undo_9 : decode cX11_undo 9 = .ok (.getfield 131, 3) := by decide +kernel
theorem dX11_undo_12 : decode cX11_undo 12 = .ok (.bipush 8, 2) := by decide +kernel
theorem dX11_undo_14 : decode cX11_undo 14 = .ok (.if_icmp .le 6, 3) := by decide +kernel
theorem dX11_undo_17 : decode cX11_undo 17 = .ok (.bipush (-4), 2) := by decide +kernel
theorem dX11_undo_19 : decode cX11_undo 19 = .ok (.ireturn, 1) := by decide +kernel
theorem dX11_undo_20 : decode cX11_undo 20 = .ok (.aload_n 0, 1) := by decide +kernel
theorem dX11_undo_21 : decode cX11_undo 21 = .ok (.dup, 1) := by decide +kernel
theorem dX11_undo_22 : decode cX11_undo 22 = .ok (.getfield 131, 3) := by decide +kernel
theorem dX11_undo_25 : decode cX11_undo 25 = .ok (.iconst 1, 1) := by decide +kernel
theorem dX11_undo_26 : decode cX11_undo 26 = .ok (.isub, 1) := by decide +kernel
theorem dX11_undo_27 : decode cX11_undo 27 = .ok (.putfield 131, 3) := by decide +kernel
theorem dX11_undo_30 : decode cX11_undo 30 = .ok (.aload_n 0, 1) := by decide +kernel
theorem dX11_undo_31 : decode cX11_undo 31 = .ok (.getfield 46, 3) := by decide +kernel
theorem dX11_undo_34 : decode cX11_undo 34 = .ok (.aload_n 0, 1) := by decide +kernel
theorem dX11_undo_35 : decode cX11_undo 35 = .ok (.getfield 74, 3) := by decide +kernel
theorem dX11_undo_38 : decode cX11_undo 38 = .ok (.aload_n 0, 1) := by decide +kernel
theorem dX11_undo_39 : decode cX11_undo 39 = .ok (.getfield 131, 3) := by decide +kernel
theorem dX11_undo_42 : decode cX11_undo 42 = .ok (.aaload, 1) := by decide +kernel
theorem dX11_undo_43 : decode cX11_undo 43 = .ok (.invokevirtual 121, 3) := by decide +kernel
theorem dX11_undo_46 : decode cX11_undo 46 = .ok (.aload_n 0, 1) := by decide +kernel
theorem dX11_undo_47 : decode cX11_undo 47 = .ok (.getfield 131, 3) := by decide +kernel
theorem dX11_undo_50 : decode cX11_undo 50 = .ok (.ireturn, 1) := by decide +kernel
theorem dX11_keep_0 : decode cX11_keep 0 = .ok (.iload_n 1, 1) := by decide +kernel
theorem dX11_keep_1 : decode cX11_keep 1 = .ok (.ifCond .lt 8, 3) := by decide +kernel
theorem dX11_keep_4 : decode cX11_keep 4 = .ok (.iload_n 1, 1) := by decide +kernel
theorem dX11_keep_5 : decode cX11_keep 5 = .ok (.iconst 2, 1) := by decide +kernel
theorem dX11_keep_6 : decode cX11_keep 6 = .ok (.if_icmp .lt 6, 3) := by decide +kernel
theorem dX11_keep_9 : decode cX11_keep 9 = .ok (.bipush (-2), 2) := by decide +kernel
theorem dX11_keep_11 : decode cX11_keep 11 = .ok (.ireturn, 1) := by decide +kernel
theorem dX11_keep_12 : decode cX11_keep 12 = .ok (.aload_n 0, 1) := by decide +kernel
theorem dX11_keep_13 : decode cX11_keep 13 = .ok (.getfield 78, 3) := by decide +kernel
theorem dX11_keep_16 : decode cX11_keep 16 = .ok (.iload_n 1, 1) := by decide +kernel
theorem dX11_keep_17 : decode cX11_keep 17 = .ok (.aaload, 1) := by decide +kernel
theorem dX11_keep_18 : decode cX11_keep 18 = .ok (.aload_n 0, 1) := by decide +kernel
theorem dX11_keep_19 : decode cX11_keep 19 = .ok (.getfield 46, 3) := by decide +kernel
theorem dX11_keep_22 : decode cX11_keep 22 = .ok (.invokevirtual 121, 3) := by decide +kernel
theorem dX11_keep_25 : decode cX11_keep 25 = .ok (.aload_n 0, 1) := by decide +kernel
theorem dX11_keep_26 : decode cX11_keep 26 = .ok (.getfield 81, 3) := by decide +kernel
theorem dX11_keep_29 : decode cX11_keep 29 = .ok (.iload_n 1, 1) := by decide +kernel
theorem dX11_keep_30 : decode cX11_keep 30 = .ok (.aaload, 1) := by decide +kernel
theorem dX11_keep_31 : decode cX11_keep 31 = .ok (.aload_n 0, 1) := by decide +kernel
theorem dX11_keep_32 : decode cX11_keep 32 = .ok (.getfield 30, 3) := by decide +kernel
theorem dX11_keep_35 : decode cX11_keep 35 = .ok (.invokevirtual 219, 3) := by decide +kernel
theorem dX11_keep_38 : decode cX11_keep 38 = .ok (.aload_n 0, 1) := by decide +kernel
theorem dX11_keep_39 : decode cX11_keep 39 = .ok (.getfield 85, 3) := by decide +kernel
theorem dX11_keep_42 : decode cX11_keep 42 = .ok (.iload_n 1, 1) := by decide +kernel
theorem dX11_keep_43 : decode cX11_keep 43 = .ok (.iconst 1, 1) := by decide +kernel
theorem dX11_keep_44 : decode cX11_keep 44 = .ok (.bastore, 1) := by decide +kernel
theorem dX11_keep_45 : decode cX11_keep 45 = .ok (.aload_n 0, 1) := by decide +kernel
theorem dX11_keep_46 : decode cX11_keep 46 = .ok (.getfield 46, 3) := by decide +kernel
theorem dX11_keep_49 : decode cX11_keep 49 = .ok (.getfield 204, 3) := by decide +kernel
theorem dX11_keep_52 : decode cX11_keep 52 = .ok (.ireturn, 1) := by decide +kernel
theorem dX11_back_0 : decode cX11_back 0 = .ok (.iload_n 1, 1) := by decide +kernel
theorem dX11_back_1 : decode cX11_back 1 = .ok (.ifCond .lt 8, 3) := by decide +kernel
theorem dX11_back_4 : decode cX11_back 4 = .ok (.iload_n 1, 1) := by decide +kernel
theorem dX11_back_5 : decode cX11_back 5 = .ok (.iconst 2, 1) := by decide +kernel
theorem dX11_back_6 : decode cX11_back 6 = .ok (.if_icmp .lt 6, 3) := by decide +kernel
theorem dX11_back_9 : decode cX11_back 9 = .ok (.bipush (-2), 2) := by decide +kernel
theorem dX11_back_11 : decode cX11_back 11 = .ok (.ireturn, 1) := by decide +kernel
theorem dX11_back_12 : decode cX11_back 12 = .ok (.aload_n 0, 1) := by decide +kernel
theorem dX11_back_13 : decode cX11_back 13 = .ok (.getfield 85, 3) := by decide +kernel
theorem dX11_back_16 : decode cX11_back 16 = .ok (.iload_n 1, 1) := by decide +kernel
theorem dX11_back_17 : decode cX11_back 17 = .ok (.baload, 1) := by decide +kernel
theorem dX11_back_18 : decode cX11_back 18 = .ok (.ifCond .ne 6, 3) := by decide +kernel
theorem dX11_back_21 : decode cX11_back 21 = .ok (.bipush (-4), 2) := by decide +kernel
theorem dX11_back_23 : decode cX11_back 23 = .ok (.ireturn, 1) := by decide +kernel
theorem dX11_back_24 : decode cX11_back 24 = .ok (.aload_n 0, 1) := by decide +kernel
theorem dX11_back_25 : decode cX11_back 25 = .ok (.getfield 46, 3) := by decide +kernel
theorem dX11_back_28 : decode cX11_back 28 = .ok (.aload_n 0, 1) := by decide +kernel
theorem dX11_back_29 : decode cX11_back 29 = .ok (.getfield 78, 3) := by decide +kernel
theorem dX11_back_32 : decode cX11_back 32 = .ok (.iload_n 1, 1) := by decide +kernel
theorem dX11_back_33 : decode cX11_back 33 = .ok (.aaload, 1) := by decide +kernel
theorem dX11_back_34 : decode cX11_back 34 = .ok (.invokevirtual 121, 3) := by decide +kernel
theorem dX11_back_37 : decode cX11_back 37 = .ok (.aload_n 0, 1) := by decide +kernel
theorem dX11_back_38 : decode cX11_back 38 = .ok (.getfield 30, 3) := by decide +kernel
theorem dX11_back_41 : decode cX11_back 41 = .ok (.aload_n 0, 1) := by decide +kernel
theorem dX11_back_42 : decode cX11_back 42 = .ok (.getfield 81, 3) := by decide +kernel
theorem dX11_back_45 : decode cX11_back 45 = .ok (.iload_n 1, 1) := by decide +kernel
theorem dX11_back_46 : decode cX11_back 46 = .ok (.aaload, 1) := by decide +kernel
theorem dX11_back_47 : decode cX11_back 47 = .ok (.invokevirtual 219, 3) := by decide +kernel
theorem dX11_back_50 : decode cX11_back 50 = .ok (.aload_n 0, 1) := by decide +kernel
theorem dX11_back_51 : decode cX11_back 51 = .ok (.iconst 0, 1) := by decide +kernel
theorem dX11_back_52 : decode cX11_back 52 = .ok (.putfield 131, 3) := by decide +kernel
theorem dX11_back_55 : decode cX11_back 55 = .ok (.aload_n 0, 1) := by decide +kernel
theorem dX11_back_56 : decode cX11_back 56 = .ok (.getfield 46, 3) := by decide +kernel
theorem dX11_back_59 : decode cX11_back 59 = .ok (.getfield 204, 3) := by decide +kernel
theorem dX11_back_62 : decode cX11_back 62 = .ok (.ireturn, 1) := by decide +kernel
theorem dX11_takes_0 : decode cX11_takes 0 = .ok (.aload_n 0, 1) := by decide +kernel
theorem dX11_takes_1 : decode cX11_takes 1 = .ok (.getfield 46, 3) := by decide +kernel
theorem dX11_takes_4 : decode cX11_takes 4 = .ok (.iload_n 1, 1) := by decide +kernel
theorem dX11_takes_5 : decode cX11_takes 5 = .ok (.invokevirtual 137, 3) := by decide +kernel
theorem dX11_takes_8 : decode cX11_takes 8 = .ok (.astore_n 3, 1) := by decide +kernel
theorem dX11_takes_9 : decode cX11_takes 9 = .ok (.aload_n 3, 1) := by decide +kernel
theorem dX11_takes_10 : decode cX11_takes 10 = .ok (.ifnonnull 6, 3) := by decide +kernel
theorem dX11_takes_13 : decode cX11_takes 13 = .ok (.bipush (-2), 2) := by decide +kernel
theorem dX11_takes_15 : decode cX11_takes 15 = .ok (.ireturn, 1) := by decide +kernel
theorem dX11_takes_16 : decode cX11_takes 16 = .ok (.iload_n 2, 1) := by decide +kernel
theorem dX11_takes_17 : decode cX11_takes 17 = .ok (.iconst 1, 1) := by decide +kernel
theorem dX11_takes_18 : decode cX11_takes 18 = .ok (.if_icmp .lt 8, 3) := by decide +kernel
theorem dX11_takes_21 : decode cX11_takes 21 = .ok (.iload_n 2, 1) := by decide +kernel
theorem dX11_takes_22 : decode cX11_takes 22 = .ok (.iconst 3, 1) := by decide +kernel
theorem dX11_takes_23 : decode cX11_takes 23 = .ok (.if_icmp .le 6, 3) := by decide +kernel
theorem dX11_takes_26 : decode cX11_takes 26 = .ok (.bipush (-3), 2) := by decide +kernel
theorem dX11_takes_28 : decode cX11_takes 28 = .ok (.ireturn, 1) := by decide +kernel
theorem dX11_takes_29 : decode cX11_takes 29 = .ok (.aload_n 3, 1) := by decide +kernel
theorem dX11_takes_30 : decode cX11_takes 30 = .ok (.aload_n 3, 1) := by decide +kernel
theorem dX11_takes_31 : decode cX11_takes 31 = .ok (.getfield 141, 3) := by decide +kernel
theorem dX11_takes_34 : decode cX11_takes 34 = .ok (.iload_n 2, 1) := by decide +kernel
theorem dX11_takes_35 : decode cX11_takes 35 = .ok (.invokevirtual 222, 3) := by decide +kernel
theorem dX11_takes_38 : decode cX11_takes 38 = .ok (.ireturn, 1) := by decide +kernel
theorem dX11_later_0 : decode cX11_later 0 = .ok (.iload_n 1, 1) := by decide +kernel
theorem dX11_later_1 : decode cX11_later 1 = .ok (.ifCond .lt 9, 3) := by decide +kernel
theorem dX11_later_4 : decode cX11_later 4 = .ok (.iload_n 1, 1) := by decide +kernel
theorem dX11_later_5 : decode cX11_later 5 = .ok (.bipush 7, 2) := by decide +kernel
theorem dX11_later_7 : decode cX11_later 7 = .ok (.if_icmp .lt 6, 3) := by decide +kernel
theorem dX11_later_10 : decode cX11_later 10 = .ok (.bipush (-2), 2) := by decide +kernel
theorem dX11_later_12 : decode cX11_later 12 = .ok (.ireturn, 1) := by decide +kernel
theorem dX11_later_13 : decode cX11_later 13 = .ok (.iload_n 2, 1) := by decide +kernel
theorem dX11_later_14 : decode cX11_later 14 = .ok (.ifCond .lt 9, 3) := by decide +kernel
theorem dX11_later_17 : decode cX11_later 17 = .ok (.iload_n 2, 1) := by decide +kernel
theorem dX11_later_18 : decode cX11_later 18 = .ok (.bipush 20, 2) := by decide +kernel
theorem dX11_later_20 : decode cX11_later 20 = .ok (.if_icmp .le 6, 3) := by decide +kernel
theorem dX11_later_23 : decode cX11_later 23 = .ok (.bipush (-3), 2) := by decide +kernel
theorem dX11_later_25 : decode cX11_later 25 = .ok (.ireturn, 1) := by decide +kernel
theorem dX11_later_26 : decode cX11_later 26 = .ok (.aload_n 0, 1) := by decide +kernel
theorem dX11_later_27 : decode cX11_later 27 = .ok (.getfield 49, 3) := by decide +kernel
theorem dX11_later_30 : decode cX11_later 30 = .ok (.aload_n 0, 1) := by decide +kernel
theorem dX11_later_31 : decode cX11_later 31 = .ok (.getfield 46, 3) := by decide +kernel
theorem dX11_later_34 : decode cX11_later 34 = .ok (.invokevirtual 121, 3) := by decide +kernel
theorem dX11_later_37 : decode cX11_later 37 = .ok (.iconst 0, 1) := by decide +kernel
theorem dX11_later_38 : decode cX11_later 38 = .ok (.istore_n 3, 1) := by decide +kernel
theorem dX11_later_39 : decode cX11_later 39 = .ok (.iload_n 3, 1) := by decide +kernel
theorem dX11_later_40 : decode cX11_later 40 = .ok (.iload_n 2, 1) := by decide +kernel
theorem dX11_later_41 : decode cX11_later 41 = .ok (.if_icmp .ge 16, 3) := by decide +kernel
theorem dX11_later_44 : decode cX11_later 44 = .ok (.aload_n 0, 1) := by decide +kernel
theorem dX11_later_45 : decode cX11_later 45 = .ok (.getfield 49, 3) := by decide +kernel
theorem dX11_later_48 : decode cX11_later 48 = .ok (.invokevirtual 216, 3) := by decide +kernel
theorem dX11_later_51 : decode cX11_later 51 = .ok (.iinc 3 1, 3) := by decide +kernel
theorem dX11_later_54 : decode cX11_later 54 = .ok (.goto (-15), 3) := by decide +kernel
theorem dX11_later_57 : decode cX11_later 57 = .ok (.aload_n 0, 1) := by decide +kernel
theorem dX11_later_58 : decode cX11_later 58 = .ok (.getfield 49, 3) := by decide +kernel
theorem dX11_later_61 : decode cX11_later 61 = .ok (.iload_n 1, 1) := by decide +kernel
theorem dX11_later_62 : decode cX11_later 62 = .ok (.invokevirtual 226, 3) := by decide +kernel
theorem dX11_later_65 : decode cX11_later 65 = .ok (.ireturn, 1) := by decide +kernel
theorem dX11_stands_0 : decode cX11_stands 0 = .ok (.iload_n 1, 1) := by decide +kernel
theorem dX11_stands_1 : decode cX11_stands 1 = .ok (.ifCond .lt 9, 3) := by decide +kernel
theorem dX11_stands_4 : decode cX11_stands 4 = .ok (.iload_n 1, 1) := by decide +kernel
theorem dX11_stands_5 : decode cX11_stands 5 = .ok (.bipush 64, 2) := by decide +kernel
theorem dX11_stands_7 : decode cX11_stands 7 = .ok (.if_icmp .lt 6, 3) := by decide +kernel
theorem dX11_stands_10 : decode cX11_stands 10 = .ok (.bipush (-2), 2) := by decide +kernel
theorem dX11_stands_12 : decode cX11_stands 12 = .ok (.ireturn, 1) := by decide +kernel
theorem dX11_stands_13 : decode cX11_stands 13 = .ok (.iload_n 2, 1) := by decide +kernel
theorem dX11_stands_14 : decode cX11_stands 14 = .ok (.ifCond .lt 9, 3) := by decide +kernel
theorem dX11_stands_17 : decode cX11_stands 17 = .ok (.iload_n 2, 1) := by decide +kernel
theorem dX11_stands_18 : decode cX11_stands 18 = .ok (.bipush 20, 2) := by decide +kernel
theorem dX11_stands_20 : decode cX11_stands 20 = .ok (.if_icmp .le 6, 3) := by decide +kernel
theorem dX11_stands_23 : decode cX11_stands 23 = .ok (.bipush (-3), 2) := by decide +kernel
theorem dX11_stands_25 : decode cX11_stands 25 = .ok (.ireturn, 1) := by decide +kernel
theorem dX11_stands_26 : decode cX11_stands 26 = .ok (.aload_n 0, 1) := by decide +kernel
theorem dX11_stands_27 : decode cX11_stands 27 = .ok (.iload_n 2, 1) := by decide +kernel
theorem dX11_stands_28 : decode cX11_stands 28 = .ok (.invokevirtual 229, 3) := by decide +kernel
theorem dX11_stands_31 : decode cX11_stands 31 = .ok (.iconst (-1), 1) := by decide +kernel
theorem dX11_stands_32 : decode cX11_stands 32 = .ok (.istore_n 3, 1) := by decide +kernel
theorem dX11_stands_33 : decode cX11_stands 33 = .ok (.iconst 0, 1) := by decide +kernel
theorem dX11_stands_34 : decode cX11_stands 34 = .ok (.istore 4, 2) := by decide +kernel
theorem dX11_stands_36 : decode cX11_stands 36 = .ok (.iload 4, 2) := by decide +kernel
theorem dX11_stands_38 : decode cX11_stands 38 = .ok (.sipush 128, 3) := by decide +kernel
theorem dX11_stands_41 : decode cX11_stands 41 = .ok (.if_icmp .ge 54, 3) := by decide +kernel
theorem dX11_stands_44 : decode cX11_stands 44 = .ok (.iload_n 3, 1) := by decide +kernel
theorem dX11_stands_45 : decode cX11_stands 45 = .ok (.iconst (-1), 1) := by decide +kernel
theorem dX11_stands_46 : decode cX11_stands 46 = .ok (.if_icmp .eq 15, 3) := by decide +kernel
theorem dX11_stands_49 : decode cX11_stands 49 = .ok (.iload 4, 2) := by decide +kernel
theorem dX11_stands_51 : decode cX11_stands 51 = .ok (.invokestatic 233, 3) := by decide +kernel
theorem dX11_stands_54 : decode cX11_stands 54 = .ok (.iload_n 3, 1) := by decide +kernel
theorem dX11_stands_55 : decode cX11_stands 55 = .ok (.invokestatic 233, 3) := by decide +kernel
theorem dX11_stands_58 : decode cX11_stands 58 = .ok (.if_icmp .ge 7, 3) := by decide +kernel
theorem dX11_stands_61 : decode cX11_stands 61 = .ok (.iconst 1, 1) := by decide +kernel
theorem dX11_stands_62 : decode cX11_stands 62 = .ok (.goto 4, 3) := by decide +kernel
theorem dX11_stands_65 : decode cX11_stands 65 = .ok (.iconst 0, 1) := by decide +kernel
theorem dX11_stands_66 : decode cX11_stands 66 = .ok (.istore 5, 2) := by decide +kernel
theorem dX11_stands_68 : decode cX11_stands 68 = .ok (.iload 5, 2) := by decide +kernel
theorem dX11_stands_70 : decode cX11_stands 70 = .ok (.ifCond .eq 19, 3) := by decide +kernel
theorem dX11_stands_73 : decode cX11_stands 73 = .ok (.iload_n 1, 1) := by decide +kernel
theorem dX11_stands_74 : decode cX11_stands 74 = .ok (.aload_n 0, 1) := by decide +kernel
theorem dX11_stands_75 : decode cX11_stands 75 = .ok (.iload 4, 2) := by decide +kernel
theorem dX11_stands_77 : decode cX11_stands 77 = .ok (.invokevirtual 238, 3) := by decide +kernel
theorem dX11_stands_80 : decode cX11_stands 80 = .ok (.iconst (-1), 1) := by decide +kernel
theorem dX11_stands_81 : decode cX11_stands 81 = .ok (.ixor, 1) := by decide +kernel
theorem dX11_stands_82 : decode cX11_stands 82 = .ok (.iand, 1) := by decide +kernel
theorem dX11_stands_83 : decode cX11_stands 83 = .ok (.ifCond .ne 6, 3) := by decide +kernel
theorem dX11_stands_86 : decode cX11_stands 86 = .ok (.iload 4, 2) := by decide +kernel
theorem dX11_stands_88 : decode cX11_stands 88 = .ok (.istore_n 3, 1) := by decide +kernel
theorem dX11_stands_89 : decode cX11_stands 89 = .ok (.iinc 4 1, 3) := by decide +kernel
theorem dX11_stands_92 : decode cX11_stands 92 = .ok (.goto (-56), 3) := by decide +kernel
theorem dX11_stands_95 : decode cX11_stands 95 = .ok (.iload_n 3, 1) := by decide +kernel
theorem dX11_stands_96 : decode cX11_stands 96 = .ok (.ireturn, 1) := by decide +kernel
theorem dX11_plan_0 : decode cX11_plan 0 = .ok (.iload_n 1, 1) := by decide +kernel
theorem dX11_plan_1 : decode cX11_plan 1 = .ok (.iconst (-1), 1) := by decide +kernel
theorem dX11_plan_2 : decode cX11_plan 2 = .ok (.if_icmp .eq 17, 3) := by decide +kernel
theorem dX11_plan_5 : decode cX11_plan 5 = .ok (.aload_n 0, 1) := by decide +kernel
theorem dX11_plan_6 : decode cX11_plan 6 = .ok (.getfield 46, 3) := by decide +kernel
theorem dX11_plan_9 : decode cX11_plan 9 = .ok (.iload_n 1, 1) := by decide +kernel
theorem dX11_plan_10 : decode cX11_plan 10 = .ok (.invokevirtual 137, 3) := by decide +kernel
theorem dX11_plan_13 : decode cX11_plan 13 = .ok (.ifnonnull 6, 3) := by decide +kernel
theorem dX11_plan_16 : decode cX11_plan 16 = .ok (.bipush (-2), 2) := by decide +kernel
theorem dX11_plan_18 : decode cX11_plan 18 = .ok (.ireturn, 1) := by decide +kernel
theorem dX11_plan_19 : decode cX11_plan 19 = .ok (.aload_n 0, 1) := by decide +kernel
theorem dX11_plan_20 : decode cX11_plan 20 = .ok (.getfield 66, 3) := by decide +kernel
theorem dX11_plan_23 : decode cX11_plan 23 = .ok (.invokevirtual 241, 3) := by decide +kernel
theorem dX11_plan_26 : decode cX11_plan 26 = .ok (.iload_n 1, 1) := by decide +kernel
theorem dX11_plan_27 : decode cX11_plan 27 = .ok (.iconst (-1), 1) := by decide +kernel
theorem dX11_plan_28 : decode cX11_plan 28 = .ok (.if_icmp .ne 13, 3) := by decide +kernel
theorem dX11_plan_31 : decode cX11_plan 31 = .ok (.aload_n 0, 1) := by decide +kernel
theorem dX11_plan_32 : decode cX11_plan 32 = .ok (.getfield 66, 3) := by decide +kernel
theorem dX11_plan_35 : decode cX11_plan 35 = .ok (.getfield 244, 3) := by decide +kernel
theorem dX11_plan_38 : decode cX11_plan 38 = .ok (.goto 11, 3) := by decide +kernel
theorem dX11_plan_41 : decode cX11_plan 41 = .ok (.aload_n 0, 1) := by decide +kernel
theorem dX11_plan_42 : decode cX11_plan 42 = .ok (.getfield 66, 3) := by decide +kernel
theorem dX11_plan_45 : decode cX11_plan 45 = .ok (.iload_n 1, 1) := by decide +kernel
theorem dX11_plan_46 : decode cX11_plan 46 = .ok (.invokevirtual 247, 3) := by decide +kernel
theorem dX11_plan_49 : decode cX11_plan 49 = .ok (.ireturn, 1) := by decide +kernel
theorem dX11_needed_0 : decode cX11_needed 0 = .ok (.iload_n 1, 1) := by decide +kernel
theorem dX11_needed_1 : decode cX11_needed 1 = .ok (.ifCond .lt 16, 3) := by decide +kernel
theorem dX11_needed_4 : decode cX11_needed 4 = .ok (.iload_n 1, 1) := by decide +kernel
theorem dX11_needed_5 : decode cX11_needed 5 = .ok (.iconst 1, 1) := by decide +kernel
theorem dX11_needed_6 : decode cX11_needed 6 = .ok (.aload_n 0, 1) := by decide +kernel
theorem dX11_needed_7 : decode cX11_needed 7 = .ok (.getfield 46, 3) := by decide +kernel
theorem dX11_needed_10 : decode cX11_needed 10 = .ok (.getfield 250, 3) := by decide +kernel
theorem dX11_needed_13 : decode cX11_needed 13 = .ok (.ishl, 1) := by decide +kernel
theorem dX11_needed_14 : decode cX11_needed 14 = .ok (.if_icmp .lt 6, 3) := by decide +kernel
theorem dX11_needed_17 : decode cX11_needed 17 = .ok (.bipush (-2), 2) := by decide +kernel
theorem dX11_needed_19 : decode cX11_needed 19 = .ok (.ireturn, 1) := by decide +kernel
theorem dX11_needed_20 : decode cX11_needed 20 = .ok (.iconst 0, 1) := by decide +kernel
theorem dX11_needed_21 : decode cX11_needed 21 = .ok (.istore_n 2, 1) := by decide +kernel
theorem dX11_needed_22 : decode cX11_needed 22 = .ok (.iconst 0, 1) := by decide +kernel
theorem dX11_needed_23 : decode cX11_needed 23 = .ok (.istore_n 3, 1) := by decide +kernel
theorem dX11_needed_24 : decode cX11_needed 24 = .ok (.iload_n 3, 1) := by decide +kernel
theorem dX11_needed_25 : decode cX11_needed 25 = .ok (.aload_n 0, 1) := by decide +kernel
theorem dX11_needed_26 : decode cX11_needed 26 = .ok (.getfield 46, 3) := by decide +kernel
theorem dX11_needed_29 : decode cX11_needed 29 = .ok (.getfield 250, 3) := by decide +kernel
theorem dX11_needed_32 : decode cX11_needed 32 = .ok (.if_icmp .ge 41, 3) := by decide +kernel
theorem dX11_needed_35 : decode cX11_needed 35 = .ok (.iload_n 3, 1) := by decide +kernel
theorem dX11_needed_36 : decode cX11_needed 36 = .ok (.bipush 6, 2) := by decide +kernel
theorem dX11_needed_38 : decode cX11_needed 38 = .ok (.if_icmp .ge 35, 3) := by decide +kernel
theorem dX11_needed_41 : decode cX11_needed 41 = .ok (.iload_n 1, 1) := by decide +kernel
theorem dX11_needed_42 : decode cX11_needed 42 = .ok (.iload_n 3, 1) := by decide +kernel
theorem dX11_needed_43 : decode cX11_needed 43 = .ok (.ishr, 1) := by decide +kernel
theorem dX11_needed_44 : decode cX11_needed 44 = .ok (.iconst 1, 1) := by decide +kernel
theorem dX11_needed_45 : decode cX11_needed 45 = .ok (.iand, 1) := by decide +kernel
theorem dX11_needed_46 : decode cX11_needed 46 = .ok (.iconst 1, 1) := by decide +kernel
theorem dX11_needed_47 : decode cX11_needed 47 = .ok (.if_icmp .ne 20, 3) := by decide +kernel
theorem dX11_needed_50 : decode cX11_needed 50 = .ok (.iload_n 2, 1) := by decide +kernel
theorem dX11_needed_51 : decode cX11_needed 51 = .ok (.aload_n 0, 1) := by decide +kernel
theorem dX11_needed_52 : decode cX11_needed 52 = .ok (.getfield 46, 3) := by decide +kernel
theorem dX11_needed_55 : decode cX11_needed 55 = .ok (.getfield 253, 3) := by decide +kernel
theorem dX11_needed_58 : decode cX11_needed 58 = .ok (.iload_n 3, 1) := by decide +kernel
theorem dX11_needed_59 : decode cX11_needed 59 = .ok (.aaload, 1) := by decide +kernel
theorem dX11_needed_60 : decode cX11_needed 60 = .ok (.getfield 174, 3) := by decide +kernel
theorem dX11_needed_63 : decode cX11_needed 63 = .ok (.iconst 5, 1) := by decide +kernel
theorem dX11_needed_64 : decode cX11_needed 64 = .ok (.iaload, 1) := by decide +kernel
theorem dX11_needed_65 : decode cX11_needed 65 = .ok (.iadd, 1) := by decide +kernel
theorem dX11_needed_66 : decode cX11_needed 66 = .ok (.istore_n 2, 1) := by decide +kernel
theorem dX11_needed_67 : decode cX11_needed 67 = .ok (.iinc 3 1, 3) := by decide +kernel
theorem dX11_needed_70 : decode cX11_needed 70 = .ok (.goto (-46), 3) := by decide +kernel
theorem dX11_needed_73 : decode cX11_needed 73 = .ok (.iload_n 2, 1) := by decide +kernel
theorem dX11_needed_74 : decode cX11_needed 74 = .ok (.ireturn, 1) := by decide +kernel
theorem dX11_seen_0 : decode cX11_seen 0 = .ok (.aload_n 0, 1) := by decide +kernel
theorem dX11_seen_1 : decode cX11_seen 1 = .ok (.getfield 46, 3) := by decide +kernel
theorem dX11_seen_4 : decode cX11_seen 4 = .ok (.iload_n 1, 1) := by decide +kernel
theorem dX11_seen_5 : decode cX11_seen 5 = .ok (.invokevirtual 137, 3) := by decide +kernel
theorem dX11_seen_8 : decode cX11_seen 8 = .ok (.ifnonnull 6, 3) := by decide +kernel
theorem dX11_seen_11 : decode cX11_seen 11 = .ok (.bipush (-2), 2) := by decide +kernel
theorem dX11_seen_13 : decode cX11_seen 13 = .ok (.ireturn, 1) := by decide +kernel
theorem dX11_seen_14 : decode cX11_seen 14 = .ok (.iload_n 2, 1) := by decide +kernel
theorem dX11_seen_15 : decode cX11_seen 15 = .ok (.iconst 1, 1) := by decide +kernel
theorem dX11_seen_16 : decode cX11_seen 16 = .ok (.if_icmp .lt 18, 3) := by decide +kernel
theorem dX11_seen_19 : decode cX11_seen 19 = .ok (.iload_n 2, 1) := by decide +kernel
theorem dX11_seen_20 : decode cX11_seen 20 = .ok (.iconst 3, 1) := by decide +kernel
theorem dX11_seen_21 : decode cX11_seen 21 = .ok (.if_icmp .gt 13, 3) := by decide +kernel
theorem dX11_seen_24 : decode cX11_seen 24 = .ok (.iload_n 3, 1) := by decide +kernel
theorem dX11_seen_25 : decode cX11_seen 25 = .ok (.ifCond .lt 9, 3) := by decide +kernel
theorem dX11_seen_28 : decode cX11_seen 28 = .ok (.iload_n 3, 1) := by decide +kernel
theorem dX11_seen_29 : decode cX11_seen 29 = .ok (.bipush 60, 2) := by decide +kernel
theorem dX11_seen_31 : decode cX11_seen 31 = .ok (.if_icmp .le 6, 3) := by decide +kernel
theorem dX11_seen_34 : decode cX11_seen 34 = .ok (.bipush (-3), 2) := by decide +kernel
theorem dX11_seen_36 : decode cX11_seen 36 = .ok (.ireturn, 1) := by decide +kernel
theorem dX11_seen_37 : decode cX11_seen 37 = .ok (.aload_n 0, 1) := by decide +kernel
theorem dX11_seen_38 : decode cX11_seen 38 = .ok (.getfield 128, 3) := by decide +kernel
theorem dX11_seen_41 : decode cX11_seen 41 = .ok (.ifCond .lt 12, 3) := by decide +kernel
theorem dX11_seen_44 : decode cX11_seen 44 = .ok (.aload_n 0, 1) := by decide +kernel
theorem dX11_seen_45 : decode cX11_seen 45 = .ok (.getfield 128, 3) := by decide +kernel
theorem dX11_seen_48 : decode cX11_seen 48 = .ok (.bipush 6, 2) := by decide +kernel
theorem dX11_seen_50 : decode cX11_seen 50 = .ok (.if_icmp .lt 6, 3) := by decide +kernel
theorem dX11_seen_53 : decode cX11_seen 53 = .ok (.bipush (-5), 2) := by decide +kernel
theorem dX11_seen_55 : decode cX11_seen 55 = .ok (.ireturn, 1) := by decide +kernel
theorem dX11_seen_56 : decode cX11_seen 56 = .ok (.aload_n 0, 1) := by decide +kernel
theorem dX11_seen_57 : decode cX11_seen 57 = .ok (.getfield 89, 3) := by decide +kernel
theorem dX11_seen_60 : decode cX11_seen 60 = .ok (.aload_n 0, 1) := by decide +kernel
theorem dX11_seen_61 : decode cX11_seen 61 = .ok (.getfield 128, 3) := by decide +kernel
theorem dX11_seen_64 : decode cX11_seen 64 = .ok (.iload_n 1, 1) := by decide +kernel
theorem dX11_seen_65 : decode cX11_seen 65 = .ok (.iastore, 1) := by decide +kernel
theorem dX11_seen_66 : decode cX11_seen 66 = .ok (.aload_n 0, 1) := by decide +kernel
theorem dX11_seen_67 : decode cX11_seen 67 = .ok (.getfield 92, 3) := by decide +kernel
theorem dX11_seen_70 : decode cX11_seen 70 = .ok (.aload_n 0, 1) := by decide +kernel
theorem dX11_seen_71 : decode cX11_seen 71 = .ok (.getfield 128, 3) := by decide +kernel
theorem dX11_seen_74 : decode cX11_seen 74 = .ok (.iload_n 2, 1) := by decide +kernel
theorem dX11_seen_75 : decode cX11_seen 75 = .ok (.iastore, 1) := by decide +kernel
theorem dX11_seen_76 : decode cX11_seen 76 = .ok (.aload_n 0, 1) := by decide +kernel
theorem dX11_seen_77 : decode cX11_seen 77 = .ok (.getfield 95, 3) := by decide +kernel
theorem dX11_seen_80 : decode cX11_seen 80 = .ok (.aload_n 0, 1) := by decide +kernel
theorem dX11_seen_81 : decode cX11_seen 81 = .ok (.getfield 128, 3) := by decide +kernel
theorem dX11_seen_84 : decode cX11_seen 84 = .ok (.iload_n 3, 1) := by decide +kernel
theorem dX11_seen_85 : decode cX11_seen 85 = .ok (.iastore, 1) := by decide +kernel
theorem dX11_seen_86 : decode cX11_seen 86 = .ok (.aload_n 0, 1) := by decide +kernel
theorem dX11_seen_87 : decode cX11_seen 87 = .ok (.dup, 1) := by decide +kernel
theorem dX11_seen_88 : decode cX11_seen 88 = .ok (.getfield 128, 3) := by decide +kernel
theorem dX11_seen_91 : decode cX11_seen 91 = .ok (.iconst 1, 1) := by decide +kernel
theorem dX11_seen_92 : decode cX11_seen 92 = .ok (.iadd, 1) := by decide +kernel
theorem dX11_seen_93 : decode cX11_seen 93 = .ok (.putfield 128, 3) := by decide +kernel
theorem dX11_seen_96 : decode cX11_seen 96 = .ok (.aload_n 0, 1) := by decide +kernel
theorem dX11_seen_97 : decode cX11_seen 97 = .ok (.getfield 128, 3) := by decide +kernel
theorem dX11_seen_100 : decode cX11_seen 100 = .ok (.ireturn, 1) := by decide +kernel
theorem dX11_forget_0 : decode cX11_forget 0 = .ok (.aload_n 0, 1) := by decide +kernel
theorem dX11_forget_1 : decode cX11_forget 1 = .ok (.getfield 128, 3) := by decide +kernel
theorem dX11_forget_4 : decode cX11_forget 4 = .ok (.istore_n 1, 1) := by decide +kernel
theorem dX11_forget_5 : decode cX11_forget 5 = .ok (.aload_n 0, 1) := by decide +kernel
theorem dX11_forget_6 : decode cX11_forget 6 = .ok (.iconst 0, 1) := by decide +kernel
theorem dX11_forget_7 : decode cX11_forget 7 = .ok (.putfield 128, 3) := by decide +kernel
theorem dX11_forget_10 : decode cX11_forget 10 = .ok (.iload_n 1, 1) := by decide +kernel
theorem dX11_forget_11 : decode cX11_forget 11 = .ok (.ireturn, 1) := by decide +kernel
theorem dX11_kinds_0 : decode cX11_kinds 0 = .ok (.aload_n 0, 1) := by decide +kernel
theorem dX11_kinds_1 : decode cX11_kinds 1 = .ok (.getfield 46, 3) := by decide +kernel
theorem dX11_kinds_4 : decode cX11_kinds 4 = .ok (.iload_n 1, 1) := by decide +kernel
theorem dX11_kinds_5 : decode cX11_kinds 5 = .ok (.invokevirtual 137, 3) := by decide +kernel
theorem dX11_kinds_8 : decode cX11_kinds 8 = .ok (.astore_n 2, 1) := by decide +kernel
theorem dX11_kinds_9 : decode cX11_kinds 9 = .ok (.aload_n 2, 1) := by decide +kernel
theorem dX11_kinds_10 : decode cX11_kinds 10 = .ok (.ifnonnull 6, 3) := by decide +kernel
theorem dX11_kinds_13 : decode cX11_kinds 13 = .ok (.bipush (-2), 2) := by decide +kernel
theorem dX11_kinds_15 : decode cX11_kinds 15 = .ok (.ireturn, 1) := by decide +kernel
theorem dX11_kinds_16 : decode cX11_kinds 16 = .ok (.iconst 0, 1) := by decide +kernel
theorem dX11_kinds_17 : decode cX11_kinds 17 = .ok (.istore_n 3, 1) := by decide +kernel
theorem dX11_kinds_18 : decode cX11_kinds 18 = .ok (.iconst 0, 1) := by decide +kernel
theorem dX11_kinds_19 : decode cX11_kinds 19 = .ok (.istore 4, 2) := by decide +kernel
theorem dX11_kinds_21 : decode cX11_kinds 21 = .ok (.iload 4, 2) := by decide +kernel
theorem dX11_kinds_23 : decode cX11_kinds 23 = .ok (.aload_n 0, 1) := by decide +kernel
theorem dX11_kinds_24 : decode cX11_kinds 24 = .ok (.getfield 21, 3) := by decide +kernel
theorem dX11_kinds_27 : decode cX11_kinds 27 = .ok (.arraylength, 1) := by decide +kernel
theorem dX11_kinds_28 : decode cX11_kinds 28 = .ok (.if_icmp .ge 32, 3) := by decide +kernel
theorem dX11_kinds_31 : decode cX11_kinds 31 = .ok (.aload_n 0, 1) := by decide +kernel
theorem dX11_kinds_32 : decode cX11_kinds 32 = .ok (.iload_n 1, 1) := by decide +kernel
theorem dX11_kinds_33 : decode cX11_kinds 33 = .ok (.aload_n 2, 1) := by decide +kernel
theorem dX11_kinds_34 : decode cX11_kinds 34 = .ok (.aload_n 0, 1) := by decide +kernel
theorem dX11_kinds_35 : decode cX11_kinds 35 = .ok (.getfield 21, 3) := by decide +kernel
theorem dX11_kinds_38 : decode cX11_kinds 38 = .ok (.iload 4, 2) := by decide +kernel
theorem dX11_kinds_40 : decode cX11_kinds 40 = .ok (.aaload, 1) := by decide +kernel
theorem dX11_kinds_41 : decode cX11_kinds 41 = .ok (.invokevirtual 257, 3) := by decide +kernel
theorem dX11_kinds_44 : decode cX11_kinds 44 = .ok (.ifCond .eq 10, 3) := by decide +kernel
theorem dX11_kinds_47 : decode cX11_kinds 47 = .ok (.iload_n 3, 1) := by decide +kernel
theorem dX11_kinds_48 : decode cX11_kinds 48 = .ok (.iconst 1, 1) := by decide +kernel
theorem dX11_kinds_49 : decode cX11_kinds 49 = .ok (.iload 4, 2) := by decide +kernel
theorem dX11_kinds_51 : decode cX11_kinds 51 = .ok (.ishl, 1) := by decide +kernel
theorem dX11_kinds_52 : decode cX11_kinds 52 = .ok (.ior, 1) := by decide +kernel
theorem dX11_kinds_53 : decode cX11_kinds 53 = .ok (.istore_n 3, 1) := by decide +kernel
theorem dX11_kinds_54 : decode cX11_kinds 54 = .ok (.iinc 4 1, 3) := by decide +kernel
theorem dX11_kinds_57 : decode cX11_kinds 57 = .ok (.goto (-36), 3) := by decide +kernel
theorem dX11_kinds_60 : decode cX11_kinds 60 = .ok (.iload_n 3, 1) := by decide +kernel
theorem dX11_kinds_61 : decode cX11_kinds 61 = .ok (.ireturn, 1) := by decide +kernel
theorem dX11_lightning_0 : decode cX11_lightning 0 = .ok (.iload_n 1, 1) := by decide +kernel
theorem dX11_lightning_1 : decode cX11_lightning 1 = .ok (.ifCond .lt 33, 3) := by decide +kernel
theorem dX11_lightning_4 : decode cX11_lightning 4 = .ok (.iload_n 1, 1) := by decide +kernel
theorem dX11_lightning_5 : decode cX11_lightning 5 = .ok (.bipush 8, 2) := by decide +kernel
theorem dX11_lightning_7 : decode cX11_lightning 7 = .ok (.if_icmp .gt 27, 3) := by decide +kernel
theorem dX11_lightning_10 : decode cX11_lightning 10 = .ok (.iload_n 2, 1) := by decide +kernel
theorem dX11_lightning_11 : decode cX11_lightning 11 = .ok (.ifCond .lt 23, 3) := by decide +kernel
theorem dX11_lightning_14 : decode cX11_lightning 14 = .ok (.iload_n 2, 1) := by decide +kernel
theorem dX11_lightning_15 : decode cX11_lightning 15 = .ok (.bipush 10, 2) := by decide +kernel
theorem dX11_lightning_17 : decode cX11_lightning 17 = .ok (.if_icmp .gt 17, 3) := by decide +kernel
theorem dX11_lightning_20 : decode cX11_lightning 20 = .ok (.iload_n 3, 1) := by decide +kernel
theorem dX11_lightning_21 : decode cX11_lightning 21 = .ok (.ifCond .lt 13, 3) := by decide +kernel
theorem dX11_lightning_24 : decode cX11_lightning 24 = .ok (.iload_n 3, 1) := by decide +kernel
theorem dX11_lightning_25 : decode cX11_lightning 25 = .ok (.bipush 9, 2) := by decide +kernel
theorem dX11_lightning_27 : decode cX11_lightning 27 = .ok (.if_icmp .gt 7, 3) := by decide +kernel
theorem dX11_lightning_30 : decode cX11_lightning 30 = .ok (.iconst 1, 1) := by decide +kernel
theorem dX11_lightning_31 : decode cX11_lightning 31 = .ok (.goto 4, 3) := by decide +kernel
theorem dX11_lightning_34 : decode cX11_lightning 34 = .ok (.iconst 0, 1) := by decide +kernel
theorem dX11_lightning_35 : decode cX11_lightning 35 = .ok (.istore 5, 2) := by decide +kernel
theorem dX11_lightning_37 : decode cX11_lightning 37 = .ok (.iload 5, 2) := by decide +kernel
theorem dX11_lightning_39 : decode cX11_lightning 39 = .ok (.ifCond .eq 14, 3) := by decide +kernel
theorem dX11_lightning_42 : decode cX11_lightning 42 = .ok (.iload 4, 2) := by decide +kernel
theorem dX11_lightning_44 : decode cX11_lightning 44 = .ok (.ifCond .lt 9, 3) := by decide +kernel
theorem dX11_lightning_47 : decode cX11_lightning 47 = .ok (.iload 4, 2) := by decide +kernel
theorem dX11_lightning_49 : decode cX11_lightning 49 = .ok (.iconst 1, 1) := by decide +kernel
theorem dX11_lightning_50 : decode cX11_lightning 50 = .ok (.if_icmp .le 6, 3) := by decide +kernel
theorem dX11_lightning_53 : decode cX11_lightning 53 = .ok (.bipush (-3), 2) := by decide +kernel
theorem dX11_lightning_55 : decode cX11_lightning 55 = .ok (.ireturn, 1) := by decide +kernel
theorem dX11_lightning_56 : decode cX11_lightning 56 = .ok (.lconst 0, 1) := by decide +kernel
theorem dX11_lightning_57 : decode cX11_lightning 57 = .ok (.lstore 6, 2) := by decide +kernel
theorem dX11_lightning_59 : decode cX11_lightning 59 = .ok (.iload_n 3, 1) := by decide +kernel
theorem dX11_lightning_60 : decode cX11_lightning 60 = .ok (.istore 8, 2) := by decide +kernel
theorem dX11_lightning_62 : decode cX11_lightning 62 = .ok (.iload 8, 2) := by decide +kernel
theorem dX11_lightning_64 : decode cX11_lightning 64 = .ok (.iload_n 1, 1) := by decide +kernel
theorem dX11_lightning_65 : decode cX11_lightning 65 = .ok (.if_icmp .gt 39, 3) := by decide +kernel
theorem dX11_lightning_68 : decode cX11_lightning 68 = .ok (.lload 6, 2) := by decide +kernel
theorem dX11_lightning_70 : decode cX11_lightning 70 = .ok (.iload_n 1, 1) := by decide +kernel
theorem dX11_lightning_71 : decode cX11_lightning 71 = .ok (.iload 8, 2) := by decide +kernel
theorem dX11_lightning_73 : decode cX11_lightning 73 = .ok (.invokestatic 261, 3) := by decide +kernel
theorem dX11_lightning_76 : decode cX11_lightning 76 = .ok (.bipush 10, 2) := by decide +kernel
theorem dX11_lightning_78 : decode cX11_lightning 78 = .ok (.iload_n 2, 1) := by decide +kernel
theorem dX11_lightning_79 : decode cX11_lightning 79 = .ok (.isub, 1) := by decide +kernel
theorem dX11_lightning_80 : decode cX11_lightning 80 = .ok (.iload 8, 2) := by decide +kernel
theorem dX11_lightning_82 : decode cX11_lightning 82 = .ok (.invokestatic 265, 3) := by decide +kernel
theorem dX11_lightning_85 : decode cX11_lightning 85 = .ok (.lmul, 1) := by decide +kernel
theorem dX11_lightning_86 : decode cX11_lightning 86 = .ok (.iload_n 2, 1) := by decide +kernel
theorem dX11_lightning_87 : decode cX11_lightning 87 = .ok (.iload_n 1, 1) := by decide +kernel
theorem dX11_lightning_88 : decode cX11_lightning 88 = .ok (.iload 8, 2) := by decide +kernel
theorem dX11_lightning_90 : decode cX11_lightning 90 = .ok (.isub, 1) := by decide +kernel
theorem dX11_lightning_91 : decode cX11_lightning 91 = .ok (.invokestatic 265, 3) := by decide +kernel
theorem dX11_lightning_94 : decode cX11_lightning 94 = .ok (.lmul, 1) := by decide +kernel
theorem dX11_lightning_95 : decode cX11_lightning 95 = .ok (.ladd, 1) := by decide +kernel
theorem dX11_lightning_96 : decode cX11_lightning 96 = .ok (.lstore 6, 2) := by decide +kernel
theorem dX11_lightning_98 : decode cX11_lightning 98 = .ok (.iinc 8 1, 3) := by decide +kernel
theorem dX11_lightning_101 : decode cX11_lightning 101 = .ok (.goto (-39), 3) := by decide +kernel
theorem dX11_lightning_104 : decode cX11_lightning 104 = .ok (.bipush 10, 2) := by decide +kernel
theorem dX11_lightning_106 : decode cX11_lightning 106 = .ok (.iload_n 1, 1) := by decide +kernel
theorem dX11_lightning_107 : decode cX11_lightning 107 = .ok (.invokestatic 265, 3) := by decide +kernel
theorem dX11_lightning_110 : decode cX11_lightning 110 = .ok (.lstore 8, 2) := by decide +kernel
theorem dX11_lightning_112 : decode cX11_lightning 112 = .ok (.lload 6, 2) := by decide +kernel
theorem dX11_lightning_114 : decode cX11_lightning 114 = .ok (.lload 8, 2) := by decide +kernel
theorem dX11_lightning_116 : decode cX11_lightning 116 = .ok (.invokestatic 268, 3) := by decide +kernel
theorem dX11_lightning_119 : decode cX11_lightning 119 = .ok (.lstore 10, 2) := by decide +kernel
theorem dX11_lightning_121 : decode cX11_lightning 121 = .ok (.lload 10, 2) := by decide +kernel
theorem dX11_lightning_123 : decode cX11_lightning 123 = .ok (.lconst 1, 1) := by decide +kernel
theorem dX11_lightning_124 : decode cX11_lightning 124 = .ok (.lcmp, 1) := by decide +kernel
theorem dX11_lightning_125 : decode cX11_lightning 125 = .ok (.ifCond .ge 5, 3) := by decide +kernel
theorem dX11_lightning_128 : decode cX11_lightning 128 = .ok (.iconst (-1), 1) := by decide +kernel
theorem dX11_lightning_129 : decode cX11_lightning 129 = .ok (.ireturn, 1) := by decide +kernel
theorem dX11_lightning_130 : decode cX11_lightning 130 = .ok (.iload 4, 2) := by decide +kernel
theorem dX11_lightning_132 : decode cX11_lightning 132 = .ok (.ifCond .ne 8, 3) := by decide +kernel
theorem dX11_lightning_135 : decode cX11_lightning 135 = .ok (.lload 6, 2) := by decide +kernel
theorem dX11_lightning_137 : decode cX11_lightning 137 = .ok (.goto 5, 3) := by decide +kernel
theorem dX11_lightning_140 : decode cX11_lightning 140 = .ok (.lload 8, 2) := by decide +kernel
theorem dX11_lightning_142 : decode cX11_lightning 142 = .ok (.lload 10, 2) := by decide +kernel
theorem dX11_lightning_144 : decode cX11_lightning 144 = .ok (.ldiv, 1) := by decide +kernel
theorem dX11_lightning_145 : decode cX11_lightning 145 = .ok (.l2i, 1) := by decide +kernel
theorem dX11_lightning_146 : decode cX11_lightning 146 = .ok (.ireturn, 1) := by decide +kernel
theorem dX11_line_0 : decode cX11_line 0 = .ok (.aload_n 0, 1) := by decide +kernel
theorem dX11_line_1 : decode cX11_line 1 = .ok (.iload_n 1, 1) := by decide +kernel
theorem dX11_line_2 : decode cX11_line 2 = .ok (.invokevirtual 272, 3) := by decide +kernel
theorem dX11_line_5 : decode cX11_line 5 = .ok (.astore 4, 2) := by decide +kernel
theorem dX11_line_7 : decode cX11_line 7 = .ok (.aload 4, 2) := by decide +kernel
theorem dX11_line_9 : decode cX11_line 9 = .ok (.ifnonnull 6, 3) := by decide +kernel
theorem dX11_line_12 : decode cX11_line 12 = .ok (.bipush (-2), 2) := by decide +kernel
theorem dX11_line_14 : decode cX11_line 14 = .ok (.ireturn, 1) := by decide +kernel
theorem dX11_line_15 : decode cX11_line 15 = .ok (.iload_n 2, 1) := by decide +kernel
theorem dX11_line_16 : decode cX11_line 16 = .ok (.ifCond .lt 14, 3) := by decide +kernel
theorem dX11_line_19 : decode cX11_line 19 = .ok (.iload_n 2, 1) := by decide +kernel
theorem dX11_line_20 : decode cX11_line 20 = .ok (.iconst 2, 1) := by decide +kernel
theorem dX11_line_21 : decode cX11_line 21 = .ok (.if_icmp .gt 9, 3) := by decide +kernel
theorem dX11_line_24 : decode cX11_line 24 = .ok (.iload_n 3, 1) := by decide +kernel
theorem dX11_line_25 : decode cX11_line 25 = .ok (.bipush 16, 2) := by decide +kernel
theorem dX11_line_27 : decode cX11_line 27 = .ok (.if_icmp .le 6, 3) := by decide +kernel
theorem dX11_line_30 : decode cX11_line 30 = .ok (.bipush (-3), 2) := by decide +kernel
theorem dX11_line_32 : decode cX11_line 32 = .ok (.ireturn, 1) := by decide +kernel
theorem dX11_line_33 : decode cX11_line 33 = .ok (.iload_n 3, 1) := by decide +kernel
theorem dX11_line_34 : decode cX11_line 34 = .ok (.ifCond .ge 6, 3) := by decide +kernel
theorem dX11_line_37 : decode cX11_line 37 = .ok (.bipush (-16), 2) := by decide +kernel
theorem dX11_line_39 : decode cX11_line 39 = .ok (.ireturn, 1) := by decide +kernel
theorem dX11_line_40 : decode cX11_line 40 = .ok (.aload 4, 2) := by decide +kernel
theorem dX11_line_42 : decode cX11_line 42 = .ok (.iload_n 2, 1) := by decide +kernel
theorem dX11_line_43 : decode cX11_line 43 = .ok (.iload_n 3, 1) := by decide +kernel
theorem dX11_line_44 : decode cX11_line 44 = .ok (.invokevirtual 276, 3) := by decide +kernel
theorem dX11_line_47 : decode cX11_line 47 = .ok (.iload_n 3, 1) := by decide +kernel
theorem dX11_line_48 : decode cX11_line 48 = .ok (.ireturn, 1) := by decide +kernel
theorem dX11_pin_0 : decode cX11_pin 0 = .ok (.aload_n 0, 1) := by decide +kernel
theorem dX11_pin_1 : decode cX11_pin 1 = .ok (.iload_n 1, 1) := by decide +kernel
theorem dX11_pin_2 : decode cX11_pin 2 = .ok (.invokevirtual 272, 3) := by decide +kernel
theorem dX11_pin_5 : decode cX11_pin 5 = .ok (.astore 5, 2) := by decide +kernel
theorem dX11_pin_7 : decode cX11_pin 7 = .ok (.aload 5, 2) := by decide +kernel
theorem dX11_pin_9 : decode cX11_pin 9 = .ok (.ifnull 19, 3) := by decide +kernel
theorem dX11_pin_12 : decode cX11_pin 12 = .ok (.iload_n 3, 1) := by decide +kernel
theorem dX11_pin_13 : decode cX11_pin 13 = .ok (.ifCond .ne 18, 3) := by decide +kernel
theorem dX11_pin_16 : decode cX11_pin 16 = .ok (.aload_n 0, 1) := by decide +kernel
theorem dX11_pin_17 : decode cX11_pin 17 = .ok (.getfield 46, 3) := by decide +kernel
theorem dX11_pin_20 : decode cX11_pin 20 = .ok (.iload 4, 2) := by decide +kernel
theorem dX11_pin_22 : decode cX11_pin 22 = .ok (.invokevirtual 137, 3) := by decide +kernel
theorem dX11_pin_25 : decode cX11_pin 25 = .ok (.ifnonnull 6, 3) := by decide +kernel
theorem dX11_pin_28 : decode cX11_pin 28 = .ok (.bipush (-2), 2) := by decide +kernel
theorem dX11_pin_30 : decode cX11_pin 30 = .ok (.ireturn, 1) := by decide +kernel
theorem dX11_pin_31 : decode cX11_pin 31 = .ok (.iload_n 3, 1) := by decide +kernel
theorem dX11_pin_32 : decode cX11_pin 32 = .ok (.ifCond .lt 29, 3) := by decide +kernel
theorem dX11_pin_35 : decode cX11_pin 35 = .ok (.iload_n 3, 1) := by decide +kernel
theorem dX11_pin_36 : decode cX11_pin 36 = .ok (.iconst 2, 1) := by decide +kernel
theorem dX11_pin_37 : decode cX11_pin 37 = .ok (.if_icmp .gt 24, 3) := by decide +kernel
theorem dX11_pin_40 : decode cX11_pin 40 = .ok (.iload_n 3, 1) := by decide +kernel
theorem dX11_pin_41 : decode cX11_pin 41 = .ok (.iconst 1, 1) := by decide +kernel
theorem dX11_pin_42 : decode cX11_pin 42 = .ok (.if_icmp .ne 22, 3) := by decide +kernel
theorem dX11_pin_45 : decode cX11_pin 45 = .ok (.iload 4, 2) := by decide +kernel
theorem dX11_pin_47 : decode cX11_pin 47 = .ok (.sipush (-999), 3) := by decide +kernel
theorem dX11_pin_50 : decode cX11_pin 50 = .ok (.if_icmp .lt 11, 3) := by decide +kernel
theorem dX11_pin_53 : decode cX11_pin 53 = .ok (.iload 4, 2) := by decide +kernel
theorem dX11_pin_55 : decode cX11_pin 55 = .ok (.sipush 999, 3) := by decide +kernel
theorem dX11_pin_58 : decode cX11_pin 58 = .ok (.if_icmp .le 6, 3) := by decide +kernel
theorem dX11_pin_61 : decode cX11_pin 61 = .ok (.bipush (-3), 2) := by decide +kernel
theorem dX11_pin_63 : decode cX11_pin 63 = .ok (.ireturn, 1) := by decide +kernel
theorem dX11_pin_64 : decode cX11_pin 64 = .ok (.aload 5, 2) := by decide +kernel
theorem dX11_pin_66 : decode cX11_pin 66 = .ok (.getfield 124, 3) := by decide +kernel
theorem dX11_pin_69 : decode cX11_pin 69 = .ok (.ifCond .ne 6, 3) := by decide +kernel
theorem dX11_pin_72 : decode cX11_pin 72 = .ok (.bipush (-11), 2) := by decide +kernel
theorem dX11_pin_74 : decode cX11_pin 74 = .ok (.ireturn, 1) := by decide +kernel
theorem dX11_pin_75 : decode cX11_pin 75 = .ok (.aload 5, 2) := by decide +kernel
theorem dX11_pin_77 : decode cX11_pin 77 = .ok (.iload_n 2, 1) := by decide +kernel
theorem dX11_pin_78 : decode cX11_pin 78 = .ok (.iconst 1, 1) := by decide +kernel
theorem dX11_pin_79 : decode cX11_pin 79 = .ok (.invokevirtual 280, 3) := by decide +kernel
theorem dX11_pin_82 : decode cX11_pin 82 = .ok (.ifCond .ne 6, 3) := by decide +kernel
theorem dX11_pin_85 : decode cX11_pin 85 = .ok (.bipush (-12), 2) := by decide +kernel
theorem dX11_pin_87 : decode cX11_pin 87 = .ok (.ireturn, 1) := by decide +kernel
theorem dX11_pin_88 : decode cX11_pin 88 = .ok (.iload_n 3, 1) := by decide +kernel
theorem dX11_pin_89 : decode cX11_pin 89 = .ok (.ifCond .ne 7, 3) := by decide +kernel
theorem dX11_pin_92 : decode cX11_pin 92 = .ok (.iconst 1, 1) := by decide +kernel
theorem dX11_pin_93 : decode cX11_pin 93 = .ok (.goto 13, 3) := by decide +kernel
theorem dX11_pin_96 : decode cX11_pin 96 = .ok (.iload_n 3, 1) := by decide +kernel
theorem dX11_pin_97 : decode cX11_pin 97 = .ok (.iconst 1, 1) := by decide +kernel
theorem dX11_pin_98 : decode cX11_pin 98 = .ok (.if_icmp .ne 7, 3) := by decide +kernel
theorem dX11_pin_101 : decode cX11_pin 101 = .ok (.iconst 2, 1) := by decide +kernel
theorem dX11_pin_102 : decode cX11_pin 102 = .ok (.goto 4, 3) := by decide +kernel
theorem dX11_pin_105 : decode cX11_pin 105 = .ok (.iconst 0, 1) := by decide +kernel
theorem dX11_pin_106 : decode cX11_pin 106 = .ok (.istore 6, 2) := by decide +kernel
theorem dX11_pin_108 : decode cX11_pin 108 = .ok (.aload 5, 2) := by decide +kernel
theorem dX11_pin_110 : decode cX11_pin 110 = .ok (.iload 6, 2) := by decide +kernel
theorem dX11_pin_112 : decode cX11_pin 112 = .ok (.invokevirtual 284, 3) := by decide +kernel
theorem dX11_pin_115 : decode cX11_pin 115 = .ok (.ifCond .ne 6, 3) := by decide +kernel
theorem dX11_pin_118 : decode cX11_pin 118 = .ok (.bipush (-13), 2) := by decide +kernel
theorem dX11_pin_120 : decode cX11_pin 120 = .ok (.ireturn, 1) := by decide +kernel
theorem dX11_pin_121 : decode cX11_pin 121 = .ok (.aload 5, 2) := by decide +kernel
theorem dX11_pin_123 : decode cX11_pin 123 = .ok (.iload_n 2, 1) := by decide +kernel
theorem dX11_pin_124 : decode cX11_pin 124 = .ok (.iload 6, 2) := by decide +kernel
theorem dX11_pin_126 : decode cX11_pin 126 = .ok (.iload 4, 2) := by decide +kernel
theorem dX11_pin_128 : decode cX11_pin 128 = .ok (.invokevirtual 287, 3) := by decide +kernel
theorem dX11_pin_131 : decode cX11_pin 131 = .ok (.iconst 1, 1) := by decide +kernel
theorem dX11_pin_132 : decode cX11_pin 132 = .ok (.ireturn, 1) := by decide +kernel
theorem dX11_peg_0 : decode cX11_peg 0 = .ok (.aload_n 0, 1) := by decide +kernel
theorem dX11_peg_1 : decode cX11_peg 1 = .ok (.iload_n 1, 1) := by decide +kernel
theorem dX11_peg_2 : decode cX11_peg 2 = .ok (.invokevirtual 272, 3) := by decide +kernel
theorem dX11_peg_5 : decode cX11_peg 5 = .ok (.astore 4, 2) := by decide +kernel
theorem dX11_peg_7 : decode cX11_peg 7 = .ok (.aload 4, 2) := by decide +kernel
theorem dX11_peg_9 : decode cX11_peg 9 = .ok (.ifnonnull 6, 3) := by decide +kernel
theorem dX11_peg_12 : decode cX11_peg 12 = .ok (.bipush (-2), 2) := by decide +kernel
theorem dX11_peg_14 : decode cX11_peg 14 = .ok (.ireturn, 1) := by decide +kernel
theorem dX11_peg_15 : decode cX11_peg 15 = .ok (.iload_n 3, 1) := by decide +kernel
theorem dX11_peg_16 : decode cX11_peg 16 = .ok (.ifCond .lt 8, 3) := by decide +kernel
theorem dX11_peg_19 : decode cX11_peg 19 = .ok (.iload_n 3, 1) := by decide +kernel
theorem dX11_peg_20 : decode cX11_peg 20 = .ok (.iconst 2, 1) := by decide +kernel
theorem dX11_peg_21 : decode cX11_peg 21 = .ok (.if_icmp .le 6, 3) := by decide +kernel
theorem dX11_peg_24 : decode cX11_peg 24 = .ok (.bipush (-3), 2) := by decide +kernel
theorem dX11_peg_26 : decode cX11_peg 26 = .ok (.ireturn, 1) := by decide +kernel
theorem dX11_peg_27 : decode cX11_peg 27 = .ok (.aload 4, 2) := by decide +kernel
theorem dX11_peg_29 : decode cX11_peg 29 = .ok (.getfield 124, 3) := by decide +kernel
theorem dX11_peg_32 : decode cX11_peg 32 = .ok (.ifCond .ne 6, 3) := by decide +kernel
theorem dX11_peg_35 : decode cX11_peg 35 = .ok (.bipush (-11), 2) := by decide +kernel
theorem dX11_peg_37 : decode cX11_peg 37 = .ok (.ireturn, 1) := by decide +kernel
theorem dX11_peg_38 : decode cX11_peg 38 = .ok (.aload 4, 2) := by decide +kernel
theorem dX11_peg_40 : decode cX11_peg 40 = .ok (.iload_n 2, 1) := by decide +kernel
theorem dX11_peg_41 : decode cX11_peg 41 = .ok (.iconst 1, 1) := by decide +kernel
theorem dX11_peg_42 : decode cX11_peg 42 = .ok (.invokevirtual 280, 3) := by decide +kernel
theorem dX11_peg_45 : decode cX11_peg 45 = .ok (.ifCond .ne 6, 3) := by decide +kernel
theorem dX11_peg_48 : decode cX11_peg 48 = .ok (.bipush (-12), 2) := by decide +kernel
theorem dX11_peg_50 : decode cX11_peg 50 = .ok (.ireturn, 1) := by decide +kernel
theorem dX11_peg_51 : decode cX11_peg 51 = .ok (.aload 4, 2) := by decide +kernel
theorem dX11_peg_53 : decode cX11_peg 53 = .ok (.getfield 291, 3) := by decide +kernel
theorem dX11_peg_56 : decode cX11_peg 56 = .ok (.iload_n 2, 1) := by decide +kernel
theorem dX11_peg_57 : decode cX11_peg 57 = .ok (.iaload, 1) := by decide +kernel
theorem dX11_peg_58 : decode cX11_peg 58 = .ok (.istore 5, 2) := by decide +kernel
theorem dX11_peg_60 : decode cX11_peg 60 = .ok (.iload 5, 2) := by decide +kernel
theorem dX11_peg_62 : decode cX11_peg 62 = .ok (.ifCond .ne 6, 3) := by decide +kernel
theorem dX11_peg_65 : decode cX11_peg 65 = .ok (.bipush (-15), 2) := by decide +kernel
theorem dX11_peg_67 : decode cX11_peg 67 = .ok (.ireturn, 1) := by decide +kernel
theorem dX11_peg_68 : decode cX11_peg 68 = .ok (.iload_n 3, 1) := by decide +kernel
theorem dX11_peg_69 : decode cX11_peg 69 = .ok (.iconst 2, 1) := by decide +kernel
theorem dX11_peg_70 : decode cX11_peg 70 = .ok (.if_icmp .ne 6, 3) := by decide +kernel
theorem dX11_peg_73 : decode cX11_peg 73 = .ok (.iload 5, 2) := by decide +kernel
theorem dX11_peg_75 : decode cX11_peg 75 = .ok (.ireturn, 1) := by decide +kernel
theorem dX11_peg_76 : decode cX11_peg 76 = .ok (.iload 5, 2) := by decide +kernel
theorem dX11_peg_78 : decode cX11_peg 78 = .ok (.iload_n 3, 1) := by decide +kernel
theorem dX11_peg_79 : decode cX11_peg 79 = .ok (.ifCond .ne 7, 3) := by decide +kernel
theorem dX11_peg_82 : decode cX11_peg 82 = .ok (.iconst 1, 1) := by decide +kernel
theorem dX11_peg_83 : decode cX11_peg 83 = .ok (.goto 4, 3) := by decide +kernel
theorem dX11_peg_86 : decode cX11_peg 86 = .ok (.iconst 2, 1) := by decide +kernel
theorem dX11_peg_87 : decode cX11_peg 87 = .ok (.if_icmp .eq 6, 3) := by decide +kernel
theorem dX11_peg_90 : decode cX11_peg 90 = .ok (.bipush (-14), 2) := by decide +kernel
theorem dX11_peg_92 : decode cX11_peg 92 = .ok (.ireturn, 1) := by decide +kernel
theorem dX11_peg_93 : decode cX11_peg 93 = .ok (.iload 5, 2) := by decide +kernel
theorem dX11_peg_95 : decode cX11_peg 95 = .ok (.iconst 1, 1) := by decide +kernel
theorem dX11_peg_96 : decode cX11_peg 96 = .ok (.if_icmp .ne 13, 3) := by decide +kernel
theorem dX11_peg_99 : decode cX11_peg 99 = .ok (.aload 4, 2) := by decide +kernel
theorem dX11_peg_101 : decode cX11_peg 101 = .ok (.getfield 294, 3) := by decide +kernel
theorem dX11_peg_104 : decode cX11_peg 104 = .ok (.iload_n 2, 1) := by decide +kernel
theorem dX11_peg_105 : decode cX11_peg 105 = .ok (.iaload, 1) := by decide +kernel
theorem dX11_peg_106 : decode cX11_peg 106 = .ok (.goto 14, 3) := by decide +kernel
theorem dX11_peg_109 : decode cX11_peg 109 = .ok (.aload 4, 2) := by decide +kernel
theorem dX11_peg_111 : decode cX11_peg 111 = .ok (.getfield 294, 3) := by decide +kernel
theorem dX11_peg_114 : decode cX11_peg 114 = .ok (.iload_n 2, 1) := by decide +kernel
theorem dX11_peg_115 : decode cX11_peg 115 = .ok (.iaload, 1) := by decide +kernel
theorem dX11_peg_116 : decode cX11_peg 116 = .ok (.sipush 5000, 3) := by decide +kernel
theorem dX11_peg_119 : decode cX11_peg 119 = .ok (.iadd, 1) := by decide +kernel
theorem dX11_peg_120 : decode cX11_peg 120 = .ok (.ireturn, 1) := by decide +kernel
theorem dX11_move_0 : decode cX11_move 0 = .ok (.aload_n 0, 1) := by decide +kernel
theorem dX11_move_1 : decode cX11_move 1 = .ok (.iload_n 1, 1) := by decide +kernel
theorem dX11_move_2 : decode cX11_move 2 = .ok (.invokevirtual 272, 3) := by decide +kernel
theorem dX11_move_5 : decode cX11_move 5 = .ok (.astore 6, 2) := by decide +kernel
theorem dX11_move_7 : decode cX11_move 7 = .ok (.aload_n 0, 1) := by decide +kernel
theorem dX11_move_8 : decode cX11_move 8 = .ok (.iload_n 3, 1) := by decide +kernel
theorem dX11_move_9 : decode cX11_move 9 = .ok (.invokevirtual 272, 3) := by decide +kernel
theorem dX11_move_12 : decode cX11_move 12 = .ok (.astore 7, 2) := by decide +kernel
theorem dX11_move_14 : decode cX11_move 14 = .ok (.aload 6, 2) := by decide +kernel
theorem dX11_move_16 : decode cX11_move 16 = .ok (.ifnull 8, 3) := by decide +kernel
theorem dX11_move_19 : decode cX11_move 19 = .ok (.aload 7, 2) := by decide +kernel
theorem dX11_move_21 : decode cX11_move 21 = .ok (.ifnonnull 6, 3) := by decide +kernel
theorem dX11_move_24 : decode cX11_move 24 = .ok (.bipush (-2), 2) := by decide +kernel
theorem dX11_move_26 : decode cX11_move 26 = .ok (.ireturn, 1) := by decide +kernel
theorem dX11_move_27 : decode cX11_move 27 = .ok (.aload 6, 2) := by decide +kernel
theorem dX11_move_29 : decode cX11_move 29 = .ok (.getfield 124, 3) := by decide +kernel
theorem dX11_move_32 : decode cX11_move 32 = .ok (.ifCond .eq 11, 3) := by decide +kernel
theorem dX11_move_35 : decode cX11_move 35 = .ok (.aload 7, 2) := by decide +kernel
theorem dX11_move_37 : decode cX11_move 37 = .ok (.getfield 124, 3) := by decide +kernel
theorem dX11_move_40 : decode cX11_move 40 = .ok (.ifCond .ne 6, 3) := by decide +kernel
theorem dX11_move_43 : decode cX11_move 43 = .ok (.bipush (-11), 2) := by decide +kernel
theorem dX11_move_45 : decode cX11_move 45 = .ok (.ireturn, 1) := by decide +kernel
theorem dX11_move_46 : decode cX11_move 46 = .ok (.aload 6, 2) := by decide +kernel
theorem dX11_move_48 : decode cX11_move 48 = .ok (.iload_n 2, 1) := by decide +kernel
theorem dX11_move_49 : decode cX11_move 49 = .ok (.iload 5, 2) := by decide +kernel
theorem dX11_move_51 : decode cX11_move 51 = .ok (.invokevirtual 280, 3) := by decide +kernel
theorem dX11_move_54 : decode cX11_move 54 = .ok (.ifCond .eq 15, 3) := by decide +kernel
theorem dX11_move_57 : decode cX11_move 57 = .ok (.aload 7, 2) := by decide +kernel
theorem dX11_move_59 : decode cX11_move 59 = .ok (.iload 4, 2) := by decide +kernel
theorem dX11_move_61 : decode cX11_move 61 = .ok (.iload 5, 2) := by decide +kernel
theorem dX11_move_63 : decode cX11_move 63 = .ok (.invokevirtual 280, 3) := by decide +kernel
theorem dX11_move_66 : decode cX11_move 66 = .ok (.ifCond .ne 6, 3) := by decide +kernel
theorem dX11_move_69 : decode cX11_move 69 = .ok (.bipush (-12), 2) := by decide +kernel
theorem dX11_move_71 : decode cX11_move 71 = .ok (.ireturn, 1) := by decide +kernel
theorem dX11_move_72 : decode cX11_move 72 = .ok (.aload_n 0, 1) := by decide +kernel
theorem dX11_move_73 : decode cX11_move 73 = .ok (.getfield 105, 3) := by decide +kernel
theorem dX11_move_76 : decode cX11_move 76 = .ok (.aload 6, 2) := by decide +kernel
theorem dX11_move_78 : decode cX11_move 78 = .ok (.iload_n 2, 1) := by decide +kernel
theorem dX11_move_79 : decode cX11_move 79 = .ok (.iload 5, 2) := by decide +kernel
theorem dX11_move_81 : decode cX11_move 81 = .ok (.invokevirtual 297, 3) := by decide +kernel
theorem dX11_move_84 : decode cX11_move 84 = .ok (.iconst 0, 1) := by decide +kernel
theorem dX11_move_85 : decode cX11_move 85 = .ok (.istore 8, 2) := by decide +kernel
theorem dX11_move_87 : decode cX11_move 87 = .ok (.iload 8, 2) := by decide +kernel
theorem dX11_move_89 : decode cX11_move 89 = .ok (.iload 5, 2) := by decide +kernel
theorem dX11_move_91 : decode cX11_move 91 = .ok (.if_icmp .ge 60, 3) := by decide +kernel
theorem dX11_move_94 : decode cX11_move 94 = .ok (.aload 7, 2) := by decide +kernel
theorem dX11_move_96 : decode cX11_move 96 = .ok (.aload_n 0, 1) := by decide +kernel
theorem dX11_move_97 : decode cX11_move 97 = .ok (.getfield 105, 3) := by decide +kernel
theorem dX11_move_100 : decode cX11_move 100 = .ok (.getfield 291, 3) := by decide +kernel
theorem dX11_move_103 : decode cX11_move 103 = .ok (.iload 8, 2) := by decide +kernel
theorem dX11_move_105 : decode cX11_move 105 = .ok (.iaload, 1) := by decide +kernel
theorem dX11_move_106 : decode cX11_move 106 = .ok (.invokevirtual 284, 3) := by decide +kernel
theorem dX11_move_109 : decode cX11_move 109 = .ok (.ifCond .ne 6, 3) := by decide +kernel
theorem dX11_move_112 : decode cX11_move 112 = .ok (.bipush (-13), 2) := by decide +kernel
theorem dX11_move_114 : decode cX11_move 114 = .ok (.ireturn, 1) := by decide +kernel
theorem dX11_move_115 : decode cX11_move 115 = .ok (.aload 7, 2) := by decide +kernel
theorem dX11_move_117 : decode cX11_move 117 = .ok (.iload 4, 2) := by decide +kernel
theorem dX11_move_119 : decode cX11_move 119 = .ok (.iload 8, 2) := by decide +kernel
theorem dX11_move_121 : decode cX11_move 121 = .ok (.iadd, 1) := by decide +kernel
theorem dX11_move_122 : decode cX11_move 122 = .ok (.aload_n 0, 1) := by decide +kernel
theorem dX11_move_123 : decode cX11_move 123 = .ok (.getfield 105, 3) := by decide +kernel
theorem dX11_move_126 : decode cX11_move 126 = .ok (.getfield 291, 3) := by decide +kernel
theorem dX11_move_129 : decode cX11_move 129 = .ok (.iload 8, 2) := by decide +kernel
theorem dX11_move_131 : decode cX11_move 131 = .ok (.iaload, 1) := by decide +kernel
theorem dX11_move_132 : decode cX11_move 132 = .ok (.aload_n 0, 1) := by decide +kernel
theorem dX11_move_133 : decode cX11_move 133 = .ok (.getfield 105, 3) := by decide +kernel
theorem dX11_move_136 : decode cX11_move 136 = .ok (.getfield 294, 3) := by decide +kernel
theorem dX11_move_139 : decode cX11_move 139 = .ok (.iload 8, 2) := by decide +kernel
theorem dX11_move_141 : decode cX11_move 141 = .ok (.iaload, 1) := by decide +kernel
theorem dX11_move_142 : decode cX11_move 142 = .ok (.invokevirtual 287, 3) := by decide +kernel
theorem dX11_move_145 : decode cX11_move 145 = .ok (.iinc 8 1, 3) := by decide +kernel
theorem dX11_move_148 : decode cX11_move 148 = .ok (.goto (-61), 3) := by decide +kernel
theorem dX11_move_151 : decode cX11_move 151 = .ok (.iload 5, 2) := by decide +kernel
theorem dX11_move_153 : decode cX11_move 153 = .ok (.ireturn, 1) := by decide +kernel
theorem dX11_drop_0 : decode cX11_drop 0 = .ok (.aload_n 0, 1) := by decide +kernel
theorem dX11_drop_1 : decode cX11_drop 1 = .ok (.iload_n 1, 1) := by decide +kernel
theorem dX11_drop_2 : decode cX11_drop 2 = .ok (.invokevirtual 272, 3) := by decide +kernel
theorem dX11_drop_5 : decode cX11_drop 5 = .ok (.astore_n 2, 1) := by decide +kernel
theorem dX11_drop_6 : decode cX11_drop 6 = .ok (.aload_n 2, 1) := by decide +kernel
theorem dX11_drop_7 : decode cX11_drop 7 = .ok (.ifnonnull 6, 3) := by decide +kernel
theorem dX11_drop_10 : decode cX11_drop 10 = .ok (.bipush (-2), 2) := by decide +kernel
theorem dX11_drop_12 : decode cX11_drop 12 = .ok (.ireturn, 1) := by decide +kernel
theorem dX11_drop_13 : decode cX11_drop 13 = .ok (.aload_n 2, 1) := by decide +kernel
theorem dX11_drop_14 : decode cX11_drop 14 = .ok (.getfield 124, 3) := by decide +kernel
theorem dX11_drop_17 : decode cX11_drop 17 = .ok (.ifCond .ne 6, 3) := by decide +kernel
theorem dX11_drop_20 : decode cX11_drop 20 = .ok (.bipush (-11), 2) := by decide +kernel
theorem dX11_drop_22 : decode cX11_drop 22 = .ok (.ireturn, 1) := by decide +kernel
theorem dX11_drop_23 : decode cX11_drop 23 = .ok (.aload_n 2, 1) := by decide +kernel
theorem dX11_drop_24 : decode cX11_drop 24 = .ok (.iconst 0, 1) := by decide +kernel
theorem dX11_drop_25 : decode cX11_drop 25 = .ok (.putfield 124, 3) := by decide +kernel
theorem dX11_drop_28 : decode cX11_drop 28 = .ok (.aload_n 2, 1) := by decide +kernel
theorem dX11_drop_29 : decode cX11_drop 29 = .ok (.invokevirtual 301, 3) := by decide +kernel
theorem dX11_drop_32 : decode cX11_drop 32 = .ok (.ireturn, 1) := by decide +kernel
theorem dX11_sum_0 : decode cX11_sum 0 = .ok (.aload_n 0, 1) := by decide +kernel
theorem dX11_sum_1 : decode cX11_sum 1 = .ok (.iload_n 1, 1) := by decide +kernel
theorem dX11_sum_2 : decode cX11_sum 2 = .ok (.invokevirtual 272, 3) := by decide +kernel
theorem dX11_sum_5 : decode cX11_sum 5 = .ok (.astore_n 2, 1) := by decide +kernel
theorem dX11_sum_6 : decode cX11_sum 6 = .ok (.aload_n 2, 1) := by decide +kernel
theorem dX11_sum_7 : decode cX11_sum 7 = .ok (.ifnonnull 6, 3) := by decide +kernel
theorem dX11_sum_10 : decode cX11_sum 10 = .ok (.bipush (-2), 2) := by decide +kernel
theorem dX11_sum_12 : decode cX11_sum 12 = .ok (.ireturn, 1) := by decide +kernel
theorem dX11_sum_13 : decode cX11_sum 13 = .ok (.aload_n 2, 1) := by decide +kernel
theorem dX11_sum_14 : decode cX11_sum 14 = .ok (.getfield 124, 3) := by decide +kernel
theorem dX11_sum_17 : decode cX11_sum 17 = .ok (.ifCond .ne 6, 3) := by decide +kernel
theorem dX11_sum_20 : decode cX11_sum 20 = .ok (.bipush (-11), 2) := by decide +kernel
theorem dX11_sum_22 : decode cX11_sum 22 = .ok (.ireturn, 1) := by decide +kernel
theorem dX11_sum_23 : decode cX11_sum 23 = .ok (.iconst 0, 1) := by decide +kernel
theorem dX11_sum_24 : decode cX11_sum 24 = .ok (.istore_n 3, 1) := by decide +kernel
theorem dX11_sum_25 : decode cX11_sum 25 = .ok (.iconst 0, 1) := by decide +kernel
theorem dX11_sum_26 : decode cX11_sum 26 = .ok (.istore 4, 2) := by decide +kernel
theorem dX11_sum_28 : decode cX11_sum 28 = .ok (.iload 4, 2) := by decide +kernel
theorem dX11_sum_30 : decode cX11_sum 30 = .ok (.aload_n 2, 1) := by decide +kernel
theorem dX11_sum_31 : decode cX11_sum 31 = .ok (.getfield 304, 3) := by decide +kernel
theorem dX11_sum_34 : decode cX11_sum 34 = .ok (.if_icmp .ge 84, 3) := by decide +kernel
theorem dX11_sum_37 : decode cX11_sum 37 = .ok (.iload 4, 2) := by decide +kernel
theorem dX11_sum_39 : decode cX11_sum 39 = .ok (.bipush 16, 2) := by decide +kernel
theorem dX11_sum_41 : decode cX11_sum 41 = .ok (.if_icmp .ge 77, 3) := by decide +kernel
theorem dX11_sum_44 : decode cX11_sum 44 = .ok (.aload_n 2, 1) := by decide +kernel
theorem dX11_sum_45 : decode cX11_sum 45 = .ok (.getfield 291, 3) := by decide +kernel
theorem dX11_sum_48 : decode cX11_sum 48 = .ok (.iload 4, 2) := by decide +kernel
theorem dX11_sum_50 : decode cX11_sum 50 = .ok (.iaload, 1) := by decide +kernel
theorem dX11_sum_51 : decode cX11_sum 51 = .ok (.iconst 2, 1) := by decide +kernel
theorem dX11_sum_52 : decode cX11_sum 52 = .ok (.if_icmp .ne 16, 3) := by decide +kernel
theorem dX11_sum_55 : decode cX11_sum 55 = .ok (.iload_n 3, 1) := by decide +kernel
theorem dX11_sum_56 : decode cX11_sum 56 = .ok (.aload_n 2, 1) := by decide +kernel
theorem dX11_sum_57 : decode cX11_sum 57 = .ok (.getfield 294, 3) := by decide +kernel
theorem dX11_sum_60 : decode cX11_sum 60 = .ok (.iload 4, 2) := by decide +kernel
theorem dX11_sum_62 : decode cX11_sum 62 = .ok (.iaload, 1) := by decide +kernel
theorem dX11_sum_63 : decode cX11_sum 63 = .ok (.iadd, 1) := by decide +kernel
theorem dX11_sum_64 : decode cX11_sum 64 = .ok (.istore_n 3, 1) := by decide +kernel
theorem dX11_sum_65 : decode cX11_sum 65 = .ok (.goto 47, 3) := by decide +kernel
theorem dX11_sum_68 : decode cX11_sum 68 = .ok (.aload_n 2, 1) := by decide +kernel
theorem dX11_sum_69 : decode cX11_sum 69 = .ok (.getfield 291, 3) := by decide +kernel
theorem dX11_sum_72 : decode cX11_sum 72 = .ok (.iload 4, 2) := by decide +kernel
theorem dX11_sum_74 : decode cX11_sum 74 = .ok (.iaload, 1) := by decide +kernel
theorem dX11_sum_75 : decode cX11_sum 75 = .ok (.iconst 1, 1) := by decide +kernel
theorem dX11_sum_76 : decode cX11_sum 76 = .ok (.if_icmp .ne 36, 3) := by decide +kernel
theorem dX11_sum_79 : decode cX11_sum 79 = .ok (.aload_n 0, 1) := by decide +kernel
theorem dX11_sum_80 : decode cX11_sum 80 = .ok (.getfield 46, 3) := by decide +kernel
theorem dX11_sum_83 : decode cX11_sum 83 = .ok (.aload_n 2, 1) := by decide +kernel
theorem dX11_sum_84 : decode cX11_sum 84 = .ok (.getfield 294, 3) := by decide +kernel
theorem dX11_sum_87 : decode cX11_sum 87 = .ok (.iload 4, 2) := by decide +kernel
theorem dX11_sum_89 : decode cX11_sum 89 = .ok (.iaload, 1) := by decide +kernel
theorem dX11_sum_90 : decode cX11_sum 90 = .ok (.invokevirtual 137, 3) := by decide +kernel
theorem dX11_sum_93 : decode cX11_sum 93 = .ok (.astore 5, 2) := by decide +kernel
theorem dX11_sum_95 : decode cX11_sum 95 = .ok (.iload_n 3, 1) := by decide +kernel
theorem dX11_sum_96 : decode cX11_sum 96 = .ok (.aload 5, 2) := by decide +kernel
theorem dX11_sum_98 : decode cX11_sum 98 = .ok (.ifnonnull 7, 3) := by decide +kernel
theorem dX11_sum_101 : decode cX11_sum 101 = .ok (.iconst 0, 1) := by decide +kernel
theorem dX11_sum_102 : decode cX11_sum 102 = .ok (.goto 8, 3) := by decide +kernel
theorem dX11_sum_105 : decode cX11_sum 105 = .ok (.aload 5, 2) := by decide +kernel
theorem dX11_sum_107 : decode cX11_sum 107 = .ok (.invokevirtual 201, 3) := by decide +kernel
theorem dX11_sum_110 : decode cX11_sum 110 = .ok (.iadd, 1) := by decide +kernel
theorem dX11_sum_111 : decode cX11_sum 111 = .ok (.istore_n 3, 1) := by decide +kernel
theorem dX11_sum_112 : decode cX11_sum 112 = .ok (.iinc 4 1, 3) := by decide +kernel
theorem dX11_sum_115 : decode cX11_sum 115 = .ok (.goto (-87), 3) := by decide +kernel
theorem dX11_sum_118 : decode cX11_sum 118 = .ok (.iload_n 3, 1) := by decide +kernel
theorem dX11_sum_119 : decode cX11_sum 119 = .ok (.ldc_w 307, 3) := by decide +kernel
theorem dX11_sum_122 : decode cX11_sum 122 = .ok (.iadd, 1) := by decide +kernel
theorem dX11_sum_123 : decode cX11_sum 123 = .ok (.ireturn, 1) := by decide +kernel
theorem dX11_count_0 : decode cX11_count 0 = .ok (.iload_n 1, 1) := by decide +kernel
theorem dX11_count_1 : decode cX11_count 1 = .ok (.tableswitch 178 0 13 #[71, 79, 87, 95, 103, 112, 121, 130, 139, 144, 149, 154, 162, 170], 71) := by decide +kernel
theorem dX11_count_72 : decode cX11_count 72 = .ok (.aload_n 0, 1) := by decide +kernel
theorem dX11_count_73 : decode cX11_count 73 = .ok (.getfield 46, 3) := by decide +kernel
theorem dX11_count_76 : decode cX11_count 76 = .ok (.getfield 250, 3) := by decide +kernel
theorem dX11_count_79 : decode cX11_count 79 = .ok (.ireturn, 1) := by decide +kernel
theorem dX11_count_80 : decode cX11_count 80 = .ok (.aload_n 0, 1) := by decide +kernel
theorem dX11_count_81 : decode cX11_count 81 = .ok (.getfield 46, 3) := by decide +kernel
theorem dX11_count_84 : decode cX11_count 84 = .ok (.getfield 308, 3) := by decide +kernel
theorem dX11_count_87 : decode cX11_count 87 = .ok (.ireturn, 1) := by decide +kernel
theorem dX11_count_88 : decode cX11_count 88 = .ok (.aload_n 0, 1) := by decide +kernel
theorem dX11_count_89 : decode cX11_count 89 = .ok (.getfield 46, 3) := by decide +kernel
theorem dX11_count_92 : decode cX11_count 92 = .ok (.getfield 213, 3) := by decide +kernel
theorem dX11_count_95 : decode cX11_count 95 = .ok (.ireturn, 1) := by decide +kernel
theorem dX11_count_96 : decode cX11_count 96 = .ok (.aload_n 0, 1) := by decide +kernel
theorem dX11_count_97 : decode cX11_count 97 = .ok (.getfield 46, 3) := by decide +kernel
theorem dX11_count_100 : decode cX11_count 100 = .ok (.getfield 204, 3) := by decide +kernel
theorem dX11_count_103 : decode cX11_count 103 = .ok (.ireturn, 1) := by decide +kernel
theorem dX11_count_104 : decode cX11_count 104 = .ok (.aload_n 0, 1) := by decide +kernel
theorem dX11_count_105 : decode cX11_count 105 = .ok (.getfield 46, 3) := by decide +kernel
theorem dX11_count_108 : decode cX11_count 108 = .ok (.iconst 0, 1) := by decide +kernel
theorem dX11_count_109 : decode cX11_count 109 = .ok (.invokevirtual 311, 3) := by decide +kernel
theorem dX11_count_112 : decode cX11_count 112 = .ok (.ireturn, 1) := by decide +kernel
theorem dX11_count_113 : decode cX11_count 113 = .ok (.aload_n 0, 1) := by decide +kernel
theorem dX11_count_114 : decode cX11_count 114 = .ok (.getfield 46, 3) := by decide +kernel
theorem dX11_count_117 : decode cX11_count 117 = .ok (.iconst 2, 1) := by decide +kernel
theorem dX11_count_118 : decode cX11_count 118 = .ok (.invokevirtual 311, 3) := by decide +kernel
theorem dX11_count_121 : decode cX11_count 121 = .ok (.ireturn, 1) := by decide +kernel
theorem dX11_count_122 : decode cX11_count 122 = .ok (.aload_n 0, 1) := by decide +kernel
theorem dX11_count_123 : decode cX11_count 123 = .ok (.getfield 46, 3) := by decide +kernel
theorem dX11_count_126 : decode cX11_count 126 = .ok (.iconst 3, 1) := by decide +kernel
theorem dX11_count_127 : decode cX11_count 127 = .ok (.invokevirtual 311, 3) := by decide +kernel
theorem dX11_count_130 : decode cX11_count 130 = .ok (.ireturn, 1) := by decide +kernel
theorem dX11_count_131 : decode cX11_count 131 = .ok (.aload_n 0, 1) := by decide +kernel
theorem dX11_count_132 : decode cX11_count 132 = .ok (.getfield 46, 3) := by decide +kernel
theorem dX11_count_135 : decode cX11_count 135 = .ok (.iconst 4, 1) := by decide +kernel
theorem dX11_count_136 : decode cX11_count 136 = .ok (.invokevirtual 311, 3) := by decide +kernel
theorem dX11_count_139 : decode cX11_count 139 = .ok (.ireturn, 1) := by decide +kernel
theorem dX11_count_140 : decode cX11_count 140 = .ok (.aload_n 0, 1) := by decide +kernel
theorem dX11_count_141 : decode cX11_count 141 = .ok (.getfield 128, 3) := by decide +kernel
theorem dX11_count_144 : decode cX11_count 144 = .ok (.ireturn, 1) := by decide +kernel
theorem dX11_count_145 : decode cX11_count 145 = .ok (.aload_n 0, 1) := by decide +kernel
theorem dX11_count_146 : decode cX11_count 146 = .ok (.invokevirtual 314, 3) := by decide +kernel
theorem dX11_count_149 : decode cX11_count 149 = .ok (.ireturn, 1) := by decide +kernel
theorem dX11_count_150 : decode cX11_count 150 = .ok (.aload_n 0, 1) := by decide +kernel
theorem dX11_count_151 : decode cX11_count 151 = .ok (.getfield 131, 3) := by decide +kernel
theorem dX11_count_154 : decode cX11_count 154 = .ok (.ireturn, 1) := by decide +kernel
theorem dX11_count_155 : decode cX11_count 155 = .ok (.aload_n 0, 1) := by decide +kernel
theorem dX11_count_156 : decode cX11_count 156 = .ok (.getfield 30, 3) := by decide +kernel
theorem dX11_count_159 : decode cX11_count 159 = .ok (.getfield 113, 3) := by decide +kernel
theorem dX11_count_162 : decode cX11_count 162 = .ok (.ireturn, 1) := by decide +kernel
theorem dX11_count_163 : decode cX11_count 163 = .ok (.aload_n 0, 1) := by decide +kernel
theorem dX11_count_164 : decode cX11_count 164 = .ok (.getfield 46, 3) := by decide +kernel
theorem dX11_count_167 : decode cX11_count 167 = .ok (.getfield 317, 3) := by decide +kernel
theorem dX11_count_170 : decode cX11_count 170 = .ok (.ireturn, 1) := by decide +kernel
theorem dX11_count_171 : decode cX11_count 171 = .ok (.aload_n 0, 1) := by decide +kernel
theorem dX11_count_172 : decode cX11_count 172 = .ok (.getfield 46, 3) := by decide +kernel
theorem dX11_count_175 : decode cX11_count 175 = .ok (.invokevirtual 320, 3) := by decide +kernel
theorem dX11_count_178 : decode cX11_count 178 = .ok (.ireturn, 1) := by decide +kernel
theorem dX11_count_179 : decode cX11_count 179 = .ok (.bipush (-3), 2) := by decide +kernel
theorem dX11_count_181 : decode cX11_count 181 = .ok (.ireturn, 1) := by decide +kernel
theorem dX11_remember_0 : decode cX11_remember 0 = .ok (.aload_n 0, 1) := by decide +kernel
theorem dX11_remember_1 : decode cX11_remember 1 = .ok (.getfield 131, 3) := by decide +kernel
theorem dX11_remember_4 : decode cX11_remember 4 = .ok (.ifCond .lt 12, 3) := by decide +kernel
theorem dX11_remember_7 : decode cX11_remember 7 = .ok (.aload_n 0, 1) := by decide +kernel
theorem dX11_remember_8 : decode cX11_remember 8 = .ok (.getfield 131, 3) := by decide +kernel
theorem dX11_remember_11 : decode cX11_remember 11 = .ok (.bipush 8, 2) := by decide +kernel
theorem dX11_remember_13 : decode cX11_remember 13 = .ok (.if_icmp .lt 52, 3) := by decide +kernel
theorem dX11_remember_16 : decode cX11_remember 16 = .ok (.aload_n 0, 1) := by decide +kernel
theorem dX11_remember_17 : decode cX11_remember 17 = .ok (.getfield 74, 3) := by decide +kernel
theorem dX11_remember_20 : decode cX11_remember 20 = .ok (.iconst 0, 1) := by decide +kernel
theorem dX11_remember_21 : decode cX11_remember 21 = .ok (.aaload, 1) := by decide +kernel
theorem dX11_remember_22 : decode cX11_remember 22 = .ok (.astore_n 1, 1) := by decide +kernel
theorem dX11_remember_23 : decode cX11_remember 23 = .ok (.iconst 1, 1) := by decide +kernel
theorem dX11_remember_24 : decode cX11_remember 24 = .ok (.istore_n 2, 1) := by decide +kernel
theorem dX11_remember_25 : decode cX11_remember 25 = .ok (.iload_n 2, 1) := by decide +kernel
theorem dX11_remember_26 : decode cX11_remember 26 = .ok (.bipush 8, 2) := by decide +kernel
theorem dX11_remember_28 : decode cX11_remember 28 = .ok (.if_icmp .ge 23, 3) := by decide +kernel
theorem dX11_remember_31 : decode cX11_remember 31 = .ok (.aload_n 0, 1) := by decide +kernel
theorem dX11_remember_32 : decode cX11_remember 32 = .ok (.getfield 74, 3) := by decide +kernel
theorem dX11_remember_35 : decode cX11_remember 35 = .ok (.iload_n 2, 1) := by decide +kernel
theorem dX11_remember_36 : decode cX11_remember 36 = .ok (.iconst 1, 1) := by decide +kernel
theorem dX11_remember_37 : decode cX11_remember 37 = .ok (.isub, 1) := by decide +kernel
theorem dX11_remember_38 : decode cX11_remember 38 = .ok (.aload_n 0, 1) := by decide +kernel
theorem dX11_remember_39 : decode cX11_remember 39 = .ok (.getfield 74, 3) := by decide +kernel
theorem dX11_remember_42 : decode cX11_remember 42 = .ok (.iload_n 2, 1) := by decide +kernel
theorem dX11_remember_43 : decode cX11_remember 43 = .ok (.aaload, 1) := by decide +kernel
theorem dX11_remember_44 : decode cX11_remember 44 = .ok (.aastore, 1) := by decide +kernel
theorem dX11_remember_45 : decode cX11_remember 45 = .ok (.iinc 2 1, 3) := by decide +kernel
theorem dX11_remember_48 : decode cX11_remember 48 = .ok (.goto (-23), 3) := by decide +kernel
theorem dX11_remember_51 : decode cX11_remember 51 = .ok (.aload_n 0, 1) := by decide +kernel
theorem dX11_remember_52 : decode cX11_remember 52 = .ok (.getfield 74, 3) := by decide +kernel
theorem dX11_remember_55 : decode cX11_remember 55 = .ok (.bipush 7, 2) := by decide +kernel
theorem dX11_remember_57 : decode cX11_remember 57 = .ok (.aload_n 1, 1) := by decide +kernel
theorem dX11_remember_58 : decode cX11_remember 58 = .ok (.aastore, 1) := by decide +kernel
theorem dX11_remember_59 : decode cX11_remember 59 = .ok (.aload_n 0, 1) := by decide +kernel
theorem dX11_remember_60 : decode cX11_remember 60 = .ok (.bipush 7, 2) := by decide +kernel
theorem dX11_remember_62 : decode cX11_remember 62 = .ok (.putfield 131, 3) := by decide +kernel
theorem dX11_remember_65 : decode cX11_remember 65 = .ok (.aload_n 0, 1) := by decide +kernel
theorem dX11_remember_66 : decode cX11_remember 66 = .ok (.getfield 74, 3) := by decide +kernel
theorem dX11_remember_69 : decode cX11_remember 69 = .ok (.aload_n 0, 1) := by decide +kernel
theorem dX11_remember_70 : decode cX11_remember 70 = .ok (.getfield 131, 3) := by decide +kernel
theorem dX11_remember_73 : decode cX11_remember 73 = .ok (.aaload, 1) := by decide +kernel
theorem dX11_remember_74 : decode cX11_remember 74 = .ok (.aload_n 0, 1) := by decide +kernel
theorem dX11_remember_75 : decode cX11_remember 75 = .ok (.getfield 46, 3) := by decide +kernel
theorem dX11_remember_78 : decode cX11_remember 78 = .ok (.invokevirtual 121, 3) := by decide +kernel
theorem dX11_remember_81 : decode cX11_remember 81 = .ok (.aload_n 0, 1) := by decide +kernel
theorem dX11_remember_82 : decode cX11_remember 82 = .ok (.dup, 1) := by decide +kernel
theorem dX11_remember_83 : decode cX11_remember 83 = .ok (.getfield 131, 3) := by decide +kernel
theorem dX11_remember_86 : decode cX11_remember 86 = .ok (.iconst 1, 1) := by decide +kernel
theorem dX11_remember_87 : decode cX11_remember 87 = .ok (.iadd, 1) := by decide +kernel
theorem dX11_remember_88 : decode cX11_remember 88 = .ok (.putfield 131, 3) := by decide +kernel
theorem dX11_remember_91 : decode cX11_remember 91 = .ok (.return_, 1) := by decide +kernel
theorem dX11_isOne_0 : decode cX11_isOne 0 = .ok (.iload_n 1, 1) := by decide +kernel
theorem dX11_isOne_1 : decode cX11_isOne 1 = .ok (.tableswitch 57 0 4 #[35, 37, 42, 47, 52], 35) := by decide +kernel
theorem dX11_isOne_36 : decode cX11_isOne 36 = .ok (.iconst 1, 1) := by decide +kernel
theorem dX11_isOne_37 : decode cX11_isOne 37 = .ok (.ireturn, 1) := by decide +kernel
theorem dX11_isOne_38 : decode cX11_isOne 38 = .ok (.aload_n 0, 1) := by decide +kernel
theorem dX11_isOne_39 : decode cX11_isOne 39 = .ok (.instanceof 7, 3) := by decide +kernel
theorem dX11_isOne_42 : decode cX11_isOne 42 = .ok (.ireturn, 1) := by decide +kernel
theorem dX11_isOne_43 : decode cX11_isOne 43 = .ok (.aload_n 0, 1) := by decide +kernel
theorem dX11_isOne_44 : decode cX11_isOne 44 = .ok (.instanceof 12, 3) := by decide +kernel
theorem dX11_isOne_47 : decode cX11_isOne 47 = .ok (.ireturn, 1) := by decide +kernel
theorem dX11_isOne_48 : decode cX11_isOne 48 = .ok (.aload_n 0, 1) := by decide +kernel
theorem dX11_isOne_49 : decode cX11_isOne 49 = .ok (.instanceof 15, 3) := by decide +kernel
theorem dX11_isOne_52 : decode cX11_isOne 52 = .ok (.ireturn, 1) := by decide +kernel
theorem dX11_isOne_53 : decode cX11_isOne 53 = .ok (.aload_n 0, 1) := by decide +kernel
theorem dX11_isOne_54 : decode cX11_isOne 54 = .ok (.instanceof 18, 3) := by decide +kernel
theorem dX11_isOne_57 : decode cX11_isOne 57 = .ok (.ireturn, 1) := by decide +kernel
theorem dX11_isOne_58 : decode cX11_isOne 58 = .ok (.iconst 0, 1) := by decide +kernel
theorem dX11_isOne_59 : decode cX11_isOne 59 = .ok (.ireturn, 1) := by decide +kernel
theorem dX11_readAhead_0 : decode cX11_readAhead 0 = .ok (.aload_n 0, 1) := by decide +kernel
theorem dX11_readAhead_1 : decode cX11_readAhead 1 = .ok (.getfield 49, 3) := by decide +kernel
theorem dX11_readAhead_4 : decode cX11_readAhead 4 = .ok (.aload_n 0, 1) := by decide +kernel
theorem dX11_readAhead_5 : decode cX11_readAhead 5 = .ok (.getfield 46, 3) := by decide +kernel
theorem dX11_readAhead_8 : decode cX11_readAhead 8 = .ok (.invokevirtual 121, 3) := by decide +kernel
theorem dX11_readAhead_11 : decode cX11_readAhead 11 = .ok (.iconst 0, 1) := by decide +kernel
theorem dX11_readAhead_12 : decode cX11_readAhead 12 = .ok (.istore_n 2, 1) := by decide +kernel
theorem dX11_readAhead_13 : decode cX11_readAhead 13 = .ok (.iload_n 2, 1) := by decide +kernel
theorem dX11_readAhead_14 : decode cX11_readAhead 14 = .ok (.bipush 7, 2) := by decide +kernel
theorem dX11_readAhead_16 : decode cX11_readAhead 16 = .ok (.if_icmp .ge 23, 3) := by decide +kernel
theorem dX11_readAhead_19 : decode cX11_readAhead 19 = .ok (.aload_n 0, 1) := by decide +kernel
theorem dX11_readAhead_20 : decode cX11_readAhead 20 = .ok (.getfield 70, 3) := by decide +kernel
theorem dX11_readAhead_23 : decode cX11_readAhead 23 = .ok (.iload_n 2, 1) := by decide +kernel
theorem dX11_readAhead_24 : decode cX11_readAhead 24 = .ok (.aload_n 0, 1) := by decide +kernel
theorem dX11_readAhead_25 : decode cX11_readAhead 25 = .ok (.getfield 49, 3) := by decide +kernel
theorem dX11_readAhead_28 : decode cX11_readAhead 28 = .ok (.iload_n 2, 1) := by decide +kernel
theorem dX11_readAhead_29 : decode cX11_readAhead 29 = .ok (.invokevirtual 226, 3) := by decide +kernel
theorem dX11_readAhead_32 : decode cX11_readAhead 32 = .ok (.iastore, 1) := by decide +kernel
theorem dX11_readAhead_33 : decode cX11_readAhead 33 = .ok (.iinc 2 1, 3) := by decide +kernel
theorem dX11_readAhead_36 : decode cX11_readAhead 36 = .ok (.goto (-23), 3) := by decide +kernel
theorem dX11_readAhead_39 : decode cX11_readAhead 39 = .ok (.iconst 0, 1) := by decide +kernel
theorem dX11_readAhead_40 : decode cX11_readAhead 40 = .ok (.istore_n 2, 1) := by decide +kernel
theorem dX11_readAhead_41 : decode cX11_readAhead 41 = .ok (.iload_n 2, 1) := by decide +kernel
theorem dX11_readAhead_42 : decode cX11_readAhead 42 = .ok (.iload_n 1, 1) := by decide +kernel
theorem dX11_readAhead_43 : decode cX11_readAhead 43 = .ok (.if_icmp .ge 47, 3) := by decide +kernel
theorem dX11_readAhead_46 : decode cX11_readAhead 46 = .ok (.aload_n 0, 1) := by decide +kernel
theorem dX11_readAhead_47 : decode cX11_readAhead 47 = .ok (.getfield 49, 3) := by decide +kernel
theorem dX11_readAhead_50 : decode cX11_readAhead 50 = .ok (.invokevirtual 216, 3) := by decide +kernel
theorem dX11_readAhead_53 : decode cX11_readAhead 53 = .ok (.iconst 0, 1) := by decide +kernel
theorem dX11_readAhead_54 : decode cX11_readAhead 54 = .ok (.istore_n 3, 1) := by decide +kernel
theorem dX11_readAhead_55 : decode cX11_readAhead 55 = .ok (.iload_n 3, 1) := by decide +kernel
theorem dX11_readAhead_56 : decode cX11_readAhead 56 = .ok (.bipush 7, 2) := by decide +kernel
theorem dX11_readAhead_58 : decode cX11_readAhead 58 = .ok (.if_icmp .ge 26, 3) := by decide +kernel
theorem dX11_readAhead_61 : decode cX11_readAhead 61 = .ok (.aload_n 0, 1) := by decide +kernel
theorem dX11_readAhead_62 : decode cX11_readAhead 62 = .ok (.getfield 70, 3) := by decide +kernel
theorem dX11_readAhead_65 : decode cX11_readAhead 65 = .ok (.iload_n 3, 1) := by decide +kernel
theorem dX11_readAhead_66 : decode cX11_readAhead 66 = .ok (.dup2, 1) := by decide +kernel
theorem dX11_readAhead_67 : decode cX11_readAhead 67 = .ok (.iaload, 1) := by decide +kernel
theorem dX11_readAhead_68 : decode cX11_readAhead 68 = .ok (.aload_n 0, 1) := by decide +kernel
theorem dX11_readAhead_69 : decode cX11_readAhead 69 = .ok (.getfield 49, 3) := by decide +kernel
theorem dX11_readAhead_72 : decode cX11_readAhead 72 = .ok (.iload_n 3, 1) := by decide +kernel
theorem dX11_readAhead_73 : decode cX11_readAhead 73 = .ok (.invokevirtual 226, 3) := by decide +kernel
theorem dX11_readAhead_76 : decode cX11_readAhead 76 = .ok (.ior, 1) := by decide +kernel
theorem dX11_readAhead_77 : decode cX11_readAhead 77 = .ok (.iastore, 1) := by decide +kernel
theorem dX11_readAhead_78 : decode cX11_readAhead 78 = .ok (.iinc 3 1, 3) := by decide +kernel
theorem dX11_readAhead_81 : decode cX11_readAhead 81 = .ok (.goto (-26), 3) := by decide +kernel
theorem dX11_readAhead_84 : decode cX11_readAhead 84 = .ok (.iinc 2 1, 3) := by decide +kernel
theorem dX11_readAhead_87 : decode cX11_readAhead 87 = .ok (.goto (-46), 3) := by decide +kernel
theorem dX11_readAhead_90 : decode cX11_readAhead 90 = .ok (.return_, 1) := by decide +kernel
theorem dX11_readFrom_0 : decode cX11_readFrom 0 = .ok (.iconst 0, 1) := by decide +kernel
theorem dX11_readFrom_1 : decode cX11_readFrom 1 = .ok (.istore_n 2, 1) := by decide +kernel
theorem dX11_readFrom_2 : decode cX11_readFrom 2 = .ok (.iconst 0, 1) := by decide +kernel
theorem dX11_readFrom_3 : decode cX11_readFrom 3 = .ok (.istore_n 3, 1) := by decide +kernel
theorem dX11_readFrom_4 : decode cX11_readFrom 4 = .ok (.iload_n 3, 1) := by decide +kernel
theorem dX11_readFrom_5 : decode cX11_readFrom 5 = .ok (.bipush 7, 2) := by decide +kernel
theorem dX11_readFrom_7 : decode cX11_readFrom 7 = .ok (.if_icmp .ge 27, 3) := by decide +kernel
theorem dX11_readFrom_10 : decode cX11_readFrom 10 = .ok (.iload_n 1, 1) := by decide +kernel
theorem dX11_readFrom_11 : decode cX11_readFrom 11 = .ok (.iload_n 3, 1) := by decide +kernel
theorem dX11_readFrom_12 : decode cX11_readFrom 12 = .ok (.ishr, 1) := by decide +kernel
theorem dX11_readFrom_13 : decode cX11_readFrom 13 = .ok (.iconst 1, 1) := by decide +kernel
theorem dX11_readFrom_14 : decode cX11_readFrom 14 = .ok (.iand, 1) := by decide +kernel
theorem dX11_readFrom_15 : decode cX11_readFrom 15 = .ok (.iconst 1, 1) := by decide +kernel
theorem dX11_readFrom_16 : decode cX11_readFrom 16 = .ok (.if_icmp .ne 12, 3) := by decide +kernel
theorem dX11_readFrom_19 : decode cX11_readFrom 19 = .ok (.iload_n 2, 1) := by decide +kernel
theorem dX11_readFrom_20 : decode cX11_readFrom 20 = .ok (.aload_n 0, 1) := by decide +kernel
theorem dX11_readFrom_21 : decode cX11_readFrom 21 = .ok (.getfield 70, 3) := by decide +kernel
theorem dX11_readFrom_24 : decode cX11_readFrom 24 = .ok (.iload_n 3, 1) := by decide +kernel
theorem dX11_readFrom_25 : decode cX11_readFrom 25 = .ok (.iaload, 1) := by decide +kernel
theorem dX11_readFrom_26 : decode cX11_readFrom 26 = .ok (.ior, 1) := by decide +kernel
theorem dX11_readFrom_27 : decode cX11_readFrom 27 = .ok (.istore_n 2, 1) := by decide +kernel
theorem dX11_readFrom_28 : decode cX11_readFrom 28 = .ok (.iinc 3 1, 3) := by decide +kernel
theorem dX11_readFrom_31 : decode cX11_readFrom 31 = .ok (.goto (-27), 3) := by decide +kernel
theorem dX11_readFrom_34 : decode cX11_readFrom 34 = .ok (.iload_n 2, 1) := by decide +kernel
theorem dX11_readFrom_35 : decode cX11_readFrom 35 = .ok (.ireturn, 1) := by decide +kernel
theorem dX11_agreesWithSeen_0 : decode cX11_agreesWithSeen 0 = .ok (.iconst 0, 1) := by decide +kernel
theorem dX11_agreesWithSeen_1 : decode cX11_agreesWithSeen 1 = .ok (.istore 4, 2) := by decide +kernel
theorem dX11_agreesWithSeen_3 : decode cX11_agreesWithSeen 3 = .ok (.iload 4, 2) := by decide +kernel
theorem dX11_agreesWithSeen_5 : decode cX11_agreesWithSeen 5 = .ok (.aload_n 0, 1) := by decide +kernel
theorem dX11_agreesWithSeen_6 : decode cX11_agreesWithSeen 6 = .ok (.getfield 128, 3) := by decide +kernel
theorem dX11_agreesWithSeen_9 : decode cX11_agreesWithSeen 9 = .ok (.if_icmp .ge 66, 3) := by decide +kernel
theorem dX11_agreesWithSeen_12 : decode cX11_agreesWithSeen 12 = .ok (.iload 4, 2) := by decide +kernel
theorem dX11_agreesWithSeen_14 : decode cX11_agreesWithSeen 14 = .ok (.bipush 6, 2) := by decide +kernel
theorem dX11_agreesWithSeen_16 : decode cX11_agreesWithSeen 16 = .ok (.if_icmp .ge 59, 3) := by decide +kernel
theorem dX11_agreesWithSeen_19 : decode cX11_agreesWithSeen 19 = .ok (.aload_n 0, 1) := by decide +kernel
theorem dX11_agreesWithSeen_20 : decode cX11_agreesWithSeen 20 = .ok (.getfield 89, 3) := by decide +kernel
theorem dX11_agreesWithSeen_23 : decode cX11_agreesWithSeen 23 = .ok (.iload 4, 2) := by decide +kernel
theorem dX11_agreesWithSeen_25 : decode cX11_agreesWithSeen 25 = .ok (.iaload, 1) := by decide +kernel
theorem dX11_agreesWithSeen_26 : decode cX11_agreesWithSeen 26 = .ok (.iload_n 1, 1) := by decide +kernel
theorem dX11_agreesWithSeen_27 : decode cX11_agreesWithSeen 27 = .ok (.if_icmp .ne 42, 3) := by decide +kernel
theorem dX11_agreesWithSeen_30 : decode cX11_agreesWithSeen 30 = .ok (.aload_n 2, 1) := by decide +kernel
theorem dX11_agreesWithSeen_31 : decode cX11_agreesWithSeen 31 = .ok (.aload_n 3, 1) := by decide +kernel
theorem dX11_agreesWithSeen_32 : decode cX11_agreesWithSeen 32 = .ok (.aload_n 0, 1) := by decide +kernel
theorem dX11_agreesWithSeen_33 : decode cX11_agreesWithSeen 33 = .ok (.getfield 92, 3) := by decide +kernel
theorem dX11_agreesWithSeen_36 : decode cX11_agreesWithSeen 36 = .ok (.iload 4, 2) := by decide +kernel
theorem dX11_agreesWithSeen_38 : decode cX11_agreesWithSeen 38 = .ok (.iaload, 1) := by decide +kernel
theorem dX11_agreesWithSeen_39 : decode cX11_agreesWithSeen 39 = .ok (.invokevirtual 222, 3) := by decide +kernel
theorem dX11_agreesWithSeen_42 : decode cX11_agreesWithSeen 42 = .ok (.istore 5, 2) := by decide +kernel
theorem dX11_agreesWithSeen_44 : decode cX11_agreesWithSeen 44 = .ok (.iload 5, 2) := by decide +kernel
theorem dX11_agreesWithSeen_46 : decode cX11_agreesWithSeen 46 = .ok (.iconst (-1), 1) := by decide +kernel
theorem dX11_agreesWithSeen_47 : decode cX11_agreesWithSeen 47 = .ok (.if_icmp .ne 8, 3) := by decide +kernel
theorem dX11_agreesWithSeen_50 : decode cX11_agreesWithSeen 50 = .ok (.bipush 60, 2) := by decide +kernel
theorem dX11_agreesWithSeen_52 : decode cX11_agreesWithSeen 52 = .ok (.goto 5, 3) := by decide +kernel
theorem dX11_agreesWithSeen_55 : decode cX11_agreesWithSeen 55 = .ok (.iload 5, 2) := by decide +kernel
theorem dX11_agreesWithSeen_57 : decode cX11_agreesWithSeen 57 = .ok (.aload_n 0, 1) := by decide +kernel
theorem dX11_agreesWithSeen_58 : decode cX11_agreesWithSeen 58 = .ok (.getfield 95, 3) := by decide +kernel
theorem dX11_agreesWithSeen_61 : decode cX11_agreesWithSeen 61 = .ok (.iload 4, 2) := by decide +kernel
theorem dX11_agreesWithSeen_63 : decode cX11_agreesWithSeen 63 = .ok (.iaload, 1) := by decide +kernel
theorem dX11_agreesWithSeen_64 : decode cX11_agreesWithSeen 64 = .ok (.if_icmp .eq 5, 3) := by decide +kernel
theorem dX11_agreesWithSeen_67 : decode cX11_agreesWithSeen 67 = .ok (.iconst 0, 1) := by decide +kernel
theorem dX11_agreesWithSeen_68 : decode cX11_agreesWithSeen 68 = .ok (.ireturn, 1) := by decide +kernel
theorem dX11_agreesWithSeen_69 : decode cX11_agreesWithSeen 69 = .ok (.iinc 4 1, 3) := by decide +kernel
theorem dX11_agreesWithSeen_72 : decode cX11_agreesWithSeen 72 = .ok (.goto (-69), 3) := by decide +kernel
theorem dX11_agreesWithSeen_75 : decode cX11_agreesWithSeen 75 = .ok (.iconst 1, 1) := by decide +kernel
theorem dX11_agreesWithSeen_76 : decode cX11_agreesWithSeen 76 = .ok (.ireturn, 1) := by decide +kernel
theorem dX11_choices_0 : decode cX11_choices 0 = .ok (.lconst 1, 1) := by decide +kernel
theorem dX11_choices_1 : decode cX11_choices 1 = .ok (.lstore_n 2, 1) := by decide +kernel
theorem dX11_choices_2 : decode cX11_choices 2 = .ok (.iconst 1, 1) := by decide +kernel
theorem dX11_choices_3 : decode cX11_choices 3 = .ok (.istore 4, 2) := by decide +kernel
theorem dX11_choices_5 : decode cX11_choices 5 = .ok (.iload 4, 2) := by decide +kernel
theorem dX11_choices_7 : decode cX11_choices 7 = .ok (.iload_n 1, 1) := by decide +kernel
theorem dX11_choices_8 : decode cX11_choices 8 = .ok (.if_icmp .gt 23, 3) := by decide +kernel
theorem dX11_choices_11 : decode cX11_choices 11 = .ok (.lload_n 2, 1) := by decide +kernel
theorem dX11_choices_12 : decode cX11_choices 12 = .ok (.iload_n 0, 1) := by decide +kernel
theorem dX11_choices_13 : decode cX11_choices 13 = .ok (.iload_n 1, 1) := by decide +kernel
theorem dX11_choices_14 : decode cX11_choices 14 = .ok (.isub, 1) := by decide +kernel
theorem dX11_choices_15 : decode cX11_choices 15 = .ok (.iload 4, 2) := by decide +kernel
theorem dX11_choices_17 : decode cX11_choices 17 = .ok (.iadd, 1) := by decide +kernel
theorem dX11_choices_18 : decode cX11_choices 18 = .ok (.i2l, 1) := by decide +kernel
theorem dX11_choices_19 : decode cX11_choices 19 = .ok (.lmul, 1) := by decide +kernel
theorem dX11_choices_20 : decode cX11_choices 20 = .ok (.iload 4, 2) := by decide +kernel
theorem dX11_choices_22 : decode cX11_choices 22 = .ok (.i2l, 1) := by decide +kernel
theorem dX11_choices_23 : decode cX11_choices 23 = .ok (.ldiv, 1) := by decide +kernel
theorem dX11_choices_24 : decode cX11_choices 24 = .ok (.lstore_n 2, 1) := by decide +kernel
theorem dX11_choices_25 : decode cX11_choices 25 = .ok (.iinc 4 1, 3) := by decide +kernel
theorem dX11_choices_28 : decode cX11_choices 28 = .ok (.goto (-23), 3) := by decide +kernel
theorem dX11_choices_31 : decode cX11_choices 31 = .ok (.lload_n 2, 1) := by decide +kernel
theorem dX11_choices_32 : decode cX11_choices 32 = .ok (.lreturn, 1) := by decide +kernel
theorem dX11_power_0 : decode cX11_power 0 = .ok (.lconst 1, 1) := by decide +kernel
theorem dX11_power_1 : decode cX11_power 1 = .ok (.lstore_n 2, 1) := by decide +kernel
theorem dX11_power_2 : decode cX11_power 2 = .ok (.iconst 0, 1) := by decide +kernel
theorem dX11_power_3 : decode cX11_power 3 = .ok (.istore 4, 2) := by decide +kernel
theorem dX11_power_5 : decode cX11_power 5 = .ok (.iload 4, 2) := by decide +kernel
theorem dX11_power_7 : decode cX11_power 7 = .ok (.iload_n 1, 1) := by decide +kernel
theorem dX11_power_8 : decode cX11_power 8 = .ok (.if_icmp .ge 14, 3) := by decide +kernel
theorem dX11_power_11 : decode cX11_power 11 = .ok (.lload_n 2, 1) := by decide +kernel
theorem dX11_power_12 : decode cX11_power 12 = .ok (.iload_n 0, 1) := by decide +kernel
theorem dX11_power_13 : decode cX11_power 13 = .ok (.i2l, 1) := by decide +kernel
theorem dX11_power_14 : decode cX11_power 14 = .ok (.lmul, 1) := by decide +kernel
theorem dX11_power_15 : decode cX11_power 15 = .ok (.lstore_n 2, 1) := by decide +kernel
theorem dX11_power_16 : decode cX11_power 16 = .ok (.iinc 4 1, 3) := by decide +kernel
theorem dX11_power_19 : decode cX11_power 19 = .ok (.goto (-14), 3) := by decide +kernel
theorem dX11_power_22 : decode cX11_power 22 = .ok (.lload_n 2, 1) := by decide +kernel
theorem dX11_power_23 : decode cX11_power 23 = .ok (.lreturn, 1) := by decide +kernel
theorem dX11_commonDivisor_0 : decode cX11_commonDivisor 0 = .ok (.lload_n 0, 1) := by decide +kernel
theorem dX11_commonDivisor_1 : decode cX11_commonDivisor 1 = .ok (.lstore 4, 2) := by decide +kernel
theorem dX11_commonDivisor_3 : decode cX11_commonDivisor 3 = .ok (.lload_n 2, 1) := by decide +kernel
theorem dX11_commonDivisor_4 : decode cX11_commonDivisor 4 = .ok (.lstore 6, 2) := by decide +kernel
theorem dX11_commonDivisor_6 : decode cX11_commonDivisor 6 = .ok (.iconst 0, 1) := by decide +kernel
theorem dX11_commonDivisor_7 : decode cX11_commonDivisor 7 = .ok (.istore 8, 2) := by decide +kernel
theorem dX11_commonDivisor_9 : decode cX11_commonDivisor 9 = .ok (.iload 8, 2) := by decide +kernel
theorem dX11_commonDivisor_11 : decode cX11_commonDivisor 11 = .ok (.bipush 100, 2) := by decide +kernel
theorem dX11_commonDivisor_13 : decode cX11_commonDivisor 13 = .ok (.if_icmp .ge 31, 3) := by decide +kernel
theorem dX11_commonDivisor_16 : decode cX11_commonDivisor 16 = .ok (.lload 6, 2) := by decide +kernel
theorem dX11_commonDivisor_18 : decode cX11_commonDivisor 18 = .ok (.lconst 0, 1) := by decide +kernel
theorem dX11_commonDivisor_19 : decode cX11_commonDivisor 19 = .ok (.lcmp, 1) := by decide +kernel
theorem dX11_commonDivisor_20 : decode cX11_commonDivisor 20 = .ok (.ifCond .le 24, 3) := by decide +kernel
theorem dX11_commonDivisor_23 : decode cX11_commonDivisor 23 = .ok (.lload 4, 2) := by decide +kernel
theorem dX11_commonDivisor_25 : decode cX11_commonDivisor 25 = .ok (.lload 6, 2) := by decide +kernel
theorem dX11_commonDivisor_27 : decode cX11_commonDivisor 27 = .ok (.lrem, 1) := by decide +kernel
theorem dX11_commonDivisor_28 : decode cX11_commonDivisor 28 = .ok (.lstore 9, 2) := by decide +kernel
theorem dX11_commonDivisor_30 : decode cX11_commonDivisor 30 = .ok (.lload 6, 2) := by decide +kernel
theorem dX11_commonDivisor_32 : decode cX11_commonDivisor 32 = .ok (.lstore 4, 2) := by decide +kernel
theorem dX11_commonDivisor_34 : decode cX11_commonDivisor 34 = .ok (.lload 9, 2) := by decide +kernel
theorem dX11_commonDivisor_36 : decode cX11_commonDivisor 36 = .ok (.lstore 6, 2) := by decide +kernel
theorem dX11_commonDivisor_38 : decode cX11_commonDivisor 38 = .ok (.iinc 8 1, 3) := by decide +kernel
theorem dX11_commonDivisor_41 : decode cX11_commonDivisor 41 = .ok (.goto (-32), 3) := by decide +kernel
theorem dX11_commonDivisor_44 : decode cX11_commonDivisor 44 = .ok (.lload 4, 2) := by decide +kernel
theorem dX11_commonDivisor_46 : decode cX11_commonDivisor 46 = .ok (.lreturn, 1) := by decide +kernel
theorem dX11_lineAt_0 : decode cX11_lineAt 0 = .ok (.iload_n 1, 1) := by decide +kernel
theorem dX11_lineAt_1 : decode cX11_lineAt 1 = .ok (.ifCond .lt 8, 3) := by decide +kernel
theorem dX11_lineAt_4 : decode cX11_lineAt 4 = .ok (.iload_n 1, 1) := by decide +kernel
theorem dX11_lineAt_5 : decode cX11_lineAt 5 = .ok (.iconst 3, 1) := by decide +kernel
theorem dX11_lineAt_6 : decode cX11_lineAt 6 = .ok (.if_icmp .lt 7, 3) := by decide +kernel
theorem dX11_lineAt_9 : decode cX11_lineAt 9 = .ok (.aconst_null, 1) := by decide +kernel
theorem dX11_lineAt_10 : decode cX11_lineAt 10 = .ok (.goto 9, 3) := by decide +kernel
theorem dX11_lineAt_13 : decode cX11_lineAt 13 = .ok (.aload_n 0, 1) := by decide +kernel
theorem dX11_lineAt_14 : decode cX11_lineAt 14 = .ok (.getfield 100, 3) := by decide +kernel
theorem dX11_lineAt_17 : decode cX11_lineAt 17 = .ok (.iload_n 1, 1) := by decide +kernel
theorem dX11_lineAt_18 : decode cX11_lineAt 18 = .ok (.aaload, 1) := by decide +kernel
theorem dX11_lineAt_19 : decode cX11_lineAt 19 = .ok (.areturn, 1) := by decide +kernel
theorem dX11_linesThere_0 : decode cX11_linesThere 0 = .ok (.iconst 0, 1) := by decide +kernel
theorem dX11_linesThere_1 : decode cX11_linesThere 1 = .ok (.istore_n 1, 1) := by decide +kernel
theorem dX11_linesThere_2 : decode cX11_linesThere 2 = .ok (.iconst 0, 1) := by decide +kernel
theorem dX11_linesThere_3 : decode cX11_linesThere 3 = .ok (.istore_n 2, 1) := by decide +kernel
theorem dX11_linesThere_4 : decode cX11_linesThere 4 = .ok (.iload_n 2, 1) := by decide +kernel
theorem dX11_linesThere_5 : decode cX11_linesThere 5 = .ok (.iconst 3, 1) := by decide +kernel
theorem dX11_linesThere_6 : decode cX11_linesThere 6 = .ok (.if_icmp .ge 29, 3) := by decide +kernel
theorem dX11_linesThere_9 : decode cX11_linesThere 9 = .ok (.iload_n 1, 1) := by decide +kernel
theorem dX11_linesThere_10 : decode cX11_linesThere 10 = .ok (.aload_n 0, 1) := by decide +kernel
theorem dX11_linesThere_11 : decode cX11_linesThere 11 = .ok (.getfield 100, 3) := by decide +kernel
theorem dX11_linesThere_14 : decode cX11_linesThere 14 = .ok (.iload_n 2, 1) := by decide +kernel
theorem dX11_linesThere_15 : decode cX11_linesThere 15 = .ok (.aaload, 1) := by decide +kernel
theorem dX11_linesThere_16 : decode cX11_linesThere 16 = .ok (.getfield 124, 3) := by decide +kernel
theorem dX11_linesThere_19 : decode cX11_linesThere 19 = .ok (.ifCond .eq 7, 3) := by decide +kernel
theorem dX11_linesThere_22 : decode cX11_linesThere 22 = .ok (.iconst 1, 1) := by decide +kernel
theorem dX11_linesThere_23 : decode cX11_linesThere 23 = .ok (.goto 4, 3) := by decide +kernel
theorem dX11_linesThere_26 : decode cX11_linesThere 26 = .ok (.iconst 0, 1) := by decide +kernel
theorem dX11_linesThere_27 : decode cX11_linesThere 27 = .ok (.iadd, 1) := by decide +kernel
theorem dX11_linesThere_28 : decode cX11_linesThere 28 = .ok (.istore_n 1, 1) := by decide +kernel
theorem dX11_linesThere_29 : decode cX11_linesThere 29 = .ok (.iinc 2 1, 3) := by decide +kernel
theorem dX11_linesThere_32 : decode cX11_linesThere 32 = .ok (.goto (-28), 3) := by decide +kernel
theorem dX11_linesThere_35 : decode cX11_linesThere 35 = .ok (.iload_n 1, 1) := by decide +kernel
theorem dX11_linesThere_36 : decode cX11_linesThere 36 = .ok (.ireturn, 1) := by decide +kernel
