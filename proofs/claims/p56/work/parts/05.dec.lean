theorem dX0_init_0 : decode cX0_init 0 = .ok (.aload_n 0, 1) := by decide +kernel
theorem dX0_init_1 : decode cX0_init 1 = .ok (.invokespecial 3, 3) := by decide +kernel
theorem dX0_init_4 : decode cX0_init 4 = .ok (.aload_n 0, 1) := by decide +kernel
theorem dX0_init_5 : decode cX0_init 5 = .ok (.bipush 16, 2) := by decide +kernel
theorem dX0_init_7 : decode cX0_init 7 = .ok (.newarray .int, 2) := by decide +kernel
theorem dX0_init_9 : decode cX0_init 9 = .ok (.putfield 9, 3) := by decide +kernel
theorem dX0_init_12 : decode cX0_init 12 = .ok (.return_, 1) := by decide +kernel
theorem dX0_copyFrom_0 : decode cX0_copyFrom 0 = .ok (.aload_n 1, 1) := by decide +kernel
theorem dX0_copyFrom_1 : decode cX0_copyFrom 1 = .ok (.getfield 9, 3) := by decide +kernel
theorem dX0_copyFrom_4 : decode cX0_copyFrom 4 = .ok (.iconst 0, 1) := by decide +kernel
theorem dX0_copyFrom_5 : decode cX0_copyFrom 5 = .ok (.aload_n 0, 1) := by decide +kernel
theorem dX0_copyFrom_6 : decode cX0_copyFrom 6 = .ok (.getfield 9, 3) := by decide +kernel
theorem dX0_copyFrom_9 : decode cX0_copyFrom 9 = .ok (.iconst 0, 1) := by decide +kernel
theorem dX0_copyFrom_10 : decode cX0_copyFrom 10 = .ok (.aload_n 0, 1) := by decide +kernel
theorem dX0_copyFrom_11 : decode cX0_copyFrom 11 = .ok (.getfield 9, 3) := by decide +kernel
theorem dX0_copyFrom_14 : decode cX0_copyFrom 14 = .ok (.arraylength, 1) := by decide +kernel
theorem dX0_copyFrom_15 : decode cX0_copyFrom 15 = .ok (.invokestatic 15, 3) := by decide +kernel
theorem dX0_copyFrom_18 : decode cX0_copyFrom 18 = .ok (.aload_n 0, 1) := by decide +kernel
theorem dX0_copyFrom_19 : decode cX0_copyFrom 19 = .ok (.aload_n 1, 1) := by decide +kernel
theorem dX0_copyFrom_20 : decode cX0_copyFrom 20 = .ok (.getfield 21, 3) := by decide +kernel
theorem dX0_copyFrom_23 : decode cX0_copyFrom 23 = .ok (.putfield 21, 3) := by decide +kernel
theorem dX0_copyFrom_26 : decode cX0_copyFrom 26 = .ok (.return_, 1) := by decide +kernel
theorem dX0_takeFrom_0 : decode cX0_takeFrom 0 = .ok (.aload_n 0, 1) := by decide +kernel
theorem dX0_takeFrom_1 : decode cX0_takeFrom 1 = .ok (.iconst 0, 1) := by decide +kernel
theorem dX0_takeFrom_2 : decode cX0_takeFrom 2 = .ok (.putfield 21, 3) := by decide +kernel
theorem dX0_takeFrom_5 : decode cX0_takeFrom 5 = .ok (.iconst 0, 1) := by decide +kernel
theorem dX0_takeFrom_6 : decode cX0_takeFrom 6 = .ok (.istore 4, 2) := by decide +kernel
theorem dX0_takeFrom_8 : decode cX0_takeFrom 8 = .ok (.iload 4, 2) := by decide +kernel
theorem dX0_takeFrom_10 : decode cX0_takeFrom 10 = .ok (.bipush 16, 2) := by decide +kernel
theorem dX0_takeFrom_12 : decode cX0_takeFrom 12 = .ok (.if_icmp .ge 42, 3) := by decide +kernel
theorem dX0_takeFrom_15 : decode cX0_takeFrom 15 = .ok (.aload_n 1, 1) := by decide +kernel
theorem dX0_takeFrom_16 : decode cX0_takeFrom 16 = .ok (.getfield 25, 3) := by decide +kernel
theorem dX0_takeFrom_19 : decode cX0_takeFrom 19 = .ok (.iload 4, 2) := by decide +kernel
theorem dX0_takeFrom_21 : decode cX0_takeFrom 21 = .ok (.iaload, 1) := by decide +kernel
theorem dX0_takeFrom_22 : decode cX0_takeFrom 22 = .ok (.iload_n 2, 1) := by decide +kernel
theorem dX0_takeFrom_23 : decode cX0_takeFrom 23 = .ok (.if_icmp .ne 25, 3) := by decide +kernel
theorem dX0_takeFrom_26 : decode cX0_takeFrom 26 = .ok (.aload_n 1, 1) := by decide +kernel
theorem dX0_takeFrom_27 : decode cX0_takeFrom 27 = .ok (.getfield 30, 3) := by decide +kernel
theorem dX0_takeFrom_30 : decode cX0_takeFrom 30 = .ok (.iload 4, 2) := by decide +kernel
theorem dX0_takeFrom_32 : decode cX0_takeFrom 32 = .ok (.iaload, 1) := by decide +kernel
theorem dX0_takeFrom_33 : decode cX0_takeFrom 33 = .ok (.iload_n 3, 1) := by decide +kernel
theorem dX0_takeFrom_34 : decode cX0_takeFrom 34 = .ok (.if_icmp .lt 14, 3) := by decide +kernel
theorem dX0_takeFrom_37 : decode cX0_takeFrom 37 = .ok (.aload_n 0, 1) := by decide +kernel
theorem dX0_takeFrom_38 : decode cX0_takeFrom 38 = .ok (.aload_n 1, 1) := by decide +kernel
theorem dX0_takeFrom_39 : decode cX0_takeFrom 39 = .ok (.getfield 30, 3) := by decide +kernel
theorem dX0_takeFrom_42 : decode cX0_takeFrom 42 = .ok (.iload 4, 2) := by decide +kernel
theorem dX0_takeFrom_44 : decode cX0_takeFrom 44 = .ok (.iaload, 1) := by decide +kernel
theorem dX0_takeFrom_45 : decode cX0_takeFrom 45 = .ok (.invokevirtual 33, 3) := by decide +kernel
theorem dX0_takeFrom_48 : decode cX0_takeFrom 48 = .ok (.iinc 4 1, 3) := by decide +kernel
theorem dX0_takeFrom_51 : decode cX0_takeFrom 51 = .ok (.goto (-43), 3) := by decide +kernel
theorem dX0_takeFrom_54 : decode cX0_takeFrom 54 = .ok (.return_, 1) := by decide +kernel
theorem dX0_add_0 : decode cX0_add 0 = .ok (.aload_n 0, 1) := by decide +kernel
theorem dX0_add_1 : decode cX0_add 1 = .ok (.getfield 21, 3) := by decide +kernel
theorem dX0_add_4 : decode cX0_add 4 = .ok (.aload_n 0, 1) := by decide +kernel
theorem dX0_add_5 : decode cX0_add 5 = .ok (.getfield 9, 3) := by decide +kernel
theorem dX0_add_8 : decode cX0_add 8 = .ok (.arraylength, 1) := by decide +kernel
theorem dX0_add_9 : decode cX0_add 9 = .ok (.if_icmp .lt 4, 3) := by decide +kernel
theorem dX0_add_12 : decode cX0_add 12 = .ok (.return_, 1) := by decide +kernel
theorem dX0_add_13 : decode cX0_add 13 = .ok (.aload_n 0, 1) := by decide +kernel
theorem dX0_add_14 : decode cX0_add 14 = .ok (.getfield 21, 3) := by decide +kernel
theorem dX0_add_17 : decode cX0_add 17 = .ok (.istore_n 2, 1) := by decide +kernel
theorem dX0_add_18 : decode cX0_add 18 = .ok (.iload_n 2, 1) := by decide +kernel
theorem dX0_add_19 : decode cX0_add 19 = .ok (.ifCond .le 35, 3) := by decide +kernel
theorem dX0_add_22 : decode cX0_add 22 = .ok (.aload_n 0, 1) := by decide +kernel
theorem dX0_add_23 : decode cX0_add 23 = .ok (.getfield 9, 3) := by decide +kernel
theorem dX0_add_26 : decode cX0_add 26 = .ok (.iload_n 2, 1) := by decide +kernel
theorem dX0_add_27 : decode cX0_add 27 = .ok (.iconst 1, 1) := by decide +kernel
theorem dX0_add_28 : decode cX0_add 28 = .ok (.isub, 1) := by decide +kernel
theorem dX0_add_29 : decode cX0_add 29 = .ok (.iaload, 1) := by decide +kernel
theorem dX0_add_30 : decode cX0_add 30 = .ok (.iload_n 1, 1) := by decide +kernel
theorem dX0_add_31 : decode cX0_add 31 = .ok (.if_icmp .le 23, 3) := by decide +kernel
theorem dX0_add_34 : decode cX0_add 34 = .ok (.aload_n 0, 1) := by decide +kernel
theorem dX0_add_35 : decode cX0_add 35 = .ok (.getfield 9, 3) := by decide +kernel
theorem dX0_add_38 : decode cX0_add 38 = .ok (.iload_n 2, 1) := by decide +kernel
theorem dX0_add_39 : decode cX0_add 39 = .ok (.aload_n 0, 1) := by decide +kernel
theorem dX0_add_40 : decode cX0_add 40 = .ok (.getfield 9, 3) := by decide +kernel
theorem dX0_add_43 : decode cX0_add 43 = .ok (.iload_n 2, 1) := by decide +kernel
theorem dX0_add_44 : decode cX0_add 44 = .ok (.iconst 1, 1) := by decide +kernel
theorem dX0_add_45 : decode cX0_add 45 = .ok (.isub, 1) := by decide +kernel
theorem dX0_add_46 : decode cX0_add 46 = .ok (.iaload, 1) := by decide +kernel
theorem dX0_add_47 : decode cX0_add 47 = .ok (.iastore, 1) := by decide +kernel
theorem dX0_add_48 : decode cX0_add 48 = .ok (.iinc 2 (-1), 3) := by decide +kernel
theorem dX0_add_51 : decode cX0_add 51 = .ok (.goto (-33), 3) := by decide +kernel
theorem dX0_add_54 : decode cX0_add 54 = .ok (.aload_n 0, 1) := by decide +kernel
theorem dX0_add_55 : decode cX0_add 55 = .ok (.getfield 9, 3) := by decide +kernel
theorem dX0_add_58 : decode cX0_add 58 = .ok (.iload_n 2, 1) := by decide +kernel
theorem dX0_add_59 : decode cX0_add 59 = .ok (.iload_n 1, 1) := by decide +kernel
theorem dX0_add_60 : decode cX0_add 60 = .ok (.iastore, 1) := by decide +kernel
theorem dX0_add_61 : decode cX0_add 61 = .ok (.aload_n 0, 1) := by decide +kernel
theorem dX0_add_62 : decode cX0_add 62 = .ok (.dup, 1) := by decide +kernel
theorem dX0_add_63 : decode cX0_add 63 = .ok (.getfield 21, 3) := by decide +kernel
theorem dX0_add_66 : decode cX0_add 66 = .ok (.iconst 1, 1) := by decide +kernel
theorem dX0_add_67 : decode cX0_add 67 = .ok (.iadd, 1) := by decide +kernel
theorem dX0_add_68 : decode cX0_add 68 = .ok (.putfield 21, 3) := by decide +kernel
theorem dX0_add_71 : decode cX0_add 71 = .ok (.return_, 1) := by decide +kernel
theorem dX0_remove_0 : decode cX0_remove 0 = .ok (.iconst 0, 1) := by decide +kernel
theorem dX0_remove_1 : decode cX0_remove 1 = .ok (.istore_n 2, 1) := by decide +kernel
theorem dX0_remove_2 : decode cX0_remove 2 = .ok (.iload_n 2, 1) := by decide +kernel
theorem dX0_remove_3 : decode cX0_remove 3 = .ok (.aload_n 0, 1) := by decide +kernel
theorem dX0_remove_4 : decode cX0_remove 4 = .ok (.getfield 21, 3) := by decide +kernel
theorem dX0_remove_7 : decode cX0_remove 7 = .ok (.if_icmp .ge 19, 3) := by decide +kernel
theorem dX0_remove_10 : decode cX0_remove 10 = .ok (.aload_n 0, 1) := by decide +kernel
theorem dX0_remove_11 : decode cX0_remove 11 = .ok (.getfield 9, 3) := by decide +kernel
theorem dX0_remove_14 : decode cX0_remove 14 = .ok (.iload_n 2, 1) := by decide +kernel
theorem dX0_remove_15 : decode cX0_remove 15 = .ok (.iaload, 1) := by decide +kernel
theorem dX0_remove_16 : decode cX0_remove 16 = .ok (.iload_n 1, 1) := by decide +kernel
theorem dX0_remove_17 : decode cX0_remove 17 = .ok (.if_icmp .eq 9, 3) := by decide +kernel
theorem dX0_remove_20 : decode cX0_remove 20 = .ok (.iinc 2 1, 3) := by decide +kernel
theorem dX0_remove_23 : decode cX0_remove 23 = .ok (.goto (-21), 3) := by decide +kernel
theorem dX0_remove_26 : decode cX0_remove 26 = .ok (.iload_n 2, 1) := by decide +kernel
theorem dX0_remove_27 : decode cX0_remove 27 = .ok (.aload_n 0, 1) := by decide +kernel
theorem dX0_remove_28 : decode cX0_remove 28 = .ok (.getfield 21, 3) := by decide +kernel
theorem dX0_remove_31 : decode cX0_remove 31 = .ok (.if_icmp .lt 4, 3) := by decide +kernel
theorem dX0_remove_34 : decode cX0_remove 34 = .ok (.return_, 1) := by decide +kernel
theorem dX0_remove_35 : decode cX0_remove 35 = .ok (.aload_n 0, 1) := by decide +kernel
theorem dX0_remove_36 : decode cX0_remove 36 = .ok (.dup, 1) := by decide +kernel
theorem dX0_remove_37 : decode cX0_remove 37 = .ok (.getfield 21, 3) := by decide +kernel
theorem dX0_remove_40 : decode cX0_remove 40 = .ok (.iconst 1, 1) := by decide +kernel
theorem dX0_remove_41 : decode cX0_remove 41 = .ok (.isub, 1) := by decide +kernel
theorem dX0_remove_42 : decode cX0_remove 42 = .ok (.putfield 21, 3) := by decide +kernel
theorem dX0_remove_45 : decode cX0_remove 45 = .ok (.iload_n 2, 1) := by decide +kernel
theorem dX0_remove_46 : decode cX0_remove 46 = .ok (.istore_n 3, 1) := by decide +kernel
theorem dX0_remove_47 : decode cX0_remove 47 = .ok (.iload_n 3, 1) := by decide +kernel
theorem dX0_remove_48 : decode cX0_remove 48 = .ok (.aload_n 0, 1) := by decide +kernel
theorem dX0_remove_49 : decode cX0_remove 49 = .ok (.getfield 21, 3) := by decide +kernel
theorem dX0_remove_52 : decode cX0_remove 52 = .ok (.if_icmp .ge 23, 3) := by decide +kernel
theorem dX0_remove_55 : decode cX0_remove 55 = .ok (.aload_n 0, 1) := by decide +kernel
theorem dX0_remove_56 : decode cX0_remove 56 = .ok (.getfield 9, 3) := by decide +kernel
theorem dX0_remove_59 : decode cX0_remove 59 = .ok (.iload_n 3, 1) := by decide +kernel
theorem dX0_remove_60 : decode cX0_remove 60 = .ok (.aload_n 0, 1) := by decide +kernel
theorem dX0_remove_61 : decode cX0_remove 61 = .ok (.getfield 9, 3) := by decide +kernel
theorem dX0_remove_64 : decode cX0_remove 64 = .ok (.iload_n 3, 1) := by decide +kernel
theorem dX0_remove_65 : decode cX0_remove 65 = .ok (.iconst 1, 1) := by decide +kernel
theorem dX0_remove_66 : decode cX0_remove 66 = .ok (.iadd, 1) := by decide +kernel
theorem dX0_remove_67 : decode cX0_remove 67 = .ok (.iaload, 1) := by decide +kernel
theorem dX0_remove_68 : decode cX0_remove 68 = .ok (.iastore, 1) := by decide +kernel
theorem dX0_remove_69 : decode cX0_remove 69 = .ok (.iinc 3 1, 3) := by decide +kernel
theorem dX0_remove_72 : decode cX0_remove 72 = .ok (.goto (-25), 3) := by decide +kernel
theorem dX0_remove_75 : decode cX0_remove 75 = .ok (.return_, 1) := by decide +kernel
theorem dX0_total_0 : decode cX0_total 0 = .ok (.iconst 0, 1) := by decide +kernel
theorem dX0_total_1 : decode cX0_total 1 = .ok (.istore_n 1, 1) := by decide +kernel
theorem dX0_total_2 : decode cX0_total 2 = .ok (.iconst 0, 1) := by decide +kernel
theorem dX0_total_3 : decode cX0_total 3 = .ok (.istore_n 2, 1) := by decide +kernel
theorem dX0_total_4 : decode cX0_total 4 = .ok (.iload_n 2, 1) := by decide +kernel
theorem dX0_total_5 : decode cX0_total 5 = .ok (.aload_n 0, 1) := by decide +kernel
theorem dX0_total_6 : decode cX0_total 6 = .ok (.getfield 21, 3) := by decide +kernel
theorem dX0_total_9 : decode cX0_total 9 = .ok (.if_icmp .ge 18, 3) := by decide +kernel
theorem dX0_total_12 : decode cX0_total 12 = .ok (.iload_n 1, 1) := by decide +kernel
theorem dX0_total_13 : decode cX0_total 13 = .ok (.aload_n 0, 1) := by decide +kernel
theorem dX0_total_14 : decode cX0_total 14 = .ok (.getfield 9, 3) := by decide +kernel
theorem dX0_total_17 : decode cX0_total 17 = .ok (.iload_n 2, 1) := by decide +kernel
theorem dX0_total_18 : decode cX0_total 18 = .ok (.iaload, 1) := by decide +kernel
theorem dX0_total_19 : decode cX0_total 19 = .ok (.iadd, 1) := by decide +kernel
theorem dX0_total_20 : decode cX0_total 20 = .ok (.istore_n 1, 1) := by decide +kernel
theorem dX0_total_21 : decode cX0_total 21 = .ok (.iinc 2 1, 3) := by decide +kernel
theorem dX0_total_24 : decode cX0_total 24 = .ok (.goto (-20), 3) := by decide +kernel
theorem dX0_total_27 : decode cX0_total 27 = .ok (.iload_n 1, 1) := by decide +kernel
theorem dX0_total_28 : decode cX0_total 28 = .ok (.ireturn, 1) := by decide +kernel
theorem dX0_first_0 : decode cX0_first 0 = .ok (.aload_n 0, 1) := by decide +kernel
theorem dX0_first_1 : decode cX0_first 1 = .ok (.iconst 0, 1) := by decide +kernel
theorem dX0_first_2 : decode cX0_first 2 = .ok (.invokevirtual 37, 3) := by decide +kernel
theorem dX0_first_5 : decode cX0_first 5 = .ok (.ireturn, 1) := by decide +kernel
theorem dX0_last_0 : decode cX0_last 0 = .ok (.aload_n 0, 1) := by decide +kernel
theorem dX0_last_1 : decode cX0_last 1 = .ok (.aload_n 0, 1) := by decide +kernel
theorem dX0_last_2 : decode cX0_last 2 = .ok (.getfield 21, 3) := by decide +kernel
theorem dX0_last_5 : decode cX0_last 5 = .ok (.iconst 1, 1) := by decide +kernel
theorem dX0_last_6 : decode cX0_last 6 = .ok (.isub, 1) := by decide +kernel
theorem dX0_last_7 : decode cX0_last 7 = .ok (.invokevirtual 37, 3) := by decide +kernel
theorem dX0_last_10 : decode cX0_last 10 = .ok (.ireturn, 1) := by decide +kernel
theorem dX0_middle_0 : decode cX0_middle 0 = .ok (.aload_n 0, 1) := by decide +kernel
theorem dX0_middle_1 : decode cX0_middle 1 = .ok (.aload_n 0, 1) := by decide +kernel
theorem dX0_middle_2 : decode cX0_middle 2 = .ok (.getfield 21, 3) := by decide +kernel
theorem dX0_middle_5 : decode cX0_middle 5 = .ok (.iconst 1, 1) := by decide +kernel
theorem dX0_middle_6 : decode cX0_middle 6 = .ok (.isub, 1) := by decide +kernel
theorem dX0_middle_7 : decode cX0_middle 7 = .ok (.iconst 2, 1) := by decide +kernel
theorem dX0_middle_8 : decode cX0_middle 8 = .ok (.idiv, 1) := by decide +kernel
theorem dX0_middle_9 : decode cX0_middle 9 = .ok (.invokevirtual 37, 3) := by decide +kernel
theorem dX0_middle_12 : decode cX0_middle 12 = .ok (.ireturn, 1) := by decide +kernel
theorem dX0_valueAt_0 : decode cX0_valueAt 0 = .ok (.iload_n 1, 1) := by decide +kernel
theorem dX0_valueAt_1 : decode cX0_valueAt 1 = .ok (.ifCond .lt 11, 3) := by decide +kernel
theorem dX0_valueAt_4 : decode cX0_valueAt 4 = .ok (.iload_n 1, 1) := by decide +kernel
theorem dX0_valueAt_5 : decode cX0_valueAt 5 = .ok (.aload_n 0, 1) := by decide +kernel
theorem dX0_valueAt_6 : decode cX0_valueAt 6 = .ok (.getfield 21, 3) := by decide +kernel
theorem dX0_valueAt_9 : decode cX0_valueAt 9 = .ok (.if_icmp .lt 5, 3) := by decide +kernel
theorem dX0_valueAt_12 : decode cX0_valueAt 12 = .ok (.iconst 0, 1) := by decide +kernel
theorem dX0_valueAt_13 : decode cX0_valueAt 13 = .ok (.ireturn, 1) := by decide +kernel
theorem dX0_valueAt_14 : decode cX0_valueAt 14 = .ok (.aload_n 0, 1) := by decide +kernel
theorem dX0_valueAt_15 : decode cX0_valueAt 15 = .ok (.getfield 9, 3) := by decide +kernel
theorem dX0_valueAt_18 : decode cX0_valueAt 18 = .ok (.iload_n 1, 1) := by decide +kernel
theorem dX0_valueAt_19 : decode cX0_valueAt 19 = .ok (.iaload, 1) := by decide +kernel
theorem dX0_valueAt_20 : decode cX0_valueAt 20 = .ok (.ireturn, 1) := by decide +kernel
theorem dX0_countBelow_0 : decode cX0_countBelow 0 = .ok (.iconst 0, 1) := by decide +kernel
theorem dX0_countBelow_1 : decode cX0_countBelow 1 = .ok (.istore_n 2, 1) := by decide +kernel
theorem dX0_countBelow_2 : decode cX0_countBelow 2 = .ok (.iload_n 2, 1) := by decide +kernel
theorem dX0_countBelow_3 : decode cX0_countBelow 3 = .ok (.aload_n 0, 1) := by decide +kernel
theorem dX0_countBelow_4 : decode cX0_countBelow 4 = .ok (.getfield 21, 3) := by decide +kernel
theorem dX0_countBelow_7 : decode cX0_countBelow 7 = .ok (.if_icmp .ge 19, 3) := by decide +kernel
theorem dX0_countBelow_10 : decode cX0_countBelow 10 = .ok (.aload_n 0, 1) := by decide +kernel
theorem dX0_countBelow_11 : decode cX0_countBelow 11 = .ok (.getfield 9, 3) := by decide +kernel
theorem dX0_countBelow_14 : decode cX0_countBelow 14 = .ok (.iload_n 2, 1) := by decide +kernel
theorem dX0_countBelow_15 : decode cX0_countBelow 15 = .ok (.iaload, 1) := by decide +kernel
theorem dX0_countBelow_16 : decode cX0_countBelow 16 = .ok (.iload_n 1, 1) := by decide +kernel
theorem dX0_countBelow_17 : decode cX0_countBelow 17 = .ok (.if_icmp .ge 9, 3) := by decide +kernel
theorem dX0_countBelow_20 : decode cX0_countBelow 20 = .ok (.iinc 2 1, 3) := by decide +kernel
theorem dX0_countBelow_23 : decode cX0_countBelow 23 = .ok (.goto (-21), 3) := by decide +kernel
theorem dX0_countBelow_26 : decode cX0_countBelow 26 = .ok (.iload_n 2, 1) := by decide +kernel
theorem dX0_countBelow_27 : decode cX0_countBelow 27 = .ok (.ireturn, 1) := by decide +kernel
theorem dX0_countUnlike_0 : decode cX0_countUnlike 0 = .ok (.iconst 0, 1) := by decide +kernel
theorem dX0_countUnlike_1 : decode cX0_countUnlike 1 = .ok (.istore_n 1, 1) := by decide +kernel
theorem dX0_countUnlike_2 : decode cX0_countUnlike 2 = .ok (.iconst 0, 1) := by decide +kernel
theorem dX0_countUnlike_3 : decode cX0_countUnlike 3 = .ok (.istore_n 2, 1) := by decide +kernel
theorem dX0_countUnlike_4 : decode cX0_countUnlike 4 = .ok (.iload_n 2, 1) := by decide +kernel
theorem dX0_countUnlike_5 : decode cX0_countUnlike 5 = .ok (.aload_n 0, 1) := by decide +kernel
theorem dX0_countUnlike_6 : decode cX0_countUnlike 6 = .ok (.getfield 21, 3) := by decide +kernel
theorem dX0_countUnlike_9 : decode cX0_countUnlike 9 = .ok (.if_icmp .ge 33, 3) := by decide +kernel
theorem dX0_countUnlike_12 : decode cX0_countUnlike 12 = .ok (.iload_n 2, 1) := by decide +kernel
theorem dX0_countUnlike_13 : decode cX0_countUnlike 13 = .ok (.ifCond .eq 20, 3) := by decide +kernel
theorem dX0_countUnlike_16 : decode cX0_countUnlike 16 = .ok (.aload_n 0, 1) := by decide +kernel
theorem dX0_countUnlike_17 : decode cX0_countUnlike 17 = .ok (.getfield 9, 3) := by decide +kernel
theorem dX0_countUnlike_20 : decode cX0_countUnlike 20 = .ok (.iload_n 2, 1) := by decide +kernel
theorem dX0_countUnlike_21 : decode cX0_countUnlike 21 = .ok (.iaload, 1) := by decide +kernel
theorem dX0_countUnlike_22 : decode cX0_countUnlike 22 = .ok (.aload_n 0, 1) := by decide +kernel
theorem dX0_countUnlike_23 : decode cX0_countUnlike 23 = .ok (.getfield 9, 3) := by decide +kernel
theorem dX0_countUnlike_26 : decode cX0_countUnlike 26 = .ok (.iload_n 2, 1) := by decide +kernel
theorem dX0_countUnlike_27 : decode cX0_countUnlike 27 = .ok (.iconst 1, 1) := by decide +kernel
theorem dX0_countUnlike_28 : decode cX0_countUnlike 28 = .ok (.isub, 1) := by decide +kernel
theorem dX0_countUnlike_29 : decode cX0_countUnlike 29 = .ok (.iaload, 1) := by decide +kernel
theorem dX0_countUnlike_30 : decode cX0_countUnlike 30 = .ok (.if_icmp .eq 6, 3) := by decide +kernel
theorem dX0_countUnlike_33 : decode cX0_countUnlike 33 = .ok (.iinc 1 1, 3) := by decide +kernel
theorem dX0_countUnlike_36 : decode cX0_countUnlike 36 = .ok (.iinc 2 1, 3) := by decide +kernel
theorem dX0_countUnlike_39 : decode cX0_countUnlike 39 = .ok (.goto (-35), 3) := by decide +kernel
theorem dX0_countUnlike_42 : decode cX0_countUnlike 42 = .ok (.iload_n 1, 1) := by decide +kernel
theorem dX0_countUnlike_43 : decode cX0_countUnlike 43 = .ok (.ireturn, 1) := by decide +kernel
theorem dX0_tellsLike_0 : decode cX0_tellsLike 0 = .ok (.aload_n 0, 1) := by decide +kernel
theorem dX0_tellsLike_1 : decode cX0_tellsLike 1 = .ok (.getfield 21, 3) := by decide +kernel
theorem dX0_tellsLike_4 : decode cX0_tellsLike 4 = .ok (.aload_n 1, 1) := by decide +kernel
theorem dX0_tellsLike_5 : decode cX0_tellsLike 5 = .ok (.getfield 21, 3) := by decide +kernel
theorem dX0_tellsLike_8 : decode cX0_tellsLike 8 = .ok (.if_icmp .ne 62, 3) := by decide +kernel
theorem dX0_tellsLike_11 : decode cX0_tellsLike 11 = .ok (.aload_n 0, 1) := by decide +kernel
theorem dX0_tellsLike_12 : decode cX0_tellsLike 12 = .ok (.invokevirtual 41, 3) := by decide +kernel
theorem dX0_tellsLike_15 : decode cX0_tellsLike 15 = .ok (.aload_n 1, 1) := by decide +kernel
theorem dX0_tellsLike_16 : decode cX0_tellsLike 16 = .ok (.invokevirtual 41, 3) := by decide +kernel
theorem dX0_tellsLike_19 : decode cX0_tellsLike 19 = .ok (.if_icmp .ne 51, 3) := by decide +kernel
theorem dX0_tellsLike_22 : decode cX0_tellsLike 22 = .ok (.aload_n 0, 1) := by decide +kernel
theorem dX0_tellsLike_23 : decode cX0_tellsLike 23 = .ok (.invokevirtual 45, 3) := by decide +kernel
theorem dX0_tellsLike_26 : decode cX0_tellsLike 26 = .ok (.aload_n 1, 1) := by decide +kernel
theorem dX0_tellsLike_27 : decode cX0_tellsLike 27 = .ok (.invokevirtual 45, 3) := by decide +kernel
theorem dX0_tellsLike_30 : decode cX0_tellsLike 30 = .ok (.if_icmp .ne 40, 3) := by decide +kernel
theorem dX0_tellsLike_33 : decode cX0_tellsLike 33 = .ok (.aload_n 0, 1) := by decide +kernel
theorem dX0_tellsLike_34 : decode cX0_tellsLike 34 = .ok (.invokevirtual 48, 3) := by decide +kernel
theorem dX0_tellsLike_37 : decode cX0_tellsLike 37 = .ok (.aload_n 1, 1) := by decide +kernel
theorem dX0_tellsLike_38 : decode cX0_tellsLike 38 = .ok (.invokevirtual 48, 3) := by decide +kernel
theorem dX0_tellsLike_41 : decode cX0_tellsLike 41 = .ok (.if_icmp .ne 29, 3) := by decide +kernel
theorem dX0_tellsLike_44 : decode cX0_tellsLike 44 = .ok (.aload_n 0, 1) := by decide +kernel
theorem dX0_tellsLike_45 : decode cX0_tellsLike 45 = .ok (.invokevirtual 51, 3) := by decide +kernel
theorem dX0_tellsLike_48 : decode cX0_tellsLike 48 = .ok (.aload_n 1, 1) := by decide +kernel
theorem dX0_tellsLike_49 : decode cX0_tellsLike 49 = .ok (.invokevirtual 51, 3) := by decide +kernel
theorem dX0_tellsLike_52 : decode cX0_tellsLike 52 = .ok (.if_icmp .ne 18, 3) := by decide +kernel
theorem dX0_tellsLike_55 : decode cX0_tellsLike 55 = .ok (.aload_n 0, 1) := by decide +kernel
theorem dX0_tellsLike_56 : decode cX0_tellsLike 56 = .ok (.invokevirtual 54, 3) := by decide +kernel
theorem dX0_tellsLike_59 : decode cX0_tellsLike 59 = .ok (.aload_n 1, 1) := by decide +kernel
theorem dX0_tellsLike_60 : decode cX0_tellsLike 60 = .ok (.invokevirtual 54, 3) := by decide +kernel
theorem dX0_tellsLike_63 : decode cX0_tellsLike 63 = .ok (.if_icmp .ne 7, 3) := by decide +kernel
theorem dX0_tellsLike_66 : decode cX0_tellsLike 66 = .ok (.iconst 1, 1) := by decide +kernel
theorem dX0_tellsLike_67 : decode cX0_tellsLike 67 = .ok (.goto 4, 3) := by decide +kernel
theorem dX0_tellsLike_70 : decode cX0_tellsLike 70 = .ok (.iconst 0, 1) := by decide +kernel
theorem dX0_tellsLike_71 : decode cX0_tellsLike 71 = .ok (.ireturn, 1) := by decide +kernel
theorem dX1_init_0 : decode cX1_init 0 = .ok (.aload_n 0, 1) := by decide +kernel
theorem dX1_init_1 : decode cX1_init 1 = .ok (.invokespecial 3, 3) := by decide +kernel
theorem dX1_init_4 : decode cX1_init 4 = .ok (.aload_n 0, 1) := by decide +kernel
theorem dX1_init_5 : decode cX1_init 5 = .ok (.bipush 64, 2) := by decide +kernel
theorem dX1_init_7 : decode cX1_init 7 = .ok (.newarray .int, 2) := by decide +kernel
theorem dX1_init_9 : decode cX1_init 9 = .ok (.putfield 9, 3) := by decide +kernel
theorem dX1_init_12 : decode cX1_init 12 = .ok (.aload_n 0, 1) := by decide +kernel
theorem dX1_init_13 : decode cX1_init 13 = .ok (.bipush 64, 2) := by decide +kernel
theorem dX1_init_15 : decode cX1_init 15 = .ok (.newarray .int, 2) := by decide +kernel
theorem dX1_init_17 : decode cX1_init 17 = .ok (.putfield 15, 3) := by decide +kernel
theorem dX1_init_20 : decode cX1_init 20 = .ok (.aload_n 0, 1) := by decide +kernel
theorem dX1_init_21 : decode cX1_init 21 = .ok (.bipush 64, 2) := by decide +kernel
theorem dX1_init_23 : decode cX1_init 23 = .ok (.newarray .int, 2) := by decide +kernel
theorem dX1_init_25 : decode cX1_init 25 = .ok (.putfield 18, 3) := by decide +kernel
theorem dX1_init_28 : decode cX1_init 28 = .ok (.return_, 1) := by decide +kernel
theorem dX1_copyFrom_0 : decode cX1_copyFrom 0 = .ok (.aload_n 1, 1) := by decide +kernel
theorem dX1_copyFrom_1 : decode cX1_copyFrom 1 = .ok (.getfield 9, 3) := by decide +kernel
theorem dX1_copyFrom_4 : decode cX1_copyFrom 4 = .ok (.iconst 0, 1) := by decide +kernel
theorem dX1_copyFrom_5 : decode cX1_copyFrom 5 = .ok (.aload_n 0, 1) := by decide +kernel
theorem dX1_copyFrom_6 : decode cX1_copyFrom 6 = .ok (.getfield 9, 3) := by decide +kernel
theorem dX1_copyFrom_9 : decode cX1_copyFrom 9 = .ok (.iconst 0, 1) := by decide +kernel
theorem dX1_copyFrom_10 : decode cX1_copyFrom 10 = .ok (.aload_n 0, 1) := by decide +kernel
theorem dX1_copyFrom_11 : decode cX1_copyFrom 11 = .ok (.getfield 9, 3) := by decide +kernel
theorem dX1_copyFrom_14 : decode cX1_copyFrom 14 = .ok (.arraylength, 1) := by decide +kernel
theorem dX1_copyFrom_15 : decode cX1_copyFrom 15 = .ok (.invokestatic 21, 3) := by decide +kernel
theorem dX1_copyFrom_18 : decode cX1_copyFrom 18 = .ok (.aload_n 1, 1) := by decide +kernel
theorem dX1_copyFrom_19 : decode cX1_copyFrom 19 = .ok (.getfield 15, 3) := by decide +kernel
theorem dX1_copyFrom_22 : decode cX1_copyFrom 22 = .ok (.iconst 0, 1) := by decide +kernel
theorem dX1_copyFrom_23 : decode cX1_copyFrom 23 = .ok (.aload_n 0, 1) := by decide +kernel
theorem dX1_copyFrom_24 : decode cX1_copyFrom 24 = .ok (.getfield 15, 3) := by decide +kernel
theorem dX1_copyFrom_27 : decode cX1_copyFrom 27 = .ok (.iconst 0, 1) := by decide +kernel
theorem dX1_copyFrom_28 : decode cX1_copyFrom 28 = .ok (.aload_n 0, 1) := by decide +kernel
theorem dX1_copyFrom_29 : decode cX1_copyFrom 29 = .ok (.getfield 15, 3) := by decide +kernel
theorem dX1_copyFrom_32 : decode cX1_copyFrom 32 = .ok (.arraylength, 1) := by decide +kernel
theorem dX1_copyFrom_33 : decode cX1_copyFrom 33 = .ok (.invokestatic 21, 3) := by decide +kernel
theorem dX1_copyFrom_36 : decode cX1_copyFrom 36 = .ok (.aload_n 1, 1) := by decide +kernel
theorem dX1_copyFrom_37 : decode cX1_copyFrom 37 = .ok (.getfield 18, 3) := by decide +kernel
theorem dX1_copyFrom_40 : decode cX1_copyFrom 40 = .ok (.iconst 0, 1) := by decide +kernel
theorem dX1_copyFrom_41 : decode cX1_copyFrom 41 = .ok (.aload_n 0, 1) := by decide +kernel
theorem dX1_copyFrom_42 : decode cX1_copyFrom 42 = .ok (.getfield 18, 3) := by decide +kernel
theorem dX1_copyFrom_45 : decode cX1_copyFrom 45 = .ok (.iconst 0, 1) := by decide +kernel
theorem dX1_copyFrom_46 : decode cX1_copyFrom 46 = .ok (.aload_n 0, 1) := by decide +kernel
theorem dX1_copyFrom_47 : decode cX1_copyFrom 47 = .ok (.getfield 18, 3) := by decide +kernel
theorem dX1_copyFrom_50 : decode cX1_copyFrom 50 = .ok (.arraylength, 1) := by decide +kernel
theorem dX1_copyFrom_51 : decode cX1_copyFrom 51 = .ok (.invokestatic 21, 3) := by decide +kernel
theorem dX1_copyFrom_54 : decode cX1_copyFrom 54 = .ok (.aload_n 0, 1) := by decide +kernel
theorem dX1_copyFrom_55 : decode cX1_copyFrom 55 = .ok (.aload_n 1, 1) := by decide +kernel
theorem dX1_copyFrom_56 : decode cX1_copyFrom 56 = .ok (.getfield 27, 3) := by decide +kernel
theorem dX1_copyFrom_59 : decode cX1_copyFrom 59 = .ok (.putfield 27, 3) := by decide +kernel
theorem dX1_copyFrom_62 : decode cX1_copyFrom 62 = .ok (.return_, 1) := by decide +kernel
theorem dX1_write_0 : decode cX1_write 0 = .ok (.aload_n 0, 1) := by decide +kernel
theorem dX1_write_1 : decode cX1_write 1 = .ok (.getfield 27, 3) := by decide +kernel
theorem dX1_write_4 : decode cX1_write 4 = .ok (.invokestatic 31, 3) := by decide +kernel
theorem dX1_write_7 : decode cX1_write 7 = .ok (.istore 4, 2) := by decide +kernel
theorem dX1_write_9 : decode cX1_write 9 = .ok (.aload_n 0, 1) := by decide +kernel
theorem dX1_write_10 : decode cX1_write 10 = .ok (.getfield 9, 3) := by decide +kernel
theorem dX1_write_13 : decode cX1_write 13 = .ok (.iload 4, 2) := by decide +kernel
theorem dX1_write_15 : decode cX1_write 15 = .ok (.iload_n 1, 1) := by decide +kernel
theorem dX1_write_16 : decode cX1_write 16 = .ok (.iastore, 1) := by decide +kernel
theorem dX1_write_17 : decode cX1_write 17 = .ok (.aload_n 0, 1) := by decide +kernel
theorem dX1_write_18 : decode cX1_write 18 = .ok (.getfield 15, 3) := by decide +kernel
theorem dX1_write_21 : decode cX1_write 21 = .ok (.iload 4, 2) := by decide +kernel
theorem dX1_write_23 : decode cX1_write 23 = .ok (.iload_n 2, 1) := by decide +kernel
theorem dX1_write_24 : decode cX1_write 24 = .ok (.iastore, 1) := by decide +kernel
theorem dX1_write_25 : decode cX1_write 25 = .ok (.aload_n 0, 1) := by decide +kernel
theorem dX1_write_26 : decode cX1_write 26 = .ok (.getfield 18, 3) := by decide +kernel
theorem dX1_write_29 : decode cX1_write 29 = .ok (.iload 4, 2) := by decide +kernel
theorem dX1_write_31 : decode cX1_write 31 = .ok (.iload_n 3, 1) := by decide +kernel
theorem dX1_write_32 : decode cX1_write 32 = .ok (.iastore, 1) := by decide +kernel
theorem dX1_write_33 : decode cX1_write 33 = .ok (.aload_n 0, 1) := by decide +kernel
theorem dX1_write_34 : decode cX1_write 34 = .ok (.dup, 1) := by decide +kernel
theorem dX1_write_35 : decode cX1_write 35 = .ok (.getfield 27, 3) := by decide +kernel
theorem dX1_write_38 : decode cX1_write 38 = .ok (.iconst 1, 1) := by decide +kernel
theorem dX1_write_39 : decode cX1_write 39 = .ok (.iadd, 1) := by decide +kernel
theorem dX1_write_40 : decode cX1_write 40 = .ok (.putfield 27, 3) := by decide +kernel
theorem dX1_write_43 : decode cX1_write 43 = .ok (.return_, 1) := by decide +kernel
theorem dX1_slotOf_0 : decode cX1_slotOf 0 = .ok (.iload_n 0, 1) := by decide +kernel
theorem dX1_slotOf_1 : decode cX1_slotOf 1 = .ok (.bipush 63, 2) := by decide +kernel
theorem dX1_slotOf_3 : decode cX1_slotOf 3 = .ok (.iand, 1) := by decide +kernel
theorem dX1_slotOf_4 : decode cX1_slotOf 4 = .ok (.ireturn, 1) := by decide +kernel
theorem dX2_init_0 : decode cX2_init 0 = .ok (.aload_n 0, 1) := by decide +kernel
theorem dX2_init_1 : decode cX2_init 1 = .ok (.invokespecial 3, 3) := by decide +kernel
theorem dX2_init_4 : decode cX2_init 4 = .ok (.aload_n 0, 1) := by decide +kernel
theorem dX2_init_5 : decode cX2_init 5 = .ok (.bipush 60, 2) := by decide +kernel
theorem dX2_init_7 : decode cX2_init 7 = .ok (.newarray .char, 2) := by decide +kernel
theorem dX2_init_9 : decode cX2_init 9 = .ok (.putfield 9, 3) := by decide +kernel
theorem dX2_init_12 : decode cX2_init 12 = .ok (.return_, 1) := by decide +kernel
theorem dX2_addSign_0 : decode cX2_addSign 0 = .ok (.aload_n 0, 1) := by decide +kernel
theorem dX2_addSign_1 : decode cX2_addSign 1 = .ok (.getfield 15, 3) := by decide +kernel
theorem dX2_addSign_4 : decode cX2_addSign 4 = .ok (.aload_n 0, 1) := by decide +kernel
theorem dX2_addSign_5 : decode cX2_addSign 5 = .ok (.getfield 9, 3) := by decide +kernel
theorem dX2_addSign_8 : decode cX2_addSign 8 = .ok (.arraylength, 1) := by decide +kernel
theorem dX2_addSign_9 : decode cX2_addSign 9 = .ok (.if_icmp .ge 24, 3) := by decide +kernel
theorem dX2_addSign_12 : decode cX2_addSign 12 = .ok (.aload_n 0, 1) := by decide +kernel
theorem dX2_addSign_13 : decode cX2_addSign 13 = .ok (.getfield 9, 3) := by decide +kernel
theorem dX2_addSign_16 : decode cX2_addSign 16 = .ok (.aload_n 0, 1) := by decide +kernel
theorem dX2_addSign_17 : decode cX2_addSign 17 = .ok (.getfield 15, 3) := by decide +kernel
theorem dX2_addSign_20 : decode cX2_addSign 20 = .ok (.iload_n 1, 1) := by decide +kernel
theorem dX2_addSign_21 : decode cX2_addSign 21 = .ok (.i2c, 1) := by decide +kernel
theorem dX2_addSign_22 : decode cX2_addSign 22 = .ok (.castore, 1) := by decide +kernel
theorem dX2_addSign_23 : decode cX2_addSign 23 = .ok (.aload_n 0, 1) := by decide +kernel
theorem dX2_addSign_24 : decode cX2_addSign 24 = .ok (.dup, 1) := by decide +kernel
theorem dX2_addSign_25 : decode cX2_addSign 25 = .ok (.getfield 15, 3) := by decide +kernel
theorem dX2_addSign_28 : decode cX2_addSign 28 = .ok (.iconst 1, 1) := by decide +kernel
theorem dX2_addSign_29 : decode cX2_addSign 29 = .ok (.iadd, 1) := by decide +kernel
theorem dX2_addSign_30 : decode cX2_addSign 30 = .ok (.putfield 15, 3) := by decide +kernel
theorem dX2_addSign_33 : decode cX2_addSign 33 = .ok (.return_, 1) := by decide +kernel
theorem dX2_hashOfSigns_0 : decode cX2_hashOfSigns 0 = .ok (.lload_n 1, 1) := by decide +kernel
theorem dX2_hashOfSigns_1 : decode cX2_hashOfSigns 1 = .ok (.lstore_n 3, 1) := by decide +kernel
theorem dX2_hashOfSigns_2 : decode cX2_hashOfSigns 2 = .ok (.iconst 0, 1) := by decide +kernel
theorem dX2_hashOfSigns_3 : decode cX2_hashOfSigns 3 = .ok (.istore 5, 2) := by decide +kernel
theorem dX2_hashOfSigns_5 : decode cX2_hashOfSigns 5 = .ok (.iload 5, 2) := by decide +kernel
theorem dX2_hashOfSigns_7 : decode cX2_hashOfSigns 7 = .ok (.aload_n 0, 1) := by decide +kernel
theorem dX2_hashOfSigns_8 : decode cX2_hashOfSigns 8 = .ok (.getfield 15, 3) := by decide +kernel
theorem dX2_hashOfSigns_11 : decode cX2_hashOfSigns 11 = .ok (.if_icmp .ge 32, 3) := by decide +kernel
theorem dX2_hashOfSigns_14 : decode cX2_hashOfSigns 14 = .ok (.iload 5, 2) := by decide +kernel
theorem dX2_hashOfSigns_16 : decode cX2_hashOfSigns 16 = .ok (.aload_n 0, 1) := by decide +kernel
theorem dX2_hashOfSigns_17 : decode cX2_hashOfSigns 17 = .ok (.getfield 9, 3) := by decide +kernel
theorem dX2_hashOfSigns_20 : decode cX2_hashOfSigns 20 = .ok (.arraylength, 1) := by decide +kernel
theorem dX2_hashOfSigns_21 : decode cX2_hashOfSigns 21 = .ok (.if_icmp .ge 22, 3) := by decide +kernel
theorem dX2_hashOfSigns_24 : decode cX2_hashOfSigns 24 = .ok (.lload_n 3, 1) := by decide +kernel
theorem dX2_hashOfSigns_25 : decode cX2_hashOfSigns 25 = .ok (.aload_n 0, 1) := by decide +kernel
theorem dX2_hashOfSigns_26 : decode cX2_hashOfSigns 26 = .ok (.getfield 9, 3) := by decide +kernel
theorem dX2_hashOfSigns_29 : decode cX2_hashOfSigns 29 = .ok (.iload 5, 2) := by decide +kernel
theorem dX2_hashOfSigns_31 : decode cX2_hashOfSigns 31 = .ok (.caload, 1) := by decide +kernel
theorem dX2_hashOfSigns_32 : decode cX2_hashOfSigns 32 = .ok (.i2l, 1) := by decide +kernel
theorem dX2_hashOfSigns_33 : decode cX2_hashOfSigns 33 = .ok (.invokestatic 19, 3) := by decide +kernel
theorem dX2_hashOfSigns_36 : decode cX2_hashOfSigns 36 = .ok (.lstore_n 3, 1) := by decide +kernel
theorem dX2_hashOfSigns_37 : decode cX2_hashOfSigns 37 = .ok (.iinc 5 1, 3) := by decide +kernel
theorem dX2_hashOfSigns_40 : decode cX2_hashOfSigns 40 = .ok (.goto (-35), 3) := by decide +kernel
theorem dX2_hashOfSigns_43 : decode cX2_hashOfSigns 43 = .ok (.lload_n 3, 1) := by decide +kernel
theorem dX2_hashOfSigns_44 : decode cX2_hashOfSigns 44 = .ok (.lreturn, 1) := by decide +kernel
theorem dX2_readWhole_0 : decode cX2_readWhole 0 = .ok (.aload_n 0, 1) := by decide +kernel
theorem dX2_readWhole_1 : decode cX2_readWhole 1 = .ok (.iconst 0, 1) := by decide +kernel
theorem dX2_readWhole_2 : decode cX2_readWhole 2 = .ok (.putfield 23, 3) := by decide +kernel
theorem dX2_readWhole_5 : decode cX2_readWhole 5 = .ok (.iconst 0, 1) := by decide +kernel
theorem dX2_readWhole_6 : decode cX2_readWhole 6 = .ok (.istore_n 1, 1) := by decide +kernel
theorem dX2_readWhole_7 : decode cX2_readWhole 7 = .ok (.iload_n 1, 1) := by decide +kernel
theorem dX2_readWhole_8 : decode cX2_readWhole 8 = .ok (.bipush 60, 2) := by decide +kernel
theorem dX2_readWhole_10 : decode cX2_readWhole 10 = .ok (.if_icmp .ge 42, 3) := by decide +kernel
theorem dX2_readWhole_13 : decode cX2_readWhole 13 = .ok (.aload_n 0, 1) := by decide +kernel
theorem dX2_readWhole_14 : decode cX2_readWhole 14 = .ok (.invokevirtual 26, 3) := by decide +kernel
theorem dX2_readWhole_17 : decode cX2_readWhole 17 = .ok (.ifCond .ne 5, 3) := by decide +kernel
theorem dX2_readWhole_20 : decode cX2_readWhole 20 = .ok (.iconst 0, 1) := by decide +kernel
theorem dX2_readWhole_21 : decode cX2_readWhole 21 = .ok (.ireturn, 1) := by decide +kernel
theorem dX2_readWhole_22 : decode cX2_readWhole 22 = .ok (.aload_n 0, 1) := by decide +kernel
theorem dX2_readWhole_23 : decode cX2_readWhole 23 = .ok (.getfield 23, 3) := by decide +kernel
theorem dX2_readWhole_26 : decode cX2_readWhole 26 = .ok (.aload_n 0, 1) := by decide +kernel
theorem dX2_readWhole_27 : decode cX2_readWhole 27 = .ok (.getfield 15, 3) := by decide +kernel
theorem dX2_readWhole_30 : decode cX2_readWhole 30 = .ok (.if_icmp .lt 5, 3) := by decide +kernel
theorem dX2_readWhole_33 : decode cX2_readWhole 33 = .ok (.iconst 1, 1) := by decide +kernel
theorem dX2_readWhole_34 : decode cX2_readWhole 34 = .ok (.ireturn, 1) := by decide +kernel
theorem dX2_readWhole_35 : decode cX2_readWhole 35 = .ok (.aload_n 0, 1) := by decide +kernel
theorem dX2_readWhole_36 : decode cX2_readWhole 36 = .ok (.bipush 59, 2) := by decide +kernel
theorem dX2_readWhole_38 : decode cX2_readWhole 38 = .ok (.invokevirtual 30, 3) := by decide +kernel
theorem dX2_readWhole_41 : decode cX2_readWhole 41 = .ok (.ifCond .ne 5, 3) := by decide +kernel
theorem dX2_readWhole_44 : decode cX2_readWhole 44 = .ok (.iconst 0, 1) := by decide +kernel
theorem dX2_readWhole_45 : decode cX2_readWhole 45 = .ok (.ireturn, 1) := by decide +kernel
theorem dX2_readWhole_46 : decode cX2_readWhole 46 = .ok (.iinc 1 1, 3) := by decide +kernel
theorem dX2_readWhole_49 : decode cX2_readWhole 49 = .ok (.goto (-42), 3) := by decide +kernel
theorem dX2_readWhole_52 : decode cX2_readWhole 52 = .ok (.iconst 0, 1) := by decide +kernel
theorem dX2_readWhole_53 : decode cX2_readWhole 53 = .ok (.ireturn, 1) := by decide +kernel
theorem dX2_readNextPart_0 : decode cX2_readNextPart 0 = .ok (.aload_n 0, 1) := by decide +kernel
theorem dX2_readNextPart_1 : decode cX2_readNextPart 1 = .ok (.getfield 23, 3) := by decide +kernel
theorem dX2_readNextPart_4 : decode cX2_readNextPart 4 = .ok (.ifCond .le 14, 3) := by decide +kernel
theorem dX2_readNextPart_7 : decode cX2_readNextPart 7 = .ok (.aload_n 0, 1) := by decide +kernel
theorem dX2_readNextPart_8 : decode cX2_readNextPart 8 = .ok (.bipush 59, 2) := by decide +kernel
theorem dX2_readNextPart_10 : decode cX2_readNextPart 10 = .ok (.invokevirtual 30, 3) := by decide +kernel
theorem dX2_readNextPart_13 : decode cX2_readNextPart 13 = .ok (.ifCond .ne 5, 3) := by decide +kernel
theorem dX2_readNextPart_16 : decode cX2_readNextPart 16 = .ok (.iconst 0, 1) := by decide +kernel
theorem dX2_readNextPart_17 : decode cX2_readNextPart 17 = .ok (.ireturn, 1) := by decide +kernel
theorem dX2_readNextPart_18 : decode cX2_readNextPart 18 = .ok (.aload_n 0, 1) := by decide +kernel
theorem dX2_readNextPart_19 : decode cX2_readNextPart 19 = .ok (.invokevirtual 26, 3) := by decide +kernel
theorem dX2_readNextPart_22 : decode cX2_readNextPart 22 = .ok (.ireturn, 1) := by decide +kernel
theorem dX2_readPart_0 : decode cX2_readPart 0 = .ok (.aload_n 0, 1) := by decide +kernel
theorem dX2_readPart_1 : decode cX2_readPart 1 = .ok (.getfield 23, 3) := by decide +kernel
theorem dX2_readPart_4 : decode cX2_readPart 4 = .ok (.aload_n 0, 1) := by decide +kernel
theorem dX2_readPart_5 : decode cX2_readPart 5 = .ok (.getfield 15, 3) := by decide +kernel
theorem dX2_readPart_8 : decode cX2_readPart 8 = .ok (.if_icmp .ge 15, 3) := by decide +kernel
theorem dX2_readPart_11 : decode cX2_readPart 11 = .ok (.aload_n 0, 1) := by decide +kernel
theorem dX2_readPart_12 : decode cX2_readPart 12 = .ok (.getfield 23, 3) := by decide +kernel
theorem dX2_readPart_15 : decode cX2_readPart 15 = .ok (.aload_n 0, 1) := by decide +kernel
theorem dX2_readPart_16 : decode cX2_readPart 16 = .ok (.getfield 9, 3) := by decide +kernel
theorem dX2_readPart_19 : decode cX2_readPart 19 = .ok (.arraylength, 1) := by decide +kernel
theorem dX2_readPart_20 : decode cX2_readPart 20 = .ok (.if_icmp .lt 5, 3) := by decide +kernel
theorem dX2_readPart_23 : decode cX2_readPart 23 = .ok (.iconst 0, 1) := by decide +kernel
theorem dX2_readPart_24 : decode cX2_readPart 24 = .ok (.ireturn, 1) := by decide +kernel
theorem dX2_readPart_25 : decode cX2_readPart 25 = .ok (.aload_n 0, 1) := by decide +kernel
theorem dX2_readPart_26 : decode cX2_readPart 26 = .ok (.aload_n 0, 1) := by decide +kernel
theorem dX2_readPart_27 : decode cX2_readPart 27 = .ok (.getfield 9, 3) := by decide +kernel
theorem dX2_readPart_30 : decode cX2_readPart 30 = .ok (.aload_n 0, 1) := by decide +kernel
theorem dX2_readPart_31 : decode cX2_readPart 31 = .ok (.getfield 23, 3) := by decide +kernel
theorem dX2_readPart_34 : decode cX2_readPart 34 = .ok (.caload, 1) := by decide +kernel
theorem dX2_readPart_35 : decode cX2_readPart 35 = .ok (.putfield 34, 3) := by decide +kernel
theorem dX2_readPart_38 : decode cX2_readPart 38 = .ok (.aload_n 0, 1) := by decide +kernel
theorem dX2_readPart_39 : decode cX2_readPart 39 = .ok (.getfield 34, 3) := by decide +kernel
theorem dX2_readPart_42 : decode cX2_readPart 42 = .ok (.tableswitch 262 103 122 #[176, 262, 94, 262, 262, 262, 262, 262, 262, 262, 262, 245, 262, 227, 134, 262, 245, 209, 262, 245], 94) := by decide +kernel
theorem dX2_readPart_136 : decode cX2_readPart 136 = .ok (.aload_n 0, 1) := by decide +kernel
theorem dX2_readPart_137 : decode cX2_readPart 137 = .ok (.dup, 1) := by decide +kernel
theorem dX2_readPart_138 : decode cX2_readPart 138 = .ok (.getfield 23, 3) := by decide +kernel
theorem dX2_readPart_141 : decode cX2_readPart 141 = .ok (.iconst 1, 1) := by decide +kernel
theorem dX2_readPart_142 : decode cX2_readPart 142 = .ok (.iadd, 1) := by decide +kernel
theorem dX2_readPart_143 : decode cX2_readPart 143 = .ok (.putfield 23, 3) := by decide +kernel
theorem dX2_readPart_146 : decode cX2_readPart 146 = .ok (.aload_n 0, 1) := by decide +kernel
theorem dX2_readPart_147 : decode cX2_readPart 147 = .ok (.iconst 0, 1) := by decide +kernel
theorem dX2_readPart_148 : decode cX2_readPart 148 = .ok (.bipush 15, 2) := by decide +kernel
theorem dX2_readPart_150 : decode cX2_readPart 150 = .ok (.invokevirtual 37, 3) := by decide +kernel
theorem dX2_readPart_153 : decode cX2_readPart 153 = .ok (.ifCond .eq 21, 3) := by decide +kernel
theorem dX2_readPart_156 : decode cX2_readPart 156 = .ok (.aload_n 0, 1) := by decide +kernel
theorem dX2_readPart_157 : decode cX2_readPart 157 = .ok (.invokevirtual 41, 3) := by decide +kernel
theorem dX2_readPart_160 : decode cX2_readPart 160 = .ok (.ifCond .eq 14, 3) := by decide +kernel
theorem dX2_readPart_163 : decode cX2_readPart 163 = .ok (.aload_n 0, 1) := by decide +kernel
theorem dX2_readPart_164 : decode cX2_readPart 164 = .ok (.invokevirtual 44, 3) := by decide +kernel
theorem dX2_readPart_167 : decode cX2_readPart 167 = .ok (.ifCond .eq 7, 3) := by decide +kernel
theorem dX2_readPart_170 : decode cX2_readPart 170 = .ok (.iconst 1, 1) := by decide +kernel
theorem dX2_readPart_171 : decode cX2_readPart 171 = .ok (.goto 4, 3) := by decide +kernel
theorem dX2_readPart_174 : decode cX2_readPart 174 = .ok (.iconst 0, 1) := by decide +kernel
theorem dX2_readPart_175 : decode cX2_readPart 175 = .ok (.ireturn, 1) := by decide +kernel
theorem dX2_readPart_176 : decode cX2_readPart 176 = .ok (.aload_n 0, 1) := by decide +kernel
theorem dX2_readPart_177 : decode cX2_readPart 177 = .ok (.dup, 1) := by decide +kernel
theorem dX2_readPart_178 : decode cX2_readPart 178 = .ok (.getfield 23, 3) := by decide +kernel
theorem dX2_readPart_181 : decode cX2_readPart 181 = .ok (.iconst 1, 1) := by decide +kernel
theorem dX2_readPart_182 : decode cX2_readPart 182 = .ok (.iadd, 1) := by decide +kernel
theorem dX2_readPart_183 : decode cX2_readPart 183 = .ok (.putfield 23, 3) := by decide +kernel
theorem dX2_readPart_186 : decode cX2_readPart 186 = .ok (.aload_n 0, 1) := by decide +kernel
theorem dX2_readPart_187 : decode cX2_readPart 187 = .ok (.iconst 0, 1) := by decide +kernel
theorem dX2_readPart_188 : decode cX2_readPart 188 = .ok (.bipush 15, 2) := by decide +kernel
theorem dX2_readPart_190 : decode cX2_readPart 190 = .ok (.invokevirtual 37, 3) := by decide +kernel
theorem dX2_readPart_193 : decode cX2_readPart 193 = .ok (.ifCond .eq 23, 3) := by decide +kernel
theorem dX2_readPart_196 : decode cX2_readPart 196 = .ok (.aload_n 0, 1) := by decide +kernel
theorem dX2_readPart_197 : decode cX2_readPart 197 = .ok (.bipush 61, 2) := by decide +kernel
theorem dX2_readPart_199 : decode cX2_readPart 199 = .ok (.invokevirtual 30, 3) := by decide +kernel
theorem dX2_readPart_202 : decode cX2_readPart 202 = .ok (.ifCond .eq 14, 3) := by decide +kernel
theorem dX2_readPart_205 : decode cX2_readPart 205 = .ok (.aload_n 0, 1) := by decide +kernel
theorem dX2_readPart_206 : decode cX2_readPart 206 = .ok (.invokevirtual 44, 3) := by decide +kernel
theorem dX2_readPart_209 : decode cX2_readPart 209 = .ok (.ifCond .eq 7, 3) := by decide +kernel
theorem dX2_readPart_212 : decode cX2_readPart 212 = .ok (.iconst 1, 1) := by decide +kernel
theorem dX2_readPart_213 : decode cX2_readPart 213 = .ok (.goto 4, 3) := by decide +kernel
theorem dX2_readPart_216 : decode cX2_readPart 216 = .ok (.iconst 0, 1) := by decide +kernel
theorem dX2_readPart_217 : decode cX2_readPart 217 = .ok (.ireturn, 1) := by decide +kernel
theorem dX2_readPart_218 : decode cX2_readPart 218 = .ok (.aload_n 0, 1) := by decide +kernel
theorem dX2_readPart_219 : decode cX2_readPart 219 = .ok (.dup, 1) := by decide +kernel
theorem dX2_readPart_220 : decode cX2_readPart 220 = .ok (.getfield 23, 3) := by decide +kernel
theorem dX2_readPart_223 : decode cX2_readPart 223 = .ok (.iconst 1, 1) := by decide +kernel
theorem dX2_readPart_224 : decode cX2_readPart 224 = .ok (.iadd, 1) := by decide +kernel
theorem dX2_readPart_225 : decode cX2_readPart 225 = .ok (.putfield 23, 3) := by decide +kernel
theorem dX2_readPart_228 : decode cX2_readPart 228 = .ok (.aload_n 0, 1) := by decide +kernel
theorem dX2_readPart_229 : decode cX2_readPart 229 = .ok (.iconst 0, 1) := by decide +kernel
theorem dX2_readPart_230 : decode cX2_readPart 230 = .ok (.bipush 15, 2) := by decide +kernel
theorem dX2_readPart_232 : decode cX2_readPart 232 = .ok (.invokevirtual 37, 3) := by decide +kernel
theorem dX2_readPart_235 : decode cX2_readPart 235 = .ok (.ifCond .eq 14, 3) := by decide +kernel
theorem dX2_readPart_238 : decode cX2_readPart 238 = .ok (.aload_n 0, 1) := by decide +kernel
theorem dX2_readPart_239 : decode cX2_readPart 239 = .ok (.invokevirtual 41, 3) := by decide +kernel
theorem dX2_readPart_242 : decode cX2_readPart 242 = .ok (.ifCond .eq 7, 3) := by decide +kernel
theorem dX2_readPart_245 : decode cX2_readPart 245 = .ok (.iconst 1, 1) := by decide +kernel
theorem dX2_readPart_246 : decode cX2_readPart 246 = .ok (.goto 4, 3) := by decide +kernel
theorem dX2_readPart_249 : decode cX2_readPart 249 = .ok (.iconst 0, 1) := by decide +kernel
theorem dX2_readPart_250 : decode cX2_readPart 250 = .ok (.ireturn, 1) := by decide +kernel
theorem dX2_readPart_251 : decode cX2_readPart 251 = .ok (.aload_n 0, 1) := by decide +kernel
theorem dX2_readPart_252 : decode cX2_readPart 252 = .ok (.dup, 1) := by decide +kernel
theorem dX2_readPart_253 : decode cX2_readPart 253 = .ok (.getfield 23, 3) := by decide +kernel
theorem dX2_readPart_256 : decode cX2_readPart 256 = .ok (.iconst 1, 1) := by decide +kernel
theorem dX2_readPart_257 : decode cX2_readPart 257 = .ok (.iadd, 1) := by decide +kernel
theorem dX2_readPart_258 : decode cX2_readPart 258 = .ok (.putfield 23, 3) := by decide +kernel
theorem dX2_readPart_261 : decode cX2_readPart 261 = .ok (.aload_n 0, 1) := by decide +kernel
theorem dX2_readPart_262 : decode cX2_readPart 262 = .ok (.iconst 0, 1) := by decide +kernel
theorem dX2_readPart_263 : decode cX2_readPart 263 = .ok (.bipush 15, 2) := by decide +kernel
theorem dX2_readPart_265 : decode cX2_readPart 265 = .ok (.invokevirtual 37, 3) := by decide +kernel
theorem dX2_readPart_268 : decode cX2_readPart 268 = .ok (.ireturn, 1) := by decide +kernel
theorem dX2_readPart_269 : decode cX2_readPart 269 = .ok (.aload_n 0, 1) := by decide +kernel
theorem dX2_readPart_270 : decode cX2_readPart 270 = .ok (.dup, 1) := by decide +kernel
theorem dX2_readPart_271 : decode cX2_readPart 271 = .ok (.getfield 23, 3) := by decide +kernel
theorem dX2_readPart_274 : decode cX2_readPart 274 = .ok (.iconst 1, 1) := by decide +kernel
theorem dX2_readPart_275 : decode cX2_readPart 275 = .ok (.iadd, 1) := by decide +kernel
theorem dX2_readPart_276 : decode cX2_readPart 276 = .ok (.putfield 23, 3) := by decide +kernel
theorem dX2_readPart_279 : decode cX2_readPart 279 = .ok (.aload_n 0, 1) := by decide +kernel
theorem dX2_readPart_280 : decode cX2_readPart 280 = .ok (.iconst 1, 1) := by decide +kernel
theorem dX2_readPart_281 : decode cX2_readPart 281 = .ok (.bipush 30, 2) := by decide +kernel
theorem dX2_readPart_283 : decode cX2_readPart 283 = .ok (.invokevirtual 37, 3) := by decide +kernel
theorem dX2_readPart_286 : decode cX2_readPart 286 = .ok (.ireturn, 1) := by decide +kernel
theorem dX2_readPart_287 : decode cX2_readPart 287 = .ok (.aload_n 0, 1) := by decide +kernel
theorem dX2_readPart_288 : decode cX2_readPart 288 = .ok (.dup, 1) := by decide +kernel
theorem dX2_readPart_289 : decode cX2_readPart 289 = .ok (.getfield 23, 3) := by decide +kernel
theorem dX2_readPart_292 : decode cX2_readPart 292 = .ok (.iconst 1, 1) := by decide +kernel
theorem dX2_readPart_293 : decode cX2_readPart 293 = .ok (.iadd, 1) := by decide +kernel
theorem dX2_readPart_294 : decode cX2_readPart 294 = .ok (.putfield 23, 3) := by decide +kernel
theorem dX2_readPart_297 : decode cX2_readPart 297 = .ok (.aload_n 0, 1) := by decide +kernel
theorem dX2_readPart_298 : decode cX2_readPart 298 = .ok (.iconst 0, 1) := by decide +kernel
theorem dX2_readPart_299 : decode cX2_readPart 299 = .ok (.iconst 2, 1) := by decide +kernel
theorem dX2_readPart_300 : decode cX2_readPart 300 = .ok (.invokevirtual 37, 3) := by decide +kernel
theorem dX2_readPart_303 : decode cX2_readPart 303 = .ok (.ireturn, 1) := by decide +kernel
theorem dX2_readPart_304 : decode cX2_readPart 304 = .ok (.iconst 0, 1) := by decide +kernel
theorem dX2_readPart_305 : decode cX2_readPart 305 = .ok (.ireturn, 1) := by decide +kernel
theorem dX2_readSign_0 : decode cX2_readSign 0 = .ok (.aload_n 0, 1) := by decide +kernel
theorem dX2_readSign_1 : decode cX2_readSign 1 = .ok (.getfield 23, 3) := by decide +kernel
theorem dX2_readSign_4 : decode cX2_readSign 4 = .ok (.aload_n 0, 1) := by decide +kernel
theorem dX2_readSign_5 : decode cX2_readSign 5 = .ok (.getfield 15, 3) := by decide +kernel
theorem dX2_readSign_8 : decode cX2_readSign 8 = .ok (.if_icmp .ge 28, 3) := by decide +kernel
theorem dX2_readSign_11 : decode cX2_readSign 11 = .ok (.aload_n 0, 1) := by decide +kernel
theorem dX2_readSign_12 : decode cX2_readSign 12 = .ok (.getfield 23, 3) := by decide +kernel
theorem dX2_readSign_15 : decode cX2_readSign 15 = .ok (.aload_n 0, 1) := by decide +kernel
theorem dX2_readSign_16 : decode cX2_readSign 16 = .ok (.getfield 9, 3) := by decide +kernel
theorem dX2_readSign_19 : decode cX2_readSign 19 = .ok (.arraylength, 1) := by decide +kernel
theorem dX2_readSign_20 : decode cX2_readSign 20 = .ok (.if_icmp .ge 16, 3) := by decide +kernel
theorem dX2_readSign_23 : decode cX2_readSign 23 = .ok (.aload_n 0, 1) := by decide +kernel
theorem dX2_readSign_24 : decode cX2_readSign 24 = .ok (.getfield 9, 3) := by decide +kernel
theorem dX2_readSign_27 : decode cX2_readSign 27 = .ok (.aload_n 0, 1) := by decide +kernel
theorem dX2_readSign_28 : decode cX2_readSign 28 = .ok (.getfield 23, 3) := by decide +kernel
theorem dX2_readSign_31 : decode cX2_readSign 31 = .ok (.caload, 1) := by decide +kernel
theorem dX2_readSign_32 : decode cX2_readSign 32 = .ok (.iload_n 1, 1) := by decide +kernel
theorem dX2_readSign_33 : decode cX2_readSign 33 = .ok (.if_icmp .eq 5, 3) := by decide +kernel
theorem dX2_readSign_36 : decode cX2_readSign 36 = .ok (.iconst 0, 1) := by decide +kernel
theorem dX2_readSign_37 : decode cX2_readSign 37 = .ok (.ireturn, 1) := by decide +kernel
theorem dX2_readSign_38 : decode cX2_readSign 38 = .ok (.aload_n 0, 1) := by decide +kernel
theorem dX2_readSign_39 : decode cX2_readSign 39 = .ok (.dup, 1) := by decide +kernel
theorem dX2_readSign_40 : decode cX2_readSign 40 = .ok (.getfield 23, 3) := by decide +kernel
theorem dX2_readSign_43 : decode cX2_readSign 43 = .ok (.iconst 1, 1) := by decide +kernel
theorem dX2_readSign_44 : decode cX2_readSign 44 = .ok (.iadd, 1) := by decide +kernel
theorem dX2_readSign_45 : decode cX2_readSign 45 = .ok (.putfield 23, 3) := by decide +kernel
theorem dX2_readSign_48 : decode cX2_readSign 48 = .ok (.iconst 1, 1) := by decide +kernel
theorem dX2_readSign_49 : decode cX2_readSign 49 = .ok (.ireturn, 1) := by decide +kernel
theorem dX2_readGroup_0 : decode cX2_readGroup 0 = .ok (.aload_n 0, 1) := by decide +kernel
theorem dX2_readGroup_1 : decode cX2_readGroup 1 = .ok (.getfield 23, 3) := by decide +kernel
theorem dX2_readGroup_4 : decode cX2_readGroup 4 = .ok (.aload_n 0, 1) := by decide +kernel
theorem dX2_readGroup_5 : decode cX2_readGroup 5 = .ok (.getfield 15, 3) := by decide +kernel
theorem dX2_readGroup_8 : decode cX2_readGroup 8 = .ok (.if_icmp .ge 43, 3) := by decide +kernel
theorem dX2_readGroup_11 : decode cX2_readGroup 11 = .ok (.aload_n 0, 1) := by decide +kernel
theorem dX2_readGroup_12 : decode cX2_readGroup 12 = .ok (.getfield 23, 3) := by decide +kernel
theorem dX2_readGroup_15 : decode cX2_readGroup 15 = .ok (.aload_n 0, 1) := by decide +kernel
theorem dX2_readGroup_16 : decode cX2_readGroup 16 = .ok (.getfield 9, 3) := by decide +kernel
theorem dX2_readGroup_19 : decode cX2_readGroup 19 = .ok (.arraylength, 1) := by decide +kernel
theorem dX2_readGroup_20 : decode cX2_readGroup 20 = .ok (.if_icmp .ge 31, 3) := by decide +kernel
theorem dX2_readGroup_23 : decode cX2_readGroup 23 = .ok (.aload_n 0, 1) := by decide +kernel
theorem dX2_readGroup_24 : decode cX2_readGroup 24 = .ok (.getfield 9, 3) := by decide +kernel
theorem dX2_readGroup_27 : decode cX2_readGroup 27 = .ok (.aload_n 0, 1) := by decide +kernel
theorem dX2_readGroup_28 : decode cX2_readGroup 28 = .ok (.getfield 23, 3) := by decide +kernel
theorem dX2_readGroup_31 : decode cX2_readGroup 31 = .ok (.caload, 1) := by decide +kernel
theorem dX2_readGroup_32 : decode cX2_readGroup 32 = .ok (.bipush 97, 2) := by decide +kernel
theorem dX2_readGroup_34 : decode cX2_readGroup 34 = .ok (.if_icmp .lt 17, 3) := by decide +kernel
theorem dX2_readGroup_37 : decode cX2_readGroup 37 = .ok (.aload_n 0, 1) := by decide +kernel
theorem dX2_readGroup_38 : decode cX2_readGroup 38 = .ok (.getfield 9, 3) := by decide +kernel
theorem dX2_readGroup_41 : decode cX2_readGroup 41 = .ok (.aload_n 0, 1) := by decide +kernel
theorem dX2_readGroup_42 : decode cX2_readGroup 42 = .ok (.getfield 23, 3) := by decide +kernel
theorem dX2_readGroup_45 : decode cX2_readGroup 45 = .ok (.caload, 1) := by decide +kernel
theorem dX2_readGroup_46 : decode cX2_readGroup 46 = .ok (.bipush 100, 2) := by decide +kernel
theorem dX2_readGroup_48 : decode cX2_readGroup 48 = .ok (.if_icmp .le 5, 3) := by decide +kernel
theorem dX2_readGroup_51 : decode cX2_readGroup 51 = .ok (.iconst 0, 1) := by decide +kernel
theorem dX2_readGroup_52 : decode cX2_readGroup 52 = .ok (.ireturn, 1) := by decide +kernel
theorem dX2_readGroup_53 : decode cX2_readGroup 53 = .ok (.aload_n 0, 1) := by decide +kernel
theorem dX2_readGroup_54 : decode cX2_readGroup 54 = .ok (.aload_n 0, 1) := by decide +kernel
theorem dX2_readGroup_55 : decode cX2_readGroup 55 = .ok (.getfield 9, 3) := by decide +kernel
theorem dX2_readGroup_58 : decode cX2_readGroup 58 = .ok (.aload_n 0, 1) := by decide +kernel
theorem dX2_readGroup_59 : decode cX2_readGroup 59 = .ok (.getfield 23, 3) := by decide +kernel
theorem dX2_readGroup_62 : decode cX2_readGroup 62 = .ok (.caload, 1) := by decide +kernel
theorem dX2_readGroup_63 : decode cX2_readGroup 63 = .ok (.bipush 97, 2) := by decide +kernel
theorem dX2_readGroup_65 : decode cX2_readGroup 65 = .ok (.isub, 1) := by decide +kernel
theorem dX2_readGroup_66 : decode cX2_readGroup 66 = .ok (.putfield 47, 3) := by decide +kernel
theorem dX2_readGroup_69 : decode cX2_readGroup 69 = .ok (.aload_n 0, 1) := by decide +kernel
theorem dX2_readGroup_70 : decode cX2_readGroup 70 = .ok (.dup, 1) := by decide +kernel
theorem dX2_readGroup_71 : decode cX2_readGroup 71 = .ok (.getfield 23, 3) := by decide +kernel
theorem dX2_readGroup_74 : decode cX2_readGroup 74 = .ok (.iconst 1, 1) := by decide +kernel
theorem dX2_readGroup_75 : decode cX2_readGroup 75 = .ok (.iadd, 1) := by decide +kernel
theorem dX2_readGroup_76 : decode cX2_readGroup 76 = .ok (.putfield 23, 3) := by decide +kernel
theorem dX2_readGroup_79 : decode cX2_readGroup 79 = .ok (.iconst 1, 1) := by decide +kernel
theorem dX2_readGroup_80 : decode cX2_readGroup 80 = .ok (.ireturn, 1) := by decide +kernel
theorem dX2_readAmount_0 : decode cX2_readAmount 0 = .ok (.aload_n 0, 1) := by decide +kernel
theorem dX2_readAmount_1 : decode cX2_readAmount 1 = .ok (.getfield 50, 3) := by decide +kernel
theorem dX2_readAmount_4 : decode cX2_readAmount 4 = .ok (.istore_n 1, 1) := by decide +kernel
theorem dX2_readAmount_5 : decode cX2_readAmount 5 = .ok (.aload_n 0, 1) := by decide +kernel
theorem dX2_readAmount_6 : decode cX2_readAmount 6 = .ok (.bipush 45, 2) := by decide +kernel
theorem dX2_readAmount_8 : decode cX2_readAmount 8 = .ok (.invokevirtual 30, 3) := by decide +kernel
theorem dX2_readAmount_11 : decode cX2_readAmount 11 = .ok (.istore_n 2, 1) := by decide +kernel
theorem dX2_readAmount_12 : decode cX2_readAmount 12 = .ok (.aload_n 0, 1) := by decide +kernel
theorem dX2_readAmount_13 : decode cX2_readAmount 13 = .ok (.iload_n 2, 1) := by decide +kernel
theorem dX2_readAmount_14 : decode cX2_readAmount 14 = .ok (.ifCond .eq 7, 3) := by decide +kernel
theorem dX2_readAmount_17 : decode cX2_readAmount 17 = .ok (.iconst 1, 1) := by decide +kernel
theorem dX2_readAmount_18 : decode cX2_readAmount 18 = .ok (.goto 4, 3) := by decide +kernel
theorem dX2_readAmount_21 : decode cX2_readAmount 21 = .ok (.iconst 0, 1) := by decide +kernel
theorem dX2_readAmount_22 : decode cX2_readAmount 22 = .ok (.bipush 99, 2) := by decide +kernel
theorem dX2_readAmount_24 : decode cX2_readAmount 24 = .ok (.invokevirtual 37, 3) := by decide +kernel
theorem dX2_readAmount_27 : decode cX2_readAmount 27 = .ok (.istore_n 3, 1) := by decide +kernel
theorem dX2_readAmount_28 : decode cX2_readAmount 28 = .ok (.aload_n 0, 1) := by decide +kernel
theorem dX2_readAmount_29 : decode cX2_readAmount 29 = .ok (.iload_n 2, 1) := by decide +kernel
theorem dX2_readAmount_30 : decode cX2_readAmount 30 = .ok (.ifCond .eq 11, 3) := by decide +kernel
theorem dX2_readAmount_33 : decode cX2_readAmount 33 = .ok (.aload_n 0, 1) := by decide +kernel
theorem dX2_readAmount_34 : decode cX2_readAmount 34 = .ok (.getfield 50, 3) := by decide +kernel
theorem dX2_readAmount_37 : decode cX2_readAmount 37 = .ok (.ineg, 1) := by decide +kernel
theorem dX2_readAmount_38 : decode cX2_readAmount 38 = .ok (.goto 7, 3) := by decide +kernel
theorem dX2_readAmount_41 : decode cX2_readAmount 41 = .ok (.aload_n 0, 1) := by decide +kernel
theorem dX2_readAmount_42 : decode cX2_readAmount 42 = .ok (.getfield 50, 3) := by decide +kernel
theorem dX2_readAmount_45 : decode cX2_readAmount 45 = .ok (.putfield 53, 3) := by decide +kernel
theorem dX2_readAmount_48 : decode cX2_readAmount 48 = .ok (.aload_n 0, 1) := by decide +kernel
theorem dX2_readAmount_49 : decode cX2_readAmount 49 = .ok (.iload_n 1, 1) := by decide +kernel
theorem dX2_readAmount_50 : decode cX2_readAmount 50 = .ok (.putfield 50, 3) := by decide +kernel
theorem dX2_readAmount_53 : decode cX2_readAmount 53 = .ok (.iload_n 3, 1) := by decide +kernel
theorem dX2_readAmount_54 : decode cX2_readAmount 54 = .ok (.ireturn, 1) := by decide +kernel
theorem dX2_readNumber_0 : decode cX2_readNumber 0 = .ok (.aload_n 0, 1) := by decide +kernel
theorem dX2_readNumber_1 : decode cX2_readNumber 1 = .ok (.invokevirtual 56, 3) := by decide +kernel
theorem dX2_readNumber_4 : decode cX2_readNumber 4 = .ok (.istore_n 3, 1) := by decide +kernel
theorem dX2_readNumber_5 : decode cX2_readNumber 5 = .ok (.iload_n 3, 1) := by decide +kernel
theorem dX2_readNumber_6 : decode cX2_readNumber 6 = .ok (.iload_n 1, 1) := by decide +kernel
theorem dX2_readNumber_7 : decode cX2_readNumber 7 = .ok (.if_icmp .lt 8, 3) := by decide +kernel
theorem dX2_readNumber_10 : decode cX2_readNumber 10 = .ok (.iload_n 3, 1) := by decide +kernel
theorem dX2_readNumber_11 : decode cX2_readNumber 11 = .ok (.iload_n 2, 1) := by decide +kernel
theorem dX2_readNumber_12 : decode cX2_readNumber 12 = .ok (.if_icmp .le 5, 3) := by decide +kernel
theorem dX2_readNumber_15 : decode cX2_readNumber 15 = .ok (.iconst 0, 1) := by decide +kernel
theorem dX2_readNumber_16 : decode cX2_readNumber 16 = .ok (.ireturn, 1) := by decide +kernel
theorem dX2_readNumber_17 : decode cX2_readNumber 17 = .ok (.aload_n 0, 1) := by decide +kernel
theorem dX2_readNumber_18 : decode cX2_readNumber 18 = .ok (.iload_n 3, 1) := by decide +kernel
theorem dX2_readNumber_19 : decode cX2_readNumber 19 = .ok (.putfield 50, 3) := by decide +kernel
theorem dX2_readNumber_22 : decode cX2_readNumber 22 = .ok (.aload_n 0, 1) := by decide +kernel
theorem dX2_readNumber_23 : decode cX2_readNumber 23 = .ok (.dup, 1) := by decide +kernel
theorem dX2_readNumber_24 : decode cX2_readNumber 24 = .ok (.getfield 23, 3) := by decide +kernel
theorem dX2_readNumber_27 : decode cX2_readNumber 27 = .ok (.iconst 1, 1) := by decide +kernel
theorem dX2_readNumber_28 : decode cX2_readNumber 28 = .ok (.iadd, 1) := by decide +kernel
theorem dX2_readNumber_29 : decode cX2_readNumber 29 = .ok (.putfield 23, 3) := by decide +kernel
theorem dX2_readNumber_32 : decode cX2_readNumber 32 = .ok (.aload_n 0, 1) := by decide +kernel
theorem dX2_readNumber_33 : decode cX2_readNumber 33 = .ok (.invokevirtual 56, 3) := by decide +kernel
theorem dX2_readNumber_36 : decode cX2_readNumber 36 = .ok (.istore 4, 2) := by decide +kernel
theorem dX2_readNumber_38 : decode cX2_readNumber 38 = .ok (.iload_n 3, 1) := by decide +kernel
theorem dX2_readNumber_39 : decode cX2_readNumber 39 = .ok (.ifCond .eq 41, 3) := by decide +kernel
theorem dX2_readNumber_42 : decode cX2_readNumber 42 = .ok (.iload 4, 2) := by decide +kernel
theorem dX2_readNumber_44 : decode cX2_readNumber 44 = .ok (.iconst (-1), 1) := by decide +kernel
theorem dX2_readNumber_45 : decode cX2_readNumber 45 = .ok (.if_icmp .eq 35, 3) := by decide +kernel
theorem dX2_readNumber_48 : decode cX2_readNumber 48 = .ok (.bipush 10, 2) := by decide +kernel
theorem dX2_readNumber_50 : decode cX2_readNumber 50 = .ok (.iload_n 3, 1) := by decide +kernel
theorem dX2_readNumber_51 : decode cX2_readNumber 51 = .ok (.imul, 1) := by decide +kernel
theorem dX2_readNumber_52 : decode cX2_readNumber 52 = .ok (.iload 4, 2) := by decide +kernel
theorem dX2_readNumber_54 : decode cX2_readNumber 54 = .ok (.iadd, 1) := by decide +kernel
theorem dX2_readNumber_55 : decode cX2_readNumber 55 = .ok (.iload_n 2, 1) := by decide +kernel
theorem dX2_readNumber_56 : decode cX2_readNumber 56 = .ok (.if_icmp .gt 24, 3) := by decide +kernel
theorem dX2_readNumber_59 : decode cX2_readNumber 59 = .ok (.aload_n 0, 1) := by decide +kernel
theorem dX2_readNumber_60 : decode cX2_readNumber 60 = .ok (.bipush 10, 2) := by decide +kernel
theorem dX2_readNumber_62 : decode cX2_readNumber 62 = .ok (.iload_n 3, 1) := by decide +kernel
theorem dX2_readNumber_63 : decode cX2_readNumber 63 = .ok (.imul, 1) := by decide +kernel
theorem dX2_readNumber_64 : decode cX2_readNumber 64 = .ok (.iload 4, 2) := by decide +kernel
theorem dX2_readNumber_66 : decode cX2_readNumber 66 = .ok (.iadd, 1) := by decide +kernel
theorem dX2_readNumber_67 : decode cX2_readNumber 67 = .ok (.putfield 50, 3) := by decide +kernel
theorem dX2_readNumber_70 : decode cX2_readNumber 70 = .ok (.aload_n 0, 1) := by decide +kernel
theorem dX2_readNumber_71 : decode cX2_readNumber 71 = .ok (.dup, 1) := by decide +kernel
theorem dX2_readNumber_72 : decode cX2_readNumber 72 = .ok (.getfield 23, 3) := by decide +kernel
theorem dX2_readNumber_75 : decode cX2_readNumber 75 = .ok (.iconst 1, 1) := by decide +kernel
theorem dX2_readNumber_76 : decode cX2_readNumber 76 = .ok (.iadd, 1) := by decide +kernel
theorem dX2_readNumber_77 : decode cX2_readNumber 77 = .ok (.putfield 23, 3) := by decide +kernel
theorem dX2_readNumber_80 : decode cX2_readNumber 80 = .ok (.iconst 1, 1) := by decide +kernel
theorem dX2_readNumber_81 : decode cX2_readNumber 81 = .ok (.ireturn, 1) := by decide +kernel
theorem dX2_digitAhead_0 : decode cX2_digitAhead 0 = .ok (.aload_n 0, 1) := by decide +kernel
theorem dX2_digitAhead_1 : decode cX2_digitAhead 1 = .ok (.getfield 23, 3) := by decide +kernel
theorem dX2_digitAhead_4 : decode cX2_digitAhead 4 = .ok (.aload_n 0, 1) := by decide +kernel
theorem dX2_digitAhead_5 : decode cX2_digitAhead 5 = .ok (.getfield 15, 3) := by decide +kernel
theorem dX2_digitAhead_8 : decode cX2_digitAhead 8 = .ok (.if_icmp .ge 43, 3) := by decide +kernel
theorem dX2_digitAhead_11 : decode cX2_digitAhead 11 = .ok (.aload_n 0, 1) := by decide +kernel
theorem dX2_digitAhead_12 : decode cX2_digitAhead 12 = .ok (.getfield 23, 3) := by decide +kernel
theorem dX2_digitAhead_15 : decode cX2_digitAhead 15 = .ok (.aload_n 0, 1) := by decide +kernel
theorem dX2_digitAhead_16 : decode cX2_digitAhead 16 = .ok (.getfield 9, 3) := by decide +kernel
theorem dX2_digitAhead_19 : decode cX2_digitAhead 19 = .ok (.arraylength, 1) := by decide +kernel
theorem dX2_digitAhead_20 : decode cX2_digitAhead 20 = .ok (.if_icmp .ge 31, 3) := by decide +kernel
theorem dX2_digitAhead_23 : decode cX2_digitAhead 23 = .ok (.aload_n 0, 1) := by decide +kernel
theorem dX2_digitAhead_24 : decode cX2_digitAhead 24 = .ok (.getfield 9, 3) := by decide +kernel
theorem dX2_digitAhead_27 : decode cX2_digitAhead 27 = .ok (.aload_n 0, 1) := by decide +kernel
theorem dX2_digitAhead_28 : decode cX2_digitAhead 28 = .ok (.getfield 23, 3) := by decide +kernel
theorem dX2_digitAhead_31 : decode cX2_digitAhead 31 = .ok (.caload, 1) := by decide +kernel
theorem dX2_digitAhead_32 : decode cX2_digitAhead 32 = .ok (.bipush 48, 2) := by decide +kernel
theorem dX2_digitAhead_34 : decode cX2_digitAhead 34 = .ok (.if_icmp .lt 17, 3) := by decide +kernel
theorem dX2_digitAhead_37 : decode cX2_digitAhead 37 = .ok (.aload_n 0, 1) := by decide +kernel
theorem dX2_digitAhead_38 : decode cX2_digitAhead 38 = .ok (.getfield 9, 3) := by decide +kernel
theorem dX2_digitAhead_41 : decode cX2_digitAhead 41 = .ok (.aload_n 0, 1) := by decide +kernel
theorem dX2_digitAhead_42 : decode cX2_digitAhead 42 = .ok (.getfield 23, 3) := by decide +kernel
theorem dX2_digitAhead_45 : decode cX2_digitAhead 45 = .ok (.caload, 1) := by decide +kernel
theorem dX2_digitAhead_46 : decode cX2_digitAhead 46 = .ok (.bipush 57, 2) := by decide +kernel
theorem dX2_digitAhead_48 : decode cX2_digitAhead 48 = .ok (.if_icmp .le 5, 3) := by decide +kernel
theorem dX2_digitAhead_51 : decode cX2_digitAhead 51 = .ok (.iconst (-1), 1) := by decide +kernel
theorem dX2_digitAhead_52 : decode cX2_digitAhead 52 = .ok (.ireturn, 1) := by decide +kernel
theorem dX2_digitAhead_53 : decode cX2_digitAhead 53 = .ok (.aload_n 0, 1) := by decide +kernel
theorem dX2_digitAhead_54 : decode cX2_digitAhead 54 = .ok (.getfield 9, 3) := by decide +kernel
theorem dX2_digitAhead_57 : decode cX2_digitAhead 57 = .ok (.aload_n 0, 1) := by decide +kernel
theorem dX2_digitAhead_58 : decode cX2_digitAhead 58 = .ok (.getfield 23, 3) := by decide +kernel
theorem dX2_digitAhead_61 : decode cX2_digitAhead 61 = .ok (.caload, 1) := by decide +kernel
theorem dX2_digitAhead_62 : decode cX2_digitAhead 62 = .ok (.bipush 48, 2) := by decide +kernel
theorem dX2_digitAhead_64 : decode cX2_digitAhead 64 = .ok (.isub, 1) := by decide +kernel
theorem dX2_digitAhead_65 : decode cX2_digitAhead 65 = .ok (.ireturn, 1) := by decide +kernel
theorem dX3_init_0 : decode cX3_init 0 = .ok (.aload_n 0, 1) := by decide +kernel
theorem dX3_init_1 : decode cX3_init 1 = .ok (.invokespecial 3, 3) := by decide +kernel
theorem dX3_init_4 : decode cX3_init 4 = .ok (.aload_n 0, 1) := by decide +kernel
theorem dX3_init_5 : decode cX3_init 5 = .ok (.new 9, 3) := by decide +kernel
theorem dX3_init_8 : decode cX3_init 8 = .ok (.dup, 1) := by decide +kernel
theorem dX3_init_9 : decode cX3_init 9 = .ok (.invokespecial 11, 3) := by decide +kernel
theorem dX3_init_12 : decode cX3_init 12 = .ok (.putfield 12, 3) := by decide +kernel
theorem dX3_init_15 : decode cX3_init 15 = .ok (.aload_n 0, 1) := by decide +kernel
theorem dX3_init_16 : decode cX3_init 16 = .ok (.new 18, 3) := by decide +kernel
theorem dX3_init_19 : decode cX3_init 19 = .ok (.dup, 1) := by decide +kernel
theorem dX3_init_20 : decode cX3_init 20 = .ok (.invokespecial 20, 3) := by decide +kernel
theorem dX3_init_23 : decode cX3_init 23 = .ok (.putfield 21, 3) := by decide +kernel
theorem dX3_init_26 : decode cX3_init 26 = .ok (.aload_n 0, 1) := by decide +kernel
theorem dX3_init_27 : decode cX3_init 27 = .ok (.iconst 3, 1) := by decide +kernel
theorem dX3_init_28 : decode cX3_init 28 = .ok (.anewarray 25, 3) := by decide +kernel
theorem dX3_init_31 : decode cX3_init 31 = .ok (.putfield 27, 3) := by decide +kernel
theorem dX3_init_34 : decode cX3_init 34 = .ok (.aload_n 0, 1) := by decide +kernel
theorem dX3_init_35 : decode cX3_init 35 = .ok (.iconst (-1), 1) := by decide +kernel
theorem dX3_init_36 : decode cX3_init 36 = .ok (.putfield 31, 3) := by decide +kernel
theorem dX3_init_39 : decode cX3_init 39 = .ok (.iconst 0, 1) := by decide +kernel
theorem dX3_init_40 : decode cX3_init 40 = .ok (.istore_n 1, 1) := by decide +kernel
theorem dX3_init_41 : decode cX3_init 41 = .ok (.iload_n 1, 1) := by decide +kernel
theorem dX3_init_42 : decode cX3_init 42 = .ok (.aload_n 0, 1) := by decide +kernel
theorem dX3_init_43 : decode cX3_init 43 = .ok (.getfield 27, 3) := by decide +kernel
theorem dX3_init_46 : decode cX3_init 46 = .ok (.arraylength, 1) := by decide +kernel
theorem dX3_init_47 : decode cX3_init 47 = .ok (.if_icmp .ge 22, 3) := by decide +kernel
theorem dX3_init_50 : decode cX3_init 50 = .ok (.aload_n 0, 1) := by decide +kernel
theorem dX3_init_51 : decode cX3_init 51 = .ok (.getfield 27, 3) := by decide +kernel
theorem dX3_init_54 : decode cX3_init 54 = .ok (.iload_n 1, 1) := by decide +kernel
theorem dX3_init_55 : decode cX3_init 55 = .ok (.new 25, 3) := by decide +kernel
theorem dX3_init_58 : decode cX3_init 58 = .ok (.dup, 1) := by decide +kernel
theorem dX3_init_59 : decode cX3_init 59 = .ok (.invokespecial 35, 3) := by decide +kernel
theorem dX3_init_62 : decode cX3_init 62 = .ok (.aastore, 1) := by decide +kernel
theorem dX3_init_63 : decode cX3_init 63 = .ok (.iinc 1 1, 3) := by decide +kernel
theorem dX3_init_66 : decode cX3_init 66 = .ok (.goto (-25), 3) := by decide +kernel
theorem dX3_init_69 : decode cX3_init 69 = .ok (.return_, 1) := by decide +kernel
theorem dX3_copyFrom_0 : decode cX3_copyFrom 0 = .ok (.aload_n 0, 1) := by decide +kernel
theorem dX3_copyFrom_1 : decode cX3_copyFrom 1 = .ok (.getfield 12, 3) := by decide +kernel
theorem dX3_copyFrom_4 : decode cX3_copyFrom 4 = .ok (.aload_n 1, 1) := by decide +kernel
theorem dX3_copyFrom_5 : decode cX3_copyFrom 5 = .ok (.getfield 12, 3) := by decide +kernel
theorem dX3_copyFrom_8 : decode cX3_copyFrom 8 = .ok (.invokevirtual 36, 3) := by decide +kernel
theorem dX3_copyFrom_11 : decode cX3_copyFrom 11 = .ok (.aload_n 0, 1) := by decide +kernel
theorem dX3_copyFrom_12 : decode cX3_copyFrom 12 = .ok (.getfield 21, 3) := by decide +kernel
theorem dX3_copyFrom_15 : decode cX3_copyFrom 15 = .ok (.aload_n 1, 1) := by decide +kernel
theorem dX3_copyFrom_16 : decode cX3_copyFrom 16 = .ok (.getfield 21, 3) := by decide +kernel
theorem dX3_copyFrom_19 : decode cX3_copyFrom 19 = .ok (.invokevirtual 40, 3) := by decide +kernel
theorem dX3_copyFrom_22 : decode cX3_copyFrom 22 = .ok (.iconst 0, 1) := by decide +kernel
theorem dX3_copyFrom_23 : decode cX3_copyFrom 23 = .ok (.istore_n 2, 1) := by decide +kernel
theorem dX3_copyFrom_24 : decode cX3_copyFrom 24 = .ok (.iload_n 2, 1) := by decide +kernel
theorem dX3_copyFrom_25 : decode cX3_copyFrom 25 = .ok (.iconst 3, 1) := by decide +kernel
theorem dX3_copyFrom_26 : decode cX3_copyFrom 26 = .ok (.if_icmp .ge 24, 3) := by decide +kernel
theorem dX3_copyFrom_29 : decode cX3_copyFrom 29 = .ok (.aload_n 0, 1) := by decide +kernel
theorem dX3_copyFrom_30 : decode cX3_copyFrom 30 = .ok (.getfield 27, 3) := by decide +kernel
theorem dX3_copyFrom_33 : decode cX3_copyFrom 33 = .ok (.iload_n 2, 1) := by decide +kernel
theorem dX3_copyFrom_34 : decode cX3_copyFrom 34 = .ok (.aaload, 1) := by decide +kernel
theorem dX3_copyFrom_35 : decode cX3_copyFrom 35 = .ok (.aload_n 1, 1) := by decide +kernel
theorem dX3_copyFrom_36 : decode cX3_copyFrom 36 = .ok (.getfield 27, 3) := by decide +kernel
theorem dX3_copyFrom_39 : decode cX3_copyFrom 39 = .ok (.iload_n 2, 1) := by decide +kernel
theorem dX3_copyFrom_40 : decode cX3_copyFrom 40 = .ok (.aaload, 1) := by decide +kernel
theorem dX3_copyFrom_41 : decode cX3_copyFrom 41 = .ok (.invokevirtual 43, 3) := by decide +kernel
theorem dX3_copyFrom_44 : decode cX3_copyFrom 44 = .ok (.iinc 2 1, 3) := by decide +kernel
theorem dX3_copyFrom_47 : decode cX3_copyFrom 47 = .ok (.goto (-23), 3) := by decide +kernel
theorem dX3_copyFrom_50 : decode cX3_copyFrom 50 = .ok (.aload_n 0, 1) := by decide +kernel
theorem dX3_copyFrom_51 : decode cX3_copyFrom 51 = .ok (.aload_n 1, 1) := by decide +kernel
theorem dX3_copyFrom_52 : decode cX3_copyFrom 52 = .ok (.getfield 46, 3) := by decide +kernel
theorem dX3_copyFrom_55 : decode cX3_copyFrom 55 = .ok (.putfield 46, 3) := by decide +kernel
theorem dX3_copyFrom_58 : decode cX3_copyFrom 58 = .ok (.aload_n 0, 1) := by decide +kernel
theorem dX3_copyFrom_59 : decode cX3_copyFrom 59 = .ok (.aload_n 1, 1) := by decide +kernel
theorem dX3_copyFrom_60 : decode cX3_copyFrom 60 = .ok (.getfield 49, 3) := by decide +kernel
theorem dX3_copyFrom_63 : decode cX3_copyFrom 63 = .ok (.putfield 49, 3) := by decide +kernel
theorem dX3_copyFrom_66 : decode cX3_copyFrom 66 = .ok (.aload_n 0, 1) := by decide +kernel
theorem dX3_copyFrom_67 : decode cX3_copyFrom 67 = .ok (.aload_n 1, 1) := by decide +kernel
theorem dX3_copyFrom_68 : decode cX3_copyFrom 68 = .ok (.getfield 52, 3) := by decide +kernel
theorem dX3_copyFrom_71 : decode cX3_copyFrom 71 = .ok (.putfield 52, 3) := by decide +kernel
theorem dX3_copyFrom_74 : decode cX3_copyFrom 74 = .ok (.aload_n 0, 1) := by decide +kernel
theorem dX3_copyFrom_75 : decode cX3_copyFrom 75 = .ok (.aload_n 1, 1) := by decide +kernel
theorem dX3_copyFrom_76 : decode cX3_copyFrom 76 = .ok (.getfield 55, 3) := by decide +kernel
theorem dX3_copyFrom_79 : decode cX3_copyFrom 79 = .ok (.putfield 55, 3) := by decide +kernel
theorem dX3_copyFrom_82 : decode cX3_copyFrom 82 = .ok (.aload_n 0, 1) := by decide +kernel
theorem dX3_copyFrom_83 : decode cX3_copyFrom 83 = .ok (.aload_n 1, 1) := by decide +kernel
theorem dX3_copyFrom_84 : decode cX3_copyFrom 84 = .ok (.getfield 31, 3) := by decide +kernel
theorem dX3_copyFrom_87 : decode cX3_copyFrom 87 = .ok (.putfield 31, 3) := by decide +kernel
theorem dX3_copyFrom_90 : decode cX3_copyFrom 90 = .ok (.return_, 1) := by decide +kernel
theorem dX3_addRow_0 : decode cX3_addRow 0 = .ok (.aload_n 0, 1) := by decide +kernel
theorem dX3_addRow_1 : decode cX3_addRow 1 = .ok (.getfield 12, 3) := by decide +kernel
theorem dX3_addRow_4 : decode cX3_addRow 4 = .ok (.getfield 58, 3) := by decide +kernel
theorem dX3_addRow_7 : decode cX3_addRow 7 = .ok (.iload_n 1, 1) := by decide +kernel
theorem dX3_addRow_8 : decode cX3_addRow 8 = .ok (.iload_n 2, 1) := by decide +kernel
theorem dX3_addRow_9 : decode cX3_addRow 9 = .ok (.iastore, 1) := by decide +kernel
theorem dX3_addRow_10 : decode cX3_addRow 10 = .ok (.aload_n 0, 1) := by decide +kernel
theorem dX3_addRow_11 : decode cX3_addRow 11 = .ok (.getfield 12, 3) := by decide +kernel
theorem dX3_addRow_14 : decode cX3_addRow 14 = .ok (.getfield 62, 3) := by decide +kernel
theorem dX3_addRow_17 : decode cX3_addRow 17 = .ok (.iload_n 1, 1) := by decide +kernel
theorem dX3_addRow_18 : decode cX3_addRow 18 = .ok (.iload_n 3, 1) := by decide +kernel
theorem dX3_addRow_19 : decode cX3_addRow 19 = .ok (.iastore, 1) := by decide +kernel
theorem dX3_addRow_20 : decode cX3_addRow 20 = .ok (.aload_n 0, 1) := by decide +kernel
theorem dX3_addRow_21 : decode cX3_addRow 21 = .ok (.iload_n 2, 1) := by decide +kernel
theorem dX3_addRow_22 : decode cX3_addRow 22 = .ok (.iload_n 3, 1) := by decide +kernel
theorem dX3_addRow_23 : decode cX3_addRow 23 = .ok (.iconst 1, 1) := by decide +kernel
theorem dX3_addRow_24 : decode cX3_addRow 24 = .ok (.invokevirtual 65, 3) := by decide +kernel
theorem dX3_addRow_27 : decode cX3_addRow 27 = .ok (.aload_n 0, 1) := by decide +kernel
theorem dX3_addRow_28 : decode cX3_addRow 28 = .ok (.invokevirtual 69, 3) := by decide +kernel
theorem dX3_addRow_31 : decode cX3_addRow 31 = .ok (.return_, 1) := by decide +kernel
theorem dX3_replaceRow_0 : decode cX3_replaceRow 0 = .ok (.aload_n 0, 1) := by decide +kernel
theorem dX3_replaceRow_1 : decode cX3_replaceRow 1 = .ok (.aload_n 0, 1) := by decide +kernel
theorem dX3_replaceRow_2 : decode cX3_replaceRow 2 = .ok (.getfield 12, 3) := by decide +kernel
theorem dX3_replaceRow_5 : decode cX3_replaceRow 5 = .ok (.getfield 58, 3) := by decide +kernel
theorem dX3_replaceRow_8 : decode cX3_replaceRow 8 = .ok (.iload_n 1, 1) := by decide +kernel
theorem dX3_replaceRow_9 : decode cX3_replaceRow 9 = .ok (.iaload, 1) := by decide +kernel
theorem dX3_replaceRow_10 : decode cX3_replaceRow 10 = .ok (.aload_n 0, 1) := by decide +kernel
theorem dX3_replaceRow_11 : decode cX3_replaceRow 11 = .ok (.getfield 12, 3) := by decide +kernel
theorem dX3_replaceRow_14 : decode cX3_replaceRow 14 = .ok (.getfield 62, 3) := by decide +kernel
theorem dX3_replaceRow_17 : decode cX3_replaceRow 17 = .ok (.iload_n 1, 1) := by decide +kernel
theorem dX3_replaceRow_18 : decode cX3_replaceRow 18 = .ok (.iaload, 1) := by decide +kernel
theorem dX3_replaceRow_19 : decode cX3_replaceRow 19 = .ok (.iconst (-1), 1) := by decide +kernel
theorem dX3_replaceRow_20 : decode cX3_replaceRow 20 = .ok (.invokevirtual 65, 3) := by decide +kernel
theorem dX3_replaceRow_23 : decode cX3_replaceRow 23 = .ok (.aload_n 0, 1) := by decide +kernel
theorem dX3_replaceRow_24 : decode cX3_replaceRow 24 = .ok (.getfield 12, 3) := by decide +kernel
theorem dX3_replaceRow_27 : decode cX3_replaceRow 27 = .ok (.getfield 58, 3) := by decide +kernel
theorem dX3_replaceRow_30 : decode cX3_replaceRow 30 = .ok (.iload_n 1, 1) := by decide +kernel
theorem dX3_replaceRow_31 : decode cX3_replaceRow 31 = .ok (.iload_n 2, 1) := by decide +kernel
theorem dX3_replaceRow_32 : decode cX3_replaceRow 32 = .ok (.iastore, 1) := by decide +kernel
theorem dX3_replaceRow_33 : decode cX3_replaceRow 33 = .ok (.aload_n 0, 1) := by decide +kernel
theorem dX3_replaceRow_34 : decode cX3_replaceRow 34 = .ok (.getfield 12, 3) := by decide +kernel
theorem dX3_replaceRow_37 : decode cX3_replaceRow 37 = .ok (.getfield 62, 3) := by decide +kernel
theorem dX3_replaceRow_40 : decode cX3_replaceRow 40 = .ok (.iload_n 1, 1) := by decide +kernel
theorem dX3_replaceRow_41 : decode cX3_replaceRow 41 = .ok (.iload_n 3, 1) := by decide +kernel
theorem dX3_replaceRow_42 : decode cX3_replaceRow 42 = .ok (.iastore, 1) := by decide +kernel
theorem dX3_replaceRow_43 : decode cX3_replaceRow 43 = .ok (.aload_n 0, 1) := by decide +kernel
theorem dX3_replaceRow_44 : decode cX3_replaceRow 44 = .ok (.iload_n 2, 1) := by decide +kernel
theorem dX3_replaceRow_45 : decode cX3_replaceRow 45 = .ok (.iload_n 3, 1) := by decide +kernel
theorem dX3_replaceRow_46 : decode cX3_replaceRow 46 = .ok (.iconst 1, 1) := by decide +kernel
theorem dX3_replaceRow_47 : decode cX3_replaceRow 47 = .ok (.invokevirtual 65, 3) := by decide +kernel
theorem dX3_replaceRow_50 : decode cX3_replaceRow 50 = .ok (.aload_n 0, 1) := by decide +kernel
theorem dX3_replaceRow_51 : decode cX3_replaceRow 51 = .ok (.invokevirtual 69, 3) := by decide +kernel
theorem dX3_replaceRow_54 : decode cX3_replaceRow 54 = .ok (.return_, 1) := by decide +kernel
theorem dX3_removeRow_0 : decode cX3_removeRow 0 = .ok (.aload_n 0, 1) := by decide +kernel
theorem dX3_removeRow_1 : decode cX3_removeRow 1 = .ok (.getfield 12, 3) := by decide +kernel
theorem dX3_removeRow_4 : decode cX3_removeRow 4 = .ok (.getfield 58, 3) := by decide +kernel
theorem dX3_removeRow_7 : decode cX3_removeRow 7 = .ok (.iload_n 1, 1) := by decide +kernel
theorem dX3_removeRow_8 : decode cX3_removeRow 8 = .ok (.iaload, 1) := by decide +kernel
theorem dX3_removeRow_9 : decode cX3_removeRow 9 = .ok (.istore_n 2, 1) := by decide +kernel
theorem dX3_removeRow_10 : decode cX3_removeRow 10 = .ok (.aload_n 0, 1) := by decide +kernel
theorem dX3_removeRow_11 : decode cX3_removeRow 11 = .ok (.getfield 12, 3) := by decide +kernel
theorem dX3_removeRow_14 : decode cX3_removeRow 14 = .ok (.getfield 58, 3) := by decide +kernel
theorem dX3_removeRow_17 : decode cX3_removeRow 17 = .ok (.iload_n 1, 1) := by decide +kernel
theorem dX3_removeRow_18 : decode cX3_removeRow 18 = .ok (.iconst (-1), 1) := by decide +kernel
theorem dX3_removeRow_19 : decode cX3_removeRow 19 = .ok (.iastore, 1) := by decide +kernel
theorem dX3_removeRow_20 : decode cX3_removeRow 20 = .ok (.aload_n 0, 1) := by decide +kernel
theorem dX3_removeRow_21 : decode cX3_removeRow 21 = .ok (.iload_n 2, 1) := by decide +kernel
theorem dX3_removeRow_22 : decode cX3_removeRow 22 = .ok (.aload_n 0, 1) := by decide +kernel
theorem dX3_removeRow_23 : decode cX3_removeRow 23 = .ok (.getfield 12, 3) := by decide +kernel
theorem dX3_removeRow_26 : decode cX3_removeRow 26 = .ok (.getfield 62, 3) := by decide +kernel
theorem dX3_removeRow_29 : decode cX3_removeRow 29 = .ok (.iload_n 1, 1) := by decide +kernel
theorem dX3_removeRow_30 : decode cX3_removeRow 30 = .ok (.iaload, 1) := by decide +kernel
theorem dX3_removeRow_31 : decode cX3_removeRow 31 = .ok (.iconst (-1), 1) := by decide +kernel
theorem dX3_removeRow_32 : decode cX3_removeRow 32 = .ok (.invokevirtual 65, 3) := by decide +kernel
theorem dX3_removeRow_35 : decode cX3_removeRow 35 = .ok (.aload_n 0, 1) := by decide +kernel
theorem dX3_removeRow_36 : decode cX3_removeRow 36 = .ok (.invokevirtual 69, 3) := by decide +kernel
theorem dX3_removeRow_39 : decode cX3_removeRow 39 = .ok (.return_, 1) := by decide +kernel
theorem dX3_writeDelta_0 : decode cX3_writeDelta 0 = .ok (.aload_n 0, 1) := by decide +kernel
theorem dX3_writeDelta_1 : decode cX3_writeDelta 1 = .ok (.getfield 21, 3) := by decide +kernel
theorem dX3_writeDelta_4 : decode cX3_writeDelta 4 = .ok (.iload_n 1, 1) := by decide +kernel
theorem dX3_writeDelta_5 : decode cX3_writeDelta 5 = .ok (.iload_n 2, 1) := by decide +kernel
theorem dX3_writeDelta_6 : decode cX3_writeDelta 6 = .ok (.iload_n 3, 1) := by decide +kernel
theorem dX3_writeDelta_7 : decode cX3_writeDelta 7 = .ok (.invokevirtual 72, 3) := by decide +kernel
theorem dX3_writeDelta_10 : decode cX3_writeDelta 10 = .ok (.iconst 0, 1) := by decide +kernel
theorem dX3_writeDelta_11 : decode cX3_writeDelta 11 = .ok (.istore 4, 2) := by decide +kernel
theorem dX3_writeDelta_13 : decode cX3_writeDelta 13 = .ok (.iload 4, 2) := by decide +kernel
theorem dX3_writeDelta_15 : decode cX3_writeDelta 15 = .ok (.iconst 3, 1) := by decide +kernel
theorem dX3_writeDelta_16 : decode cX3_writeDelta 16 = .ok (.if_icmp .ge 36, 3) := by decide +kernel
theorem dX3_writeDelta_19 : decode cX3_writeDelta 19 = .ok (.aload_n 0, 1) := by decide +kernel
theorem dX3_writeDelta_20 : decode cX3_writeDelta 20 = .ok (.getfield 27, 3) := by decide +kernel
theorem dX3_writeDelta_23 : decode cX3_writeDelta 23 = .ok (.iload 4, 2) := by decide +kernel
theorem dX3_writeDelta_25 : decode cX3_writeDelta 25 = .ok (.aaload, 1) := by decide +kernel
theorem dX3_writeDelta_26 : decode cX3_writeDelta 26 = .ok (.getfield 75, 3) := by decide +kernel
theorem dX3_writeDelta_29 : decode cX3_writeDelta 29 = .ok (.ifCond .ne 17, 3) := by decide +kernel
theorem dX3_writeDelta_32 : decode cX3_writeDelta 32 = .ok (.aload_n 0, 1) := by decide +kernel
theorem dX3_writeDelta_33 : decode cX3_writeDelta 33 = .ok (.getfield 27, 3) := by decide +kernel
theorem dX3_writeDelta_36 : decode cX3_writeDelta 36 = .ok (.iload 4, 2) := by decide +kernel
theorem dX3_writeDelta_38 : decode cX3_writeDelta 38 = .ok (.aaload, 1) := by decide +kernel
theorem dX3_writeDelta_39 : decode cX3_writeDelta 39 = .ok (.aload_n 0, 1) := by decide +kernel
theorem dX3_writeDelta_40 : decode cX3_writeDelta 40 = .ok (.getfield 21, 3) := by decide +kernel
theorem dX3_writeDelta_43 : decode cX3_writeDelta 43 = .ok (.invokevirtual 79, 3) := by decide +kernel
theorem dX3_writeDelta_46 : decode cX3_writeDelta 46 = .ok (.iinc 4 1, 3) := by decide +kernel
theorem dX3_writeDelta_49 : decode cX3_writeDelta 49 = .ok (.goto (-36), 3) := by decide +kernel
theorem dX3_writeDelta_52 : decode cX3_writeDelta 52 = .ok (.return_, 1) := by decide +kernel
theorem dX3_wakeViewsTooFarBehind_0 : decode cX3_wakeViewsTooFarBehind 0 = .ok (.iconst 0, 1) := by decide +kernel
theorem dX3_wakeViewsTooFarBehind_1 : decode cX3_wakeViewsTooFarBehind 1 = .ok (.istore_n 1, 1) := by decide +kernel
theorem dX3_wakeViewsTooFarBehind_2 : decode cX3_wakeViewsTooFarBehind 2 = .ok (.iload_n 1, 1) := by decide +kernel
theorem dX3_wakeViewsTooFarBehind_3 : decode cX3_wakeViewsTooFarBehind 3 = .ok (.iconst 3, 1) := by decide +kernel
theorem dX3_wakeViewsTooFarBehind_4 : decode cX3_wakeViewsTooFarBehind 4 = .ok (.if_icmp .ge 66, 3) := by decide +kernel
theorem dX3_wakeViewsTooFarBehind_7 : decode cX3_wakeViewsTooFarBehind 7 = .ok (.aload_n 0, 1) := by decide +kernel
theorem dX3_wakeViewsTooFarBehind_8 : decode cX3_wakeViewsTooFarBehind 8 = .ok (.getfield 27, 3) := by decide +kernel
theorem dX3_wakeViewsTooFarBehind_11 : decode cX3_wakeViewsTooFarBehind 11 = .ok (.iload_n 1, 1) := by decide +kernel
theorem dX3_wakeViewsTooFarBehind_12 : decode cX3_wakeViewsTooFarBehind 12 = .ok (.aaload, 1) := by decide +kernel
theorem dX3_wakeViewsTooFarBehind_13 : decode cX3_wakeViewsTooFarBehind 13 = .ok (.getfield 75, 3) := by decide +kernel
theorem dX3_wakeViewsTooFarBehind_16 : decode cX3_wakeViewsTooFarBehind 16 = .ok (.ifCond .eq 48, 3) := by decide +kernel
theorem dX3_wakeViewsTooFarBehind_19 : decode cX3_wakeViewsTooFarBehind 19 = .ok (.aload_n 0, 1) := by decide +kernel
theorem dX3_wakeViewsTooFarBehind_20 : decode cX3_wakeViewsTooFarBehind 20 = .ok (.getfield 27, 3) := by decide +kernel
theorem dX3_wakeViewsTooFarBehind_23 : decode cX3_wakeViewsTooFarBehind 23 = .ok (.iload_n 1, 1) := by decide +kernel
theorem dX3_wakeViewsTooFarBehind_24 : decode cX3_wakeViewsTooFarBehind 24 = .ok (.aaload, 1) := by decide +kernel
theorem dX3_wakeViewsTooFarBehind_25 : decode cX3_wakeViewsTooFarBehind 25 = .ok (.aload_n 0, 1) := by decide +kernel
theorem dX3_wakeViewsTooFarBehind_26 : decode cX3_wakeViewsTooFarBehind 26 = .ok (.getfield 21, 3) := by decide +kernel
theorem dX3_wakeViewsTooFarBehind_29 : decode cX3_wakeViewsTooFarBehind 29 = .ok (.invokevirtual 82, 3) := by decide +kernel
theorem dX3_wakeViewsTooFarBehind_32 : decode cX3_wakeViewsTooFarBehind 32 = .ok (.aload_n 0, 1) := by decide +kernel
theorem dX3_wakeViewsTooFarBehind_33 : decode cX3_wakeViewsTooFarBehind 33 = .ok (.getfield 27, 3) := by decide +kernel
theorem dX3_wakeViewsTooFarBehind_36 : decode cX3_wakeViewsTooFarBehind 36 = .ok (.iload_n 1, 1) := by decide +kernel
theorem dX3_wakeViewsTooFarBehind_37 : decode cX3_wakeViewsTooFarBehind 37 = .ok (.aaload, 1) := by decide +kernel
theorem dX3_wakeViewsTooFarBehind_38 : decode cX3_wakeViewsTooFarBehind 38 = .ok (.getfield 86, 3) := by decide +kernel
theorem dX3_wakeViewsTooFarBehind_41 : decode cX3_wakeViewsTooFarBehind 41 = .ok (.if_icmp .le 23, 3) := by decide +kernel
theorem dX3_wakeViewsTooFarBehind_44 : decode cX3_wakeViewsTooFarBehind 44 = .ok (.aload_n 0, 1) := by decide +kernel
theorem dX3_wakeViewsTooFarBehind_45 : decode cX3_wakeViewsTooFarBehind 45 = .ok (.aload_n 0, 1) := by decide +kernel
theorem dX3_wakeViewsTooFarBehind_46 : decode cX3_wakeViewsTooFarBehind 46 = .ok (.getfield 27, 3) := by decide +kernel
theorem dX3_wakeViewsTooFarBehind_49 : decode cX3_wakeViewsTooFarBehind 49 = .ok (.iload_n 1, 1) := by decide +kernel
theorem dX3_wakeViewsTooFarBehind_50 : decode cX3_wakeViewsTooFarBehind 50 = .ok (.aaload, 1) := by decide +kernel
theorem dX3_wakeViewsTooFarBehind_51 : decode cX3_wakeViewsTooFarBehind 51 = .ok (.invokevirtual 89, 3) := by decide +kernel
theorem dX3_wakeViewsTooFarBehind_54 : decode cX3_wakeViewsTooFarBehind 54 = .ok (.aload_n 0, 1) := by decide +kernel
theorem dX3_wakeViewsTooFarBehind_55 : decode cX3_wakeViewsTooFarBehind 55 = .ok (.dup, 1) := by decide +kernel
theorem dX3_wakeViewsTooFarBehind_56 : decode cX3_wakeViewsTooFarBehind 56 = .ok (.getfield 52, 3) := by decide +kernel
theorem dX3_wakeViewsTooFarBehind_59 : decode cX3_wakeViewsTooFarBehind 59 = .ok (.iconst 1, 1) := by decide +kernel
theorem dX3_wakeViewsTooFarBehind_60 : decode cX3_wakeViewsTooFarBehind 60 = .ok (.iadd, 1) := by decide +kernel
theorem dX3_wakeViewsTooFarBehind_61 : decode cX3_wakeViewsTooFarBehind 61 = .ok (.putfield 52, 3) := by decide +kernel
theorem dX3_wakeViewsTooFarBehind_64 : decode cX3_wakeViewsTooFarBehind 64 = .ok (.iinc 1 1, 3) := by decide +kernel
theorem dX3_wakeViewsTooFarBehind_67 : decode cX3_wakeViewsTooFarBehind 67 = .ok (.goto (-65), 3) := by decide +kernel
theorem dX3_wakeViewsTooFarBehind_70 : decode cX3_wakeViewsTooFarBehind 70 = .ok (.return_, 1) := by decide +kernel
theorem dX3_wakeView_0 : decode cX3_wakeView 0 = .ok (.aload_n 1, 1) := by decide +kernel
theorem dX3_wakeView_1 : decode cX3_wakeView 1 = .ok (.aload_n 0, 1) := by decide +kernel
theorem dX3_wakeView_2 : decode cX3_wakeView 2 = .ok (.getfield 21, 3) := by decide +kernel
theorem dX3_wakeView_5 : decode cX3_wakeView 5 = .ok (.invokevirtual 79, 3) := by decide +kernel
theorem dX3_wakeView_8 : decode cX3_wakeView 8 = .ok (.aload_n 1, 1) := by decide +kernel
theorem dX3_wakeView_9 : decode cX3_wakeView 9 = .ok (.invokevirtual 92, 3) := by decide +kernel
theorem dX3_wakeView_12 : decode cX3_wakeView 12 = .ok (.aload_n 0, 1) := by decide +kernel
theorem dX3_wakeView_13 : decode cX3_wakeView 13 = .ok (.dup, 1) := by decide +kernel
theorem dX3_wakeView_14 : decode cX3_wakeView 14 = .ok (.getfield 49, 3) := by decide +kernel
theorem dX3_wakeView_17 : decode cX3_wakeView 17 = .ok (.iconst 1, 1) := by decide +kernel
theorem dX3_wakeView_18 : decode cX3_wakeView 18 = .ok (.iadd, 1) := by decide +kernel
theorem dX3_wakeView_19 : decode cX3_wakeView 19 = .ok (.putfield 49, 3) := by decide +kernel
theorem dX3_wakeView_22 : decode cX3_wakeView 22 = .ok (.return_, 1) := by decide +kernel
theorem dX3_refreshView_0 : decode cX3_refreshView 0 = .ok (.aload_n 1, 1) := by decide +kernel
theorem dX3_refreshView_1 : decode cX3_refreshView 1 = .ok (.aload_n 0, 1) := by decide +kernel
theorem dX3_refreshView_2 : decode cX3_refreshView 2 = .ok (.getfield 12, 3) := by decide +kernel
theorem dX3_refreshView_5 : decode cX3_refreshView 5 = .ok (.aload_n 0, 1) := by decide +kernel
theorem dX3_refreshView_6 : decode cX3_refreshView 6 = .ok (.getfield 21, 3) := by decide +kernel
theorem dX3_refreshView_9 : decode cX3_refreshView 9 = .ok (.invokevirtual 95, 3) := by decide +kernel
theorem dX3_refreshView_12 : decode cX3_refreshView 12 = .ok (.aload_n 0, 1) := by decide +kernel
theorem dX3_refreshView_13 : decode cX3_refreshView 13 = .ok (.dup, 1) := by decide +kernel
theorem dX3_refreshView_14 : decode cX3_refreshView 14 = .ok (.getfield 55, 3) := by decide +kernel
theorem dX3_refreshView_17 : decode cX3_refreshView 17 = .ok (.iconst 1, 1) := by decide +kernel
theorem dX3_refreshView_18 : decode cX3_refreshView 18 = .ok (.iadd, 1) := by decide +kernel
theorem dX3_refreshView_19 : decode cX3_refreshView 19 = .ok (.putfield 55, 3) := by decide +kernel
theorem dX3_refreshView_22 : decode cX3_refreshView 22 = .ok (.return_, 1) := by decide +kernel
theorem dX3_countNapping_0 : decode cX3_countNapping 0 = .ok (.iconst 0, 1) := by decide +kernel
theorem dX3_countNapping_1 : decode cX3_countNapping 1 = .ok (.istore_n 1, 1) := by decide +kernel
theorem dX3_countNapping_2 : decode cX3_countNapping 2 = .ok (.iconst 0, 1) := by decide +kernel
theorem dX3_countNapping_3 : decode cX3_countNapping 3 = .ok (.istore_n 2, 1) := by decide +kernel
theorem dX3_countNapping_4 : decode cX3_countNapping 4 = .ok (.iload_n 2, 1) := by decide +kernel
theorem dX3_countNapping_5 : decode cX3_countNapping 5 = .ok (.iconst 3, 1) := by decide +kernel
theorem dX3_countNapping_6 : decode cX3_countNapping 6 = .ok (.if_icmp .ge 24, 3) := by decide +kernel
theorem dX3_countNapping_9 : decode cX3_countNapping 9 = .ok (.aload_n 0, 1) := by decide +kernel
theorem dX3_countNapping_10 : decode cX3_countNapping 10 = .ok (.getfield 27, 3) := by decide +kernel
theorem dX3_countNapping_13 : decode cX3_countNapping 13 = .ok (.iload_n 2, 1) := by decide +kernel
theorem dX3_countNapping_14 : decode cX3_countNapping 14 = .ok (.aaload, 1) := by decide +kernel
theorem dX3_countNapping_15 : decode cX3_countNapping 15 = .ok (.getfield 75, 3) := by decide +kernel
theorem dX3_countNapping_18 : decode cX3_countNapping 18 = .ok (.ifCond .eq 6, 3) := by decide +kernel
theorem dX3_countNapping_21 : decode cX3_countNapping 21 = .ok (.iinc 1 1, 3) := by decide +kernel
theorem dX3_countNapping_24 : decode cX3_countNapping 24 = .ok (.iinc 2 1, 3) := by decide +kernel
theorem dX3_countNapping_27 : decode cX3_countNapping 27 = .ok (.goto (-23), 3) := by decide +kernel
theorem dX3_countNapping_30 : decode cX3_countNapping 30 = .ok (.iload_n 1, 1) := by decide +kernel
theorem dX3_countNapping_31 : decode cX3_countNapping 31 = .ok (.ireturn, 1) := by decide +kernel
theorem dX3_passTicks_0 : decode cX3_passTicks 0 = .ok (.aload_n 0, 1) := by decide +kernel
theorem dX3_passTicks_1 : decode cX3_passTicks 1 = .ok (.getfield 52, 3) := by decide +kernel
theorem dX3_passTicks_4 : decode cX3_passTicks 4 = .ok (.istore_n 2, 1) := by decide +kernel
theorem dX3_passTicks_5 : decode cX3_passTicks 5 = .ok (.iconst 0, 1) := by decide +kernel
theorem dX3_passTicks_6 : decode cX3_passTicks 6 = .ok (.istore_n 3, 1) := by decide +kernel
theorem dX3_passTicks_7 : decode cX3_passTicks 7 = .ok (.iload_n 3, 1) := by decide +kernel
theorem dX3_passTicks_8 : decode cX3_passTicks 8 = .ok (.iload_n 1, 1) := by decide +kernel
theorem dX3_passTicks_9 : decode cX3_passTicks 9 = .ok (.if_icmp .ge 13, 3) := by decide +kernel
theorem dX3_passTicks_12 : decode cX3_passTicks 12 = .ok (.aload_n 0, 1) := by decide +kernel
theorem dX3_passTicks_13 : decode cX3_passTicks 13 = .ok (.invokevirtual 99, 3) := by decide +kernel
theorem dX3_passTicks_16 : decode cX3_passTicks 16 = .ok (.iinc 3 1, 3) := by decide +kernel
theorem dX3_passTicks_19 : decode cX3_passTicks 19 = .ok (.goto (-12), 3) := by decide +kernel
theorem dX3_passTicks_22 : decode cX3_passTicks 22 = .ok (.aload_n 0, 1) := by decide +kernel
theorem dX3_passTicks_23 : decode cX3_passTicks 23 = .ok (.getfield 52, 3) := by decide +kernel
theorem dX3_passTicks_26 : decode cX3_passTicks 26 = .ok (.iload_n 2, 1) := by decide +kernel
theorem dX3_passTicks_27 : decode cX3_passTicks 27 = .ok (.isub, 1) := by decide +kernel
theorem dX3_passTicks_28 : decode cX3_passTicks 28 = .ok (.ireturn, 1) := by decide +kernel
theorem dX3_passTick_0 : decode cX3_passTick 0 = .ok (.iconst 0, 1) := by decide +kernel
theorem dX3_passTick_1 : decode cX3_passTick 1 = .ok (.istore_n 1, 1) := by decide +kernel
theorem dX3_passTick_2 : decode cX3_passTick 2 = .ok (.iload_n 1, 1) := by decide +kernel
theorem dX3_passTick_3 : decode cX3_passTick 3 = .ok (.iconst 3, 1) := by decide +kernel
theorem dX3_passTick_4 : decode cX3_passTick 4 = .ok (.if_icmp .ge 59, 3) := by decide +kernel
theorem dX3_passTick_7 : decode cX3_passTick 7 = .ok (.aload_n 0, 1) := by decide +kernel
theorem dX3_passTick_8 : decode cX3_passTick 8 = .ok (.getfield 27, 3) := by decide +kernel
theorem dX3_passTick_11 : decode cX3_passTick 11 = .ok (.iload_n 1, 1) := by decide +kernel
theorem dX3_passTick_12 : decode cX3_passTick 12 = .ok (.aaload, 1) := by decide +kernel
theorem dX3_passTick_13 : decode cX3_passTick 13 = .ok (.astore_n 2, 1) := by decide +kernel
theorem dX3_passTick_14 : decode cX3_passTick 14 = .ok (.aload_n 2, 1) := by decide +kernel
theorem dX3_passTick_15 : decode cX3_passTick 15 = .ok (.getfield 75, 3) := by decide +kernel
theorem dX3_passTick_18 : decode cX3_passTick 18 = .ok (.ifCond .eq 39, 3) := by decide +kernel
theorem dX3_passTick_21 : decode cX3_passTick 21 = .ok (.aload_n 2, 1) := by decide +kernel
theorem dX3_passTick_22 : decode cX3_passTick 22 = .ok (.dup, 1) := by decide +kernel
theorem dX3_passTick_23 : decode cX3_passTick 23 = .ok (.getfield 102, 3) := by decide +kernel
theorem dX3_passTick_26 : decode cX3_passTick 26 = .ok (.iconst 1, 1) := by decide +kernel
theorem dX3_passTick_27 : decode cX3_passTick 27 = .ok (.iadd, 1) := by decide +kernel
theorem dX3_passTick_28 : decode cX3_passTick 28 = .ok (.putfield 102, 3) := by decide +kernel
theorem dX3_passTick_31 : decode cX3_passTick 31 = .ok (.aload_n 2, 1) := by decide +kernel
theorem dX3_passTick_32 : decode cX3_passTick 32 = .ok (.getfield 102, 3) := by decide +kernel
theorem dX3_passTick_35 : decode cX3_passTick 35 = .ok (.aload_n 2, 1) := by decide +kernel
theorem dX3_passTick_36 : decode cX3_passTick 36 = .ok (.getfield 105, 3) := by decide +kernel
theorem dX3_passTick_39 : decode cX3_passTick 39 = .ok (.if_icmp .lt 18, 3) := by decide +kernel
theorem dX3_passTick_42 : decode cX3_passTick 42 = .ok (.aload_n 0, 1) := by decide +kernel
theorem dX3_passTick_43 : decode cX3_passTick 43 = .ok (.aload_n 2, 1) := by decide +kernel
theorem dX3_passTick_44 : decode cX3_passTick 44 = .ok (.invokevirtual 89, 3) := by decide +kernel
theorem dX3_passTick_47 : decode cX3_passTick 47 = .ok (.aload_n 0, 1) := by decide +kernel
theorem dX3_passTick_48 : decode cX3_passTick 48 = .ok (.dup, 1) := by decide +kernel
theorem dX3_passTick_49 : decode cX3_passTick 49 = .ok (.getfield 52, 3) := by decide +kernel
theorem dX3_passTick_52 : decode cX3_passTick 52 = .ok (.iconst 1, 1) := by decide +kernel
theorem dX3_passTick_53 : decode cX3_passTick 53 = .ok (.iadd, 1) := by decide +kernel
theorem dX3_passTick_54 : decode cX3_passTick 54 = .ok (.putfield 52, 3) := by decide +kernel
theorem dX3_passTick_57 : decode cX3_passTick 57 = .ok (.iinc 1 1, 3) := by decide +kernel
theorem dX3_passTick_60 : decode cX3_passTick 60 = .ok (.goto (-58), 3) := by decide +kernel
theorem dX3_passTick_63 : decode cX3_passTick 63 = .ok (.aload_n 0, 1) := by decide +kernel
theorem dX3_passTick_64 : decode cX3_passTick 64 = .ok (.dup, 1) := by decide +kernel
theorem dX3_passTick_65 : decode cX3_passTick 65 = .ok (.getfield 46, 3) := by decide +kernel
theorem dX3_passTick_68 : decode cX3_passTick 68 = .ok (.iconst 1, 1) := by decide +kernel
theorem dX3_passTick_69 : decode cX3_passTick 69 = .ok (.iadd, 1) := by decide +kernel
theorem dX3_passTick_70 : decode cX3_passTick 70 = .ok (.putfield 46, 3) := by decide +kernel
theorem dX3_passTick_73 : decode cX3_passTick 73 = .ok (.return_, 1) := by decide +kernel
theorem dX3_letHappen_0 : decode cX3_letHappen 0 = .ok (.aload_n 1, 1) := by decide +kernel
theorem dX3_letHappen_1 : decode cX3_letHappen 1 = .ok (.getfield 108, 3) := by decide +kernel
theorem dX3_letHappen_4 : decode cX3_letHappen 4 = .ok (.bipush 116, 2) := by decide +kernel
theorem dX3_letHappen_6 : decode cX3_letHappen 6 = .ok (.if_icmp .ne 14, 3) := by decide +kernel
theorem dX3_letHappen_9 : decode cX3_letHappen 9 = .ok (.aload_n 0, 1) := by decide +kernel
theorem dX3_letHappen_10 : decode cX3_letHappen 10 = .ok (.aload_n 1, 1) := by decide +kernel
theorem dX3_letHappen_11 : decode cX3_letHappen 11 = .ok (.getfield 113, 3) := by decide +kernel
theorem dX3_letHappen_14 : decode cX3_letHappen 14 = .ok (.invokevirtual 116, 3) := by decide +kernel
theorem dX3_letHappen_17 : decode cX3_letHappen 17 = .ok (.pop, 1) := by decide +kernel
theorem dX3_letHappen_18 : decode cX3_letHappen 18 = .ok (.iconst 1, 1) := by decide +kernel
theorem dX3_letHappen_19 : decode cX3_letHappen 19 = .ok (.ireturn, 1) := by decide +kernel
theorem dX3_letHappen_20 : decode cX3_letHappen 20 = .ok (.aload_n 1, 1) := by decide +kernel
theorem dX3_letHappen_21 : decode cX3_letHappen 21 = .ok (.getfield 108, 3) := by decide +kernel
theorem dX3_letHappen_24 : decode cX3_letHappen 24 = .ok (.bipush 122, 2) := by decide +kernel
theorem dX3_letHappen_26 : decode cX3_letHappen 26 = .ok (.if_icmp .eq 21, 3) := by decide +kernel
theorem dX3_letHappen_29 : decode cX3_letHappen 29 = .ok (.aload_n 1, 1) := by decide +kernel
theorem dX3_letHappen_30 : decode cX3_letHappen 30 = .ok (.getfield 108, 3) := by decide +kernel
theorem dX3_letHappen_33 : decode cX3_letHappen 33 = .ok (.bipush 119, 2) := by decide +kernel
theorem dX3_letHappen_35 : decode cX3_letHappen 35 = .ok (.if_icmp .eq 12, 3) := by decide +kernel
theorem dX3_letHappen_38 : decode cX3_letHappen 38 = .ok (.aload_n 1, 1) := by decide +kernel
theorem dX3_letHappen_39 : decode cX3_letHappen 39 = .ok (.getfield 108, 3) := by decide +kernel
theorem dX3_letHappen_42 : decode cX3_letHappen 42 = .ok (.bipush 114, 2) := by decide +kernel
theorem dX3_letHappen_44 : decode cX3_letHappen 44 = .ok (.if_icmp .ne 9, 3) := by decide +kernel
theorem dX3_letHappen_47 : decode cX3_letHappen 47 = .ok (.aload_n 0, 1) := by decide +kernel
theorem dX3_letHappen_48 : decode cX3_letHappen 48 = .ok (.aload_n 1, 1) := by decide +kernel
theorem dX3_letHappen_49 : decode cX3_letHappen 49 = .ok (.invokevirtual 120, 3) := by decide +kernel
theorem dX3_letHappen_52 : decode cX3_letHappen 52 = .ok (.ireturn, 1) := by decide +kernel
theorem dX3_letHappen_53 : decode cX3_letHappen 53 = .ok (.aload_n 1, 1) := by decide +kernel
theorem dX3_letHappen_54 : decode cX3_letHappen 54 = .ok (.getfield 113, 3) := by decide +kernel
theorem dX3_letHappen_57 : decode cX3_letHappen 57 = .ok (.istore_n 2, 1) := by decide +kernel
theorem dX3_letHappen_58 : decode cX3_letHappen 58 = .ok (.iload_n 2, 1) := by decide +kernel
theorem dX3_letHappen_59 : decode cX3_letHappen 59 = .ok (.ifCond .lt 34, 3) := by decide +kernel
theorem dX3_letHappen_62 : decode cX3_letHappen 62 = .ok (.iload_n 2, 1) := by decide +kernel
theorem dX3_letHappen_63 : decode cX3_letHappen 63 = .ok (.bipush 16, 2) := by decide +kernel
theorem dX3_letHappen_65 : decode cX3_letHappen 65 = .ok (.if_icmp .ge 28, 3) := by decide +kernel
theorem dX3_letHappen_68 : decode cX3_letHappen 68 = .ok (.aload_n 0, 1) := by decide +kernel
theorem dX3_letHappen_69 : decode cX3_letHappen 69 = .ok (.getfield 12, 3) := by decide +kernel
theorem dX3_letHappen_72 : decode cX3_letHappen 72 = .ok (.iload_n 2, 1) := by decide +kernel
theorem dX3_letHappen_73 : decode cX3_letHappen 73 = .ok (.invokevirtual 124, 3) := by decide +kernel
theorem dX3_letHappen_76 : decode cX3_letHappen 76 = .ok (.aload_n 1, 1) := by decide +kernel
theorem dX3_letHappen_77 : decode cX3_letHappen 77 = .ok (.getfield 108, 3) := by decide +kernel
theorem dX3_letHappen_80 : decode cX3_letHappen 80 = .ok (.bipush 105, 2) := by decide +kernel
theorem dX3_letHappen_82 : decode cX3_letHappen 82 = .ok (.if_icmp .ne 7, 3) := by decide +kernel
theorem dX3_letHappen_85 : decode cX3_letHappen 85 = .ok (.iconst 1, 1) := by decide +kernel
theorem dX3_letHappen_86 : decode cX3_letHappen 86 = .ok (.goto 4, 3) := by decide +kernel
theorem dX3_letHappen_89 : decode cX3_letHappen 89 = .ok (.iconst 0, 1) := by decide +kernel
theorem dX3_letHappen_90 : decode cX3_letHappen 90 = .ok (.if_icmp .eq 5, 3) := by decide +kernel
theorem dX3_letHappen_93 : decode cX3_letHappen 93 = .ok (.iconst 0, 1) := by decide +kernel
theorem dX3_letHappen_94 : decode cX3_letHappen 94 = .ok (.ireturn, 1) := by decide +kernel
theorem dX3_letHappen_95 : decode cX3_letHappen 95 = .ok (.aload_n 1, 1) := by decide +kernel
theorem dX3_letHappen_96 : decode cX3_letHappen 96 = .ok (.getfield 108, 3) := by decide +kernel
theorem dX3_letHappen_99 : decode cX3_letHappen 99 = .ok (.lookupswitch 91 #[(103, 70), (105, 33), (117, 49)], 33) := by decide +kernel
theorem dX3_letHappen_132 : decode cX3_letHappen 132 = .ok (.aload_n 0, 1) := by decide +kernel
theorem dX3_letHappen_133 : decode cX3_letHappen 133 = .ok (.iload_n 2, 1) := by decide +kernel
theorem dX3_letHappen_134 : decode cX3_letHappen 134 = .ok (.aload_n 1, 1) := by decide +kernel
theorem dX3_letHappen_135 : decode cX3_letHappen 135 = .ok (.getfield 128, 3) := by decide +kernel
theorem dX3_letHappen_138 : decode cX3_letHappen 138 = .ok (.aload_n 1, 1) := by decide +kernel
theorem dX3_letHappen_139 : decode cX3_letHappen 139 = .ok (.getfield 131, 3) := by decide +kernel
theorem dX3_letHappen_142 : decode cX3_letHappen 142 = .ok (.invokevirtual 134, 3) := by decide +kernel
theorem dX3_letHappen_145 : decode cX3_letHappen 145 = .ok (.goto 50, 3) := by decide +kernel
theorem dX3_letHappen_148 : decode cX3_letHappen 148 = .ok (.aload_n 0, 1) := by decide +kernel
theorem dX3_letHappen_149 : decode cX3_letHappen 149 = .ok (.iload_n 2, 1) := by decide +kernel
theorem dX3_letHappen_150 : decode cX3_letHappen 150 = .ok (.aload_n 0, 1) := by decide +kernel
theorem dX3_letHappen_151 : decode cX3_letHappen 151 = .ok (.getfield 12, 3) := by decide +kernel
theorem dX3_letHappen_154 : decode cX3_letHappen 154 = .ok (.getfield 58, 3) := by decide +kernel
theorem dX3_letHappen_157 : decode cX3_letHappen 157 = .ok (.iload_n 2, 1) := by decide +kernel
theorem dX3_letHappen_158 : decode cX3_letHappen 158 = .ok (.iaload, 1) := by decide +kernel
theorem dX3_letHappen_159 : decode cX3_letHappen 159 = .ok (.aload_n 1, 1) := by decide +kernel
theorem dX3_letHappen_160 : decode cX3_letHappen 160 = .ok (.getfield 131, 3) := by decide +kernel
theorem dX3_letHappen_163 : decode cX3_letHappen 163 = .ok (.invokevirtual 137, 3) := by decide +kernel
theorem dX3_letHappen_166 : decode cX3_letHappen 166 = .ok (.goto 29, 3) := by decide +kernel
theorem dX3_letHappen_169 : decode cX3_letHappen 169 = .ok (.aload_n 0, 1) := by decide +kernel
theorem dX3_letHappen_170 : decode cX3_letHappen 170 = .ok (.iload_n 2, 1) := by decide +kernel
theorem dX3_letHappen_171 : decode cX3_letHappen 171 = .ok (.aload_n 1, 1) := by decide +kernel
theorem dX3_letHappen_172 : decode cX3_letHappen 172 = .ok (.getfield 128, 3) := by decide +kernel
theorem dX3_letHappen_175 : decode cX3_letHappen 175 = .ok (.aload_n 0, 1) := by decide +kernel
theorem dX3_letHappen_176 : decode cX3_letHappen 176 = .ok (.getfield 12, 3) := by decide +kernel
theorem dX3_letHappen_179 : decode cX3_letHappen 179 = .ok (.getfield 62, 3) := by decide +kernel
theorem dX3_letHappen_182 : decode cX3_letHappen 182 = .ok (.iload_n 2, 1) := by decide +kernel
theorem dX3_letHappen_183 : decode cX3_letHappen 183 = .ok (.iaload, 1) := by decide +kernel
theorem dX3_letHappen_184 : decode cX3_letHappen 184 = .ok (.invokevirtual 137, 3) := by decide +kernel
theorem dX3_letHappen_187 : decode cX3_letHappen 187 = .ok (.goto 8, 3) := by decide +kernel
theorem dX3_letHappen_190 : decode cX3_letHappen 190 = .ok (.aload_n 0, 1) := by decide +kernel
theorem dX3_letHappen_191 : decode cX3_letHappen 191 = .ok (.iload_n 2, 1) := by decide +kernel
theorem dX3_letHappen_192 : decode cX3_letHappen 192 = .ok (.invokevirtual 140, 3) := by decide +kernel
theorem dX3_letHappen_195 : decode cX3_letHappen 195 = .ok (.iconst 1, 1) := by decide +kernel
theorem dX3_letHappen_196 : decode cX3_letHappen 196 = .ok (.ireturn, 1) := by decide +kernel
theorem dX3_letHappenToView_0 : decode cX3_letHappenToView 0 = .ok (.aload_n 1, 1) := by decide +kernel
theorem dX3_letHappenToView_1 : decode cX3_letHappenToView 1 = .ok (.getfield 113, 3) := by decide +kernel
theorem dX3_letHappenToView_4 : decode cX3_letHappenToView 4 = .ok (.ifCond .lt 11, 3) := by decide +kernel
theorem dX3_letHappenToView_7 : decode cX3_letHappenToView 7 = .ok (.aload_n 1, 1) := by decide +kernel
theorem dX3_letHappenToView_8 : decode cX3_letHappenToView 8 = .ok (.getfield 113, 3) := by decide +kernel
theorem dX3_letHappenToView_11 : decode cX3_letHappenToView 11 = .ok (.iconst 3, 1) := by decide +kernel
theorem dX3_letHappenToView_12 : decode cX3_letHappenToView 12 = .ok (.if_icmp .lt 5, 3) := by decide +kernel
theorem dX3_letHappenToView_15 : decode cX3_letHappenToView 15 = .ok (.iconst 0, 1) := by decide +kernel
theorem dX3_letHappenToView_16 : decode cX3_letHappenToView 16 = .ok (.ireturn, 1) := by decide +kernel
theorem dX3_letHappenToView_17 : decode cX3_letHappenToView 17 = .ok (.aload_n 0, 1) := by decide +kernel
theorem dX3_letHappenToView_18 : decode cX3_letHappenToView 18 = .ok (.getfield 27, 3) := by decide +kernel
theorem dX3_letHappenToView_21 : decode cX3_letHappenToView 21 = .ok (.aload_n 1, 1) := by decide +kernel
theorem dX3_letHappenToView_22 : decode cX3_letHappenToView 22 = .ok (.getfield 113, 3) := by decide +kernel
theorem dX3_letHappenToView_25 : decode cX3_letHappenToView 25 = .ok (.aaload, 1) := by decide +kernel
theorem dX3_letHappenToView_26 : decode cX3_letHappenToView 26 = .ok (.astore_n 2, 1) := by decide +kernel
theorem dX3_letHappenToView_27 : decode cX3_letHappenToView 27 = .ok (.aload_n 1, 1) := by decide +kernel
theorem dX3_letHappenToView_28 : decode cX3_letHappenToView 28 = .ok (.getfield 108, 3) := by decide +kernel
theorem dX3_letHappenToView_31 : decode cX3_letHappenToView 31 = .ok (.bipush 114, 2) := by decide +kernel
theorem dX3_letHappenToView_33 : decode cX3_letHappenToView 33 = .ok (.if_icmp .ne 10, 3) := by decide +kernel
theorem dX3_letHappenToView_36 : decode cX3_letHappenToView 36 = .ok (.aload_n 0, 1) := by decide +kernel
theorem dX3_letHappenToView_37 : decode cX3_letHappenToView 37 = .ok (.aload_n 2, 1) := by decide +kernel
theorem dX3_letHappenToView_38 : decode cX3_letHappenToView 38 = .ok (.invokevirtual 144, 3) := by decide +kernel
theorem dX3_letHappenToView_41 : decode cX3_letHappenToView 41 = .ok (.iconst 1, 1) := by decide +kernel
theorem dX3_letHappenToView_42 : decode cX3_letHappenToView 42 = .ok (.ireturn, 1) := by decide +kernel
theorem dX3_letHappenToView_43 : decode cX3_letHappenToView 43 = .ok (.aload_n 2, 1) := by decide +kernel
theorem dX3_letHappenToView_44 : decode cX3_letHappenToView 44 = .ok (.getfield 75, 3) := by decide +kernel
theorem dX3_letHappenToView_47 : decode cX3_letHappenToView 47 = .ok (.aload_n 1, 1) := by decide +kernel
theorem dX3_letHappenToView_48 : decode cX3_letHappenToView 48 = .ok (.getfield 108, 3) := by decide +kernel
theorem dX3_letHappenToView_51 : decode cX3_letHappenToView 51 = .ok (.bipush 119, 2) := by decide +kernel
theorem dX3_letHappenToView_53 : decode cX3_letHappenToView 53 = .ok (.if_icmp .ne 7, 3) := by decide +kernel
theorem dX3_letHappenToView_56 : decode cX3_letHappenToView 56 = .ok (.iconst 1, 1) := by decide +kernel
theorem dX3_letHappenToView_57 : decode cX3_letHappenToView 57 = .ok (.goto 4, 3) := by decide +kernel
theorem dX3_letHappenToView_60 : decode cX3_letHappenToView 60 = .ok (.iconst 0, 1) := by decide +kernel
theorem dX3_letHappenToView_61 : decode cX3_letHappenToView 61 = .ok (.if_icmp .eq 5, 3) := by decide +kernel
theorem dX3_letHappenToView_64 : decode cX3_letHappenToView 64 = .ok (.iconst 0, 1) := by decide +kernel
theorem dX3_letHappenToView_65 : decode cX3_letHappenToView 65 = .ok (.ireturn, 1) := by decide +kernel
theorem dX3_letHappenToView_66 : decode cX3_letHappenToView 66 = .ok (.aload_n 1, 1) := by decide +kernel
theorem dX3_letHappenToView_67 : decode cX3_letHappenToView 67 = .ok (.getfield 108, 3) := by decide +kernel
theorem dX3_letHappenToView_70 : decode cX3_letHappenToView 70 = .ok (.bipush 119, 2) := by decide +kernel
theorem dX3_letHappenToView_72 : decode cX3_letHappenToView 72 = .ok (.if_icmp .ne 11, 3) := by decide +kernel
theorem dX3_letHappenToView_75 : decode cX3_letHappenToView 75 = .ok (.aload_n 0, 1) := by decide +kernel
theorem dX3_letHappenToView_76 : decode cX3_letHappenToView 76 = .ok (.aload_n 2, 1) := by decide +kernel
theorem dX3_letHappenToView_77 : decode cX3_letHappenToView 77 = .ok (.invokevirtual 89, 3) := by decide +kernel
theorem dX3_letHappenToView_80 : decode cX3_letHappenToView 80 = .ok (.goto 7, 3) := by decide +kernel
theorem dX3_letHappenToView_83 : decode cX3_letHappenToView 83 = .ok (.aload_n 2, 1) := by decide +kernel
theorem dX3_letHappenToView_84 : decode cX3_letHappenToView 84 = .ok (.invokevirtual 147, 3) := by decide +kernel
theorem dX3_letHappenToView_87 : decode cX3_letHappenToView 87 = .ok (.iconst 1, 1) := by decide +kernel
theorem dX3_letHappenToView_88 : decode cX3_letHappenToView 88 = .ok (.ireturn, 1) := by decide +kernel
theorem dX4_init_0 : decode cX4_init 0 = .ok (.aload_n 0, 1) := by decide +kernel
theorem dX4_init_1 : decode cX4_init 1 = .ok (.invokespecial 3, 3) := by decide +kernel
theorem dX4_init_4 : decode cX4_init 4 = .ok (.aload_n 0, 1) := by decide +kernel
theorem dX4_init_5 : decode cX4_init 5 = .ok (.bipush 16, 2) := by decide +kernel
theorem dX4_init_7 : decode cX4_init 7 = .ok (.newarray .int, 2) := by decide +kernel
theorem dX4_init_9 : decode cX4_init 9 = .ok (.putfield 9, 3) := by decide +kernel
theorem dX4_init_12 : decode cX4_init 12 = .ok (.aload_n 0, 1) := by decide +kernel
theorem dX4_init_13 : decode cX4_init 13 = .ok (.bipush 16, 2) := by decide +kernel
theorem dX4_init_15 : decode cX4_init 15 = .ok (.newarray .int, 2) := by decide +kernel
theorem dX4_init_17 : decode cX4_init 17 = .ok (.putfield 15, 3) := by decide +kernel
theorem dX4_init_20 : decode cX4_init 20 = .ok (.iconst 0, 1) := by decide +kernel
theorem dX4_init_21 : decode cX4_init 21 = .ok (.istore_n 1, 1) := by decide +kernel
theorem dX4_init_22 : decode cX4_init 22 = .ok (.iload_n 1, 1) := by decide +kernel
theorem dX4_init_23 : decode cX4_init 23 = .ok (.aload_n 0, 1) := by decide +kernel
theorem dX4_init_24 : decode cX4_init 24 = .ok (.getfield 9, 3) := by decide +kernel
theorem dX4_init_27 : decode cX4_init 27 = .ok (.arraylength, 1) := by decide +kernel
theorem dX4_init_28 : decode cX4_init 28 = .ok (.if_icmp .ge 16, 3) := by decide +kernel
theorem dX4_init_31 : decode cX4_init 31 = .ok (.aload_n 0, 1) := by decide +kernel
theorem dX4_init_32 : decode cX4_init 32 = .ok (.getfield 9, 3) := by decide +kernel
theorem dX4_init_35 : decode cX4_init 35 = .ok (.iload_n 1, 1) := by decide +kernel
theorem dX4_init_36 : decode cX4_init 36 = .ok (.iconst (-1), 1) := by decide +kernel
theorem dX4_init_37 : decode cX4_init 37 = .ok (.iastore, 1) := by decide +kernel
theorem dX4_init_38 : decode cX4_init 38 = .ok (.iinc 1 1, 3) := by decide +kernel
theorem dX4_init_41 : decode cX4_init 41 = .ok (.goto (-19), 3) := by decide +kernel
theorem dX4_init_44 : decode cX4_init 44 = .ok (.return_, 1) := by decide +kernel
theorem dX4_copyFrom_0 : decode cX4_copyFrom 0 = .ok (.aload_n 1, 1) := by decide +kernel
theorem dX4_copyFrom_1 : decode cX4_copyFrom 1 = .ok (.getfield 9, 3) := by decide +kernel
theorem dX4_copyFrom_4 : decode cX4_copyFrom 4 = .ok (.iconst 0, 1) := by decide +kernel
theorem dX4_copyFrom_5 : decode cX4_copyFrom 5 = .ok (.aload_n 0, 1) := by decide +kernel
theorem dX4_copyFrom_6 : decode cX4_copyFrom 6 = .ok (.getfield 9, 3) := by decide +kernel
theorem dX4_copyFrom_9 : decode cX4_copyFrom 9 = .ok (.iconst 0, 1) := by decide +kernel
theorem dX4_copyFrom_10 : decode cX4_copyFrom 10 = .ok (.aload_n 0, 1) := by decide +kernel
theorem dX4_copyFrom_11 : decode cX4_copyFrom 11 = .ok (.getfield 9, 3) := by decide +kernel
theorem dX4_copyFrom_14 : decode cX4_copyFrom 14 = .ok (.arraylength, 1) := by decide +kernel
theorem dX4_copyFrom_15 : decode cX4_copyFrom 15 = .ok (.invokestatic 18, 3) := by decide +kernel
theorem dX4_copyFrom_18 : decode cX4_copyFrom 18 = .ok (.aload_n 1, 1) := by decide +kernel
theorem dX4_copyFrom_19 : decode cX4_copyFrom 19 = .ok (.getfield 15, 3) := by decide +kernel
theorem dX4_copyFrom_22 : decode cX4_copyFrom 22 = .ok (.iconst 0, 1) := by decide +kernel
theorem dX4_copyFrom_23 : decode cX4_copyFrom 23 = .ok (.aload_n 0, 1) := by decide +kernel
theorem dX4_copyFrom_24 : decode cX4_copyFrom 24 = .ok (.getfield 15, 3) := by decide +kernel
theorem dX4_copyFrom_27 : decode cX4_copyFrom 27 = .ok (.iconst 0, 1) := by decide +kernel
theorem dX4_copyFrom_28 : decode cX4_copyFrom 28 = .ok (.aload_n 0, 1) := by decide +kernel
theorem dX4_copyFrom_29 : decode cX4_copyFrom 29 = .ok (.getfield 15, 3) := by decide +kernel
theorem dX4_copyFrom_32 : decode cX4_copyFrom 32 = .ok (.arraylength, 1) := by decide +kernel
theorem dX4_copyFrom_33 : decode cX4_copyFrom 33 = .ok (.invokestatic 18, 3) := by decide +kernel
theorem dX4_copyFrom_36 : decode cX4_copyFrom 36 = .ok (.return_, 1) := by decide +kernel
theorem dX4_freeAt_0 : decode cX4_freeAt 0 = .ok (.iload_n 1, 1) := by decide +kernel
theorem dX4_freeAt_1 : decode cX4_freeAt 1 = .ok (.ifCond .lt 22, 3) := by decide +kernel
theorem dX4_freeAt_4 : decode cX4_freeAt 4 = .ok (.iload_n 1, 1) := by decide +kernel
theorem dX4_freeAt_5 : decode cX4_freeAt 5 = .ok (.aload_n 0, 1) := by decide +kernel
theorem dX4_freeAt_6 : decode cX4_freeAt 6 = .ok (.getfield 9, 3) := by decide +kernel
theorem dX4_freeAt_9 : decode cX4_freeAt 9 = .ok (.arraylength, 1) := by decide +kernel
theorem dX4_freeAt_10 : decode cX4_freeAt 10 = .ok (.if_icmp .ge 13, 3) := by decide +kernel
theorem dX4_freeAt_13 : decode cX4_freeAt 13 = .ok (.aload_n 0, 1) := by decide +kernel
theorem dX4_freeAt_14 : decode cX4_freeAt 14 = .ok (.getfield 9, 3) := by decide +kernel
theorem dX4_freeAt_17 : decode cX4_freeAt 17 = .ok (.iload_n 1, 1) := by decide +kernel
theorem dX4_freeAt_18 : decode cX4_freeAt 18 = .ok (.iaload, 1) := by decide +kernel
theorem dX4_freeAt_19 : decode cX4_freeAt 19 = .ok (.iconst (-1), 1) := by decide +kernel
theorem dX4_freeAt_20 : decode cX4_freeAt 20 = .ok (.if_icmp .ne 7, 3) := by decide +kernel
theorem dX4_freeAt_23 : decode cX4_freeAt 23 = .ok (.iconst 1, 1) := by decide +kernel
theorem dX4_freeAt_24 : decode cX4_freeAt 24 = .ok (.goto 4, 3) := by decide +kernel
theorem dX4_freeAt_27 : decode cX4_freeAt 27 = .ok (.iconst 0, 1) := by decide +kernel
theorem dX4_freeAt_28 : decode cX4_freeAt 28 = .ok (.ireturn, 1) := by decide +kernel
theorem dX4_countRows_0 : decode cX4_countRows 0 = .ok (.iconst 0, 1) := by decide +kernel
theorem dX4_countRows_1 : decode cX4_countRows 1 = .ok (.istore_n 1, 1) := by decide +kernel
theorem dX4_countRows_2 : decode cX4_countRows 2 = .ok (.aload_n 0, 1) := by decide +kernel
theorem dX4_countRows_3 : decode cX4_countRows 3 = .ok (.getfield 9, 3) := by decide +kernel
theorem dX4_countRows_6 : decode cX4_countRows 6 = .ok (.astore_n 2, 1) := by decide +kernel
theorem dX4_countRows_7 : decode cX4_countRows 7 = .ok (.aload_n 2, 1) := by decide +kernel
theorem dX4_countRows_8 : decode cX4_countRows 8 = .ok (.arraylength, 1) := by decide +kernel
theorem dX4_countRows_9 : decode cX4_countRows 9 = .ok (.istore_n 3, 1) := by decide +kernel
theorem dX4_countRows_10 : decode cX4_countRows 10 = .ok (.iconst 0, 1) := by decide +kernel
theorem dX4_countRows_11 : decode cX4_countRows 11 = .ok (.istore 4, 2) := by decide +kernel
theorem dX4_countRows_13 : decode cX4_countRows 13 = .ok (.iload 4, 2) := by decide +kernel
theorem dX4_countRows_15 : decode cX4_countRows 15 = .ok (.iload_n 3, 1) := by decide +kernel
theorem dX4_countRows_16 : decode cX4_countRows 16 = .ok (.if_icmp .ge 24, 3) := by decide +kernel
theorem dX4_countRows_19 : decode cX4_countRows 19 = .ok (.aload_n 2, 1) := by decide +kernel
theorem dX4_countRows_20 : decode cX4_countRows 20 = .ok (.iload 4, 2) := by decide +kernel
theorem dX4_countRows_22 : decode cX4_countRows 22 = .ok (.iaload, 1) := by decide +kernel
theorem dX4_countRows_23 : decode cX4_countRows 23 = .ok (.istore 5, 2) := by decide +kernel
theorem dX4_countRows_25 : decode cX4_countRows 25 = .ok (.iload 5, 2) := by decide +kernel
theorem dX4_countRows_27 : decode cX4_countRows 27 = .ok (.iconst (-1), 1) := by decide +kernel
theorem dX4_countRows_28 : decode cX4_countRows 28 = .ok (.if_icmp .eq 6, 3) := by decide +kernel
theorem dX4_countRows_31 : decode cX4_countRows 31 = .ok (.iinc 1 1, 3) := by decide +kernel
theorem dX4_countRows_34 : decode cX4_countRows 34 = .ok (.iinc 4 1, 3) := by decide +kernel
theorem dX4_countRows_37 : decode cX4_countRows 37 = .ok (.goto (-24), 3) := by decide +kernel
theorem dX4_countRows_40 : decode cX4_countRows 40 = .ok (.iload_n 1, 1) := by decide +kernel
theorem dX4_countRows_41 : decode cX4_countRows 41 = .ok (.ireturn, 1) := by decide +kernel
theorem dX5_init_0 : decode cX5_init 0 = .ok (.aload_n 0, 1) := by decide +kernel
theorem dX5_init_1 : decode cX5_init 1 = .ok (.invokespecial 3, 3) := by decide +kernel
theorem dX5_init_4 : decode cX5_init 4 = .ok (.aload_n 0, 1) := by decide +kernel
theorem dX5_init_5 : decode cX5_init 5 = .ok (.iconst 4, 1) := by decide +kernel
theorem dX5_init_6 : decode cX5_init 6 = .ok (.anewarray 9, 3) := by decide +kernel
theorem dX5_init_9 : decode cX5_init 9 = .ok (.putfield 11, 3) := by decide +kernel
theorem dX5_init_12 : decode cX5_init 12 = .ok (.aload_n 0, 1) := by decide +kernel
theorem dX5_init_13 : decode cX5_init 13 = .ok (.bipush (-99), 2) := by decide +kernel
theorem dX5_init_15 : decode cX5_init 15 = .ok (.putfield 17, 3) := by decide +kernel
theorem dX5_init_18 : decode cX5_init 18 = .ok (.aload_n 0, 1) := by decide +kernel
theorem dX5_init_19 : decode cX5_init 19 = .ok (.bipush 10, 2) := by decide +kernel
theorem dX5_init_21 : decode cX5_init 21 = .ok (.putfield 21, 3) := by decide +kernel
theorem dX5_init_24 : decode cX5_init 24 = .ok (.aload_n 0, 1) := by decide +kernel
theorem dX5_init_25 : decode cX5_init 25 = .ok (.bipush 8, 2) := by decide +kernel
theorem dX5_init_27 : decode cX5_init 27 = .ok (.putfield 24, 3) := by decide +kernel
theorem dX5_init_30 : decode cX5_init 30 = .ok (.iconst 0, 1) := by decide +kernel
theorem dX5_init_31 : decode cX5_init 31 = .ok (.istore_n 1, 1) := by decide +kernel
theorem dX5_init_32 : decode cX5_init 32 = .ok (.iload_n 1, 1) := by decide +kernel
theorem dX5_init_33 : decode cX5_init 33 = .ok (.aload_n 0, 1) := by decide +kernel
theorem dX5_init_34 : decode cX5_init 34 = .ok (.getfield 11, 3) := by decide +kernel
theorem dX5_init_37 : decode cX5_init 37 = .ok (.arraylength, 1) := by decide +kernel
theorem dX5_init_38 : decode cX5_init 38 = .ok (.if_icmp .ge 22, 3) := by decide +kernel
theorem dX5_init_41 : decode cX5_init 41 = .ok (.aload_n 0, 1) := by decide +kernel
theorem dX5_init_42 : decode cX5_init 42 = .ok (.getfield 11, 3) := by decide +kernel
theorem dX5_init_45 : decode cX5_init 45 = .ok (.iload_n 1, 1) := by decide +kernel
theorem dX5_init_46 : decode cX5_init 46 = .ok (.new 9, 3) := by decide +kernel
theorem dX5_init_49 : decode cX5_init 49 = .ok (.dup, 1) := by decide +kernel
theorem dX5_init_50 : decode cX5_init 50 = .ok (.invokespecial 27, 3) := by decide +kernel
theorem dX5_init_53 : decode cX5_init 53 = .ok (.aastore, 1) := by decide +kernel
theorem dX5_init_54 : decode cX5_init 54 = .ok (.iinc 1 1, 3) := by decide +kernel
theorem dX5_init_57 : decode cX5_init 57 = .ok (.goto (-25), 3) := by decide +kernel
theorem dX5_init_60 : decode cX5_init 60 = .ok (.return_, 1) := by decide +kernel
theorem dX5_copyFrom_0 : decode cX5_copyFrom 0 = .ok (.iconst 0, 1) := by decide +kernel
theorem dX5_copyFrom_1 : decode cX5_copyFrom 1 = .ok (.istore_n 2, 1) := by decide +kernel
theorem dX5_copyFrom_2 : decode cX5_copyFrom 2 = .ok (.iload_n 2, 1) := by decide +kernel
theorem dX5_copyFrom_3 : decode cX5_copyFrom 3 = .ok (.iconst 4, 1) := by decide +kernel
theorem dX5_copyFrom_4 : decode cX5_copyFrom 4 = .ok (.if_icmp .ge 24, 3) := by decide +kernel
theorem dX5_copyFrom_7 : decode cX5_copyFrom 7 = .ok (.aload_n 0, 1) := by decide +kernel
theorem dX5_copyFrom_8 : decode cX5_copyFrom 8 = .ok (.getfield 11, 3) := by decide +kernel
theorem dX5_copyFrom_11 : decode cX5_copyFrom 11 = .ok (.iload_n 2, 1) := by decide +kernel
theorem dX5_copyFrom_12 : decode cX5_copyFrom 12 = .ok (.aaload, 1) := by decide +kernel
theorem dX5_copyFrom_13 : decode cX5_copyFrom 13 = .ok (.aload_n 1, 1) := by decide +kernel
theorem dX5_copyFrom_14 : decode cX5_copyFrom 14 = .ok (.getfield 11, 3) := by decide +kernel
theorem dX5_copyFrom_17 : decode cX5_copyFrom 17 = .ok (.iload_n 2, 1) := by decide +kernel
theorem dX5_copyFrom_18 : decode cX5_copyFrom 18 = .ok (.aaload, 1) := by decide +kernel
theorem dX5_copyFrom_19 : decode cX5_copyFrom 19 = .ok (.invokevirtual 28, 3) := by decide +kernel
theorem dX5_copyFrom_22 : decode cX5_copyFrom 22 = .ok (.iinc 2 1, 3) := by decide +kernel
theorem dX5_copyFrom_25 : decode cX5_copyFrom 25 = .ok (.goto (-23), 3) := by decide +kernel
theorem dX5_copyFrom_28 : decode cX5_copyFrom 28 = .ok (.aload_n 0, 1) := by decide +kernel
theorem dX5_copyFrom_29 : decode cX5_copyFrom 29 = .ok (.aload_n 1, 1) := by decide +kernel
theorem dX5_copyFrom_30 : decode cX5_copyFrom 30 = .ok (.getfield 17, 3) := by decide +kernel
theorem dX5_copyFrom_33 : decode cX5_copyFrom 33 = .ok (.putfield 17, 3) := by decide +kernel
theorem dX5_copyFrom_36 : decode cX5_copyFrom 36 = .ok (.aload_n 0, 1) := by decide +kernel
theorem dX5_copyFrom_37 : decode cX5_copyFrom 37 = .ok (.aload_n 1, 1) := by decide +kernel
theorem dX5_copyFrom_38 : decode cX5_copyFrom 38 = .ok (.getfield 21, 3) := by decide +kernel
theorem dX5_copyFrom_41 : decode cX5_copyFrom 41 = .ok (.putfield 21, 3) := by decide +kernel
theorem dX5_copyFrom_44 : decode cX5_copyFrom 44 = .ok (.aload_n 0, 1) := by decide +kernel
theorem dX5_copyFrom_45 : decode cX5_copyFrom 45 = .ok (.aload_n 1, 1) := by decide +kernel
theorem dX5_copyFrom_46 : decode cX5_copyFrom 46 = .ok (.getfield 24, 3) := by decide +kernel
theorem dX5_copyFrom_49 : decode cX5_copyFrom 49 = .ok (.putfield 24, 3) := by decide +kernel
theorem dX5_copyFrom_52 : decode cX5_copyFrom 52 = .ok (.aload_n 0, 1) := by decide +kernel
theorem dX5_copyFrom_53 : decode cX5_copyFrom 53 = .ok (.aload_n 1, 1) := by decide +kernel
theorem dX5_copyFrom_54 : decode cX5_copyFrom 54 = .ok (.getfield 32, 3) := by decide +kernel
theorem dX5_copyFrom_57 : decode cX5_copyFrom 57 = .ok (.putfield 32, 3) := by decide +kernel
theorem dX5_copyFrom_60 : decode cX5_copyFrom 60 = .ok (.aload_n 0, 1) := by decide +kernel
theorem dX5_copyFrom_61 : decode cX5_copyFrom 61 = .ok (.aload_n 1, 1) := by decide +kernel
theorem dX5_copyFrom_62 : decode cX5_copyFrom 62 = .ok (.getfield 36, 3) := by decide +kernel
theorem dX5_copyFrom_65 : decode cX5_copyFrom 65 = .ok (.putfield 36, 3) := by decide +kernel
theorem dX5_copyFrom_68 : decode cX5_copyFrom 68 = .ok (.aload_n 0, 1) := by decide +kernel
theorem dX5_copyFrom_69 : decode cX5_copyFrom 69 = .ok (.aload_n 1, 1) := by decide +kernel
theorem dX5_copyFrom_70 : decode cX5_copyFrom 70 = .ok (.getfield 39, 3) := by decide +kernel
theorem dX5_copyFrom_73 : decode cX5_copyFrom 73 = .ok (.putfield 39, 3) := by decide +kernel
theorem dX5_copyFrom_76 : decode cX5_copyFrom 76 = .ok (.return_, 1) := by decide +kernel
theorem dX5_beginNap_0 : decode cX5_beginNap 0 = .ok (.aload_n 0, 1) := by decide +kernel
theorem dX5_beginNap_1 : decode cX5_beginNap 1 = .ok (.iconst 1, 1) := by decide +kernel
theorem dX5_beginNap_2 : decode cX5_beginNap 2 = .ok (.putfield 32, 3) := by decide +kernel
theorem dX5_beginNap_5 : decode cX5_beginNap 5 = .ok (.aload_n 0, 1) := by decide +kernel
theorem dX5_beginNap_6 : decode cX5_beginNap 6 = .ok (.iconst 0, 1) := by decide +kernel
theorem dX5_beginNap_7 : decode cX5_beginNap 7 = .ok (.putfield 36, 3) := by decide +kernel
theorem dX5_beginNap_10 : decode cX5_beginNap 10 = .ok (.return_, 1) := by decide +kernel
theorem dX5_endNap_0 : decode cX5_endNap 0 = .ok (.aload_n 0, 1) := by decide +kernel
theorem dX5_endNap_1 : decode cX5_endNap 1 = .ok (.iconst 0, 1) := by decide +kernel
theorem dX5_endNap_2 : decode cX5_endNap 2 = .ok (.putfield 32, 3) := by decide +kernel
theorem dX5_endNap_5 : decode cX5_endNap 5 = .ok (.aload_n 0, 1) := by decide +kernel
theorem dX5_endNap_6 : decode cX5_endNap 6 = .ok (.iconst 0, 1) := by decide +kernel
theorem dX5_endNap_7 : decode cX5_endNap 7 = .ok (.putfield 36, 3) := by decide +kernel
theorem dX5_endNap_10 : decode cX5_endNap 10 = .ok (.return_, 1) := by decide +kernel
theorem dX5_countWaiting_0 : decode cX5_countWaiting 0 = .ok (.aload_n 1, 1) := by decide +kernel
theorem dX5_countWaiting_1 : decode cX5_countWaiting 1 = .ok (.getfield 42, 3) := by decide +kernel
theorem dX5_countWaiting_4 : decode cX5_countWaiting 4 = .ok (.aload_n 0, 1) := by decide +kernel
theorem dX5_countWaiting_5 : decode cX5_countWaiting 5 = .ok (.getfield 39, 3) := by decide +kernel
theorem dX5_countWaiting_8 : decode cX5_countWaiting 8 = .ok (.isub, 1) := by decide +kernel
theorem dX5_countWaiting_9 : decode cX5_countWaiting 9 = .ok (.ireturn, 1) := by decide +kernel
theorem dX5_countWaitingFrom_0 : decode cX5_countWaitingFrom 0 = .ok (.iconst 0, 1) := by decide +kernel
theorem dX5_countWaitingFrom_1 : decode cX5_countWaitingFrom 1 = .ok (.istore_n 3, 1) := by decide +kernel
theorem dX5_countWaitingFrom_2 : decode cX5_countWaitingFrom 2 = .ok (.aload_n 0, 1) := by decide +kernel
theorem dX5_countWaitingFrom_3 : decode cX5_countWaitingFrom 3 = .ok (.getfield 39, 3) := by decide +kernel
theorem dX5_countWaitingFrom_6 : decode cX5_countWaitingFrom 6 = .ok (.istore 4, 2) := by decide +kernel
theorem dX5_countWaitingFrom_8 : decode cX5_countWaitingFrom 8 = .ok (.iload 4, 2) := by decide +kernel
theorem dX5_countWaitingFrom_10 : decode cX5_countWaitingFrom 10 = .ok (.aload_n 1, 1) := by decide +kernel
theorem dX5_countWaitingFrom_11 : decode cX5_countWaitingFrom 11 = .ok (.getfield 42, 3) := by decide +kernel
theorem dX5_countWaitingFrom_14 : decode cX5_countWaitingFrom 14 = .ok (.if_icmp .ge 26, 3) := by decide +kernel
theorem dX5_countWaitingFrom_17 : decode cX5_countWaitingFrom 17 = .ok (.aload_n 1, 1) := by decide +kernel
theorem dX5_countWaitingFrom_18 : decode cX5_countWaitingFrom 18 = .ok (.getfield 47, 3) := by decide +kernel
theorem dX5_countWaitingFrom_21 : decode cX5_countWaitingFrom 21 = .ok (.iload 4, 2) := by decide +kernel
theorem dX5_countWaitingFrom_23 : decode cX5_countWaitingFrom 23 = .ok (.invokestatic 51, 3) := by decide +kernel
theorem dX5_countWaitingFrom_26 : decode cX5_countWaitingFrom 26 = .ok (.iaload, 1) := by decide +kernel
theorem dX5_countWaitingFrom_27 : decode cX5_countWaitingFrom 27 = .ok (.iload_n 2, 1) := by decide +kernel
theorem dX5_countWaitingFrom_28 : decode cX5_countWaitingFrom 28 = .ok (.if_icmp .lt 6, 3) := by decide +kernel
theorem dX5_countWaitingFrom_31 : decode cX5_countWaitingFrom 31 = .ok (.iinc 3 1, 3) := by decide +kernel
theorem dX5_countWaitingFrom_34 : decode cX5_countWaitingFrom 34 = .ok (.iinc 4 1, 3) := by decide +kernel
theorem dX5_countWaitingFrom_37 : decode cX5_countWaitingFrom 37 = .ok (.goto (-29), 3) := by decide +kernel
theorem dX5_countWaitingFrom_40 : decode cX5_countWaitingFrom 40 = .ok (.iload_n 3, 1) := by decide +kernel
theorem dX5_countWaitingFrom_41 : decode cX5_countWaitingFrom 41 = .ok (.ireturn, 1) := by decide +kernel
theorem dX5_seeWaiting_0 : decode cX5_seeWaiting 0 = .ok (.aload_n 0, 1) := by decide +kernel
theorem dX5_seeWaiting_1 : decode cX5_seeWaiting 1 = .ok (.getfield 39, 3) := by decide +kernel
theorem dX5_seeWaiting_4 : decode cX5_seeWaiting 4 = .ok (.istore_n 2, 1) := by decide +kernel
theorem dX5_seeWaiting_5 : decode cX5_seeWaiting 5 = .ok (.iload_n 2, 1) := by decide +kernel
theorem dX5_seeWaiting_6 : decode cX5_seeWaiting 6 = .ok (.aload_n 1, 1) := by decide +kernel
theorem dX5_seeWaiting_7 : decode cX5_seeWaiting 7 = .ok (.getfield 42, 3) := by decide +kernel
theorem dX5_seeWaiting_10 : decode cX5_seeWaiting 10 = .ok (.if_icmp .ge 87, 3) := by decide +kernel
theorem dX5_seeWaiting_13 : decode cX5_seeWaiting 13 = .ok (.iload_n 2, 1) := by decide +kernel
theorem dX5_seeWaiting_14 : decode cX5_seeWaiting 14 = .ok (.invokestatic 51, 3) := by decide +kernel
theorem dX5_seeWaiting_17 : decode cX5_seeWaiting 17 = .ok (.istore_n 3, 1) := by decide +kernel
theorem dX5_seeWaiting_18 : decode cX5_seeWaiting 18 = .ok (.aload_n 1, 1) := by decide +kernel
theorem dX5_seeWaiting_19 : decode cX5_seeWaiting 19 = .ok (.getfield 55, 3) := by decide +kernel
theorem dX5_seeWaiting_22 : decode cX5_seeWaiting 22 = .ok (.iload_n 3, 1) := by decide +kernel
theorem dX5_seeWaiting_23 : decode cX5_seeWaiting 23 = .ok (.iaload, 1) := by decide +kernel
theorem dX5_seeWaiting_24 : decode cX5_seeWaiting 24 = .ok (.istore 4, 2) := by decide +kernel
theorem dX5_seeWaiting_26 : decode cX5_seeWaiting 26 = .ok (.aload_n 1, 1) := by decide +kernel
theorem dX5_seeWaiting_27 : decode cX5_seeWaiting 27 = .ok (.getfield 47, 3) := by decide +kernel
theorem dX5_seeWaiting_30 : decode cX5_seeWaiting 30 = .ok (.iload_n 3, 1) := by decide +kernel
theorem dX5_seeWaiting_31 : decode cX5_seeWaiting 31 = .ok (.iaload, 1) := by decide +kernel
theorem dX5_seeWaiting_32 : decode cX5_seeWaiting 32 = .ok (.istore 5, 2) := by decide +kernel
theorem dX5_seeWaiting_34 : decode cX5_seeWaiting 34 = .ok (.iload 5, 2) := by decide +kernel
theorem dX5_seeWaiting_36 : decode cX5_seeWaiting 36 = .ok (.aload_n 0, 1) := by decide +kernel
theorem dX5_seeWaiting_37 : decode cX5_seeWaiting 37 = .ok (.getfield 17, 3) := by decide +kernel
theorem dX5_seeWaiting_40 : decode cX5_seeWaiting 40 = .ok (.if_icmp .lt 51, 3) := by decide +kernel
theorem dX5_seeWaiting_43 : decode cX5_seeWaiting 43 = .ok (.iload 4, 2) := by decide +kernel
theorem dX5_seeWaiting_45 : decode cX5_seeWaiting 45 = .ok (.ifCond .lt 46, 3) := by decide +kernel
theorem dX5_seeWaiting_48 : decode cX5_seeWaiting 48 = .ok (.iload 4, 2) := by decide +kernel
theorem dX5_seeWaiting_50 : decode cX5_seeWaiting 50 = .ok (.iconst 4, 1) := by decide +kernel
theorem dX5_seeWaiting_51 : decode cX5_seeWaiting 51 = .ok (.if_icmp .ge 40, 3) := by decide +kernel
theorem dX5_seeWaiting_54 : decode cX5_seeWaiting 54 = .ok (.aload_n 1, 1) := by decide +kernel
theorem dX5_seeWaiting_55 : decode cX5_seeWaiting 55 = .ok (.getfield 58, 3) := by decide +kernel
theorem dX5_seeWaiting_58 : decode cX5_seeWaiting 58 = .ok (.iload_n 3, 1) := by decide +kernel
theorem dX5_seeWaiting_59 : decode cX5_seeWaiting 59 = .ok (.iaload, 1) := by decide +kernel
theorem dX5_seeWaiting_60 : decode cX5_seeWaiting 60 = .ok (.iconst 1, 1) := by decide +kernel
theorem dX5_seeWaiting_61 : decode cX5_seeWaiting 61 = .ok (.if_icmp .ne 18, 3) := by decide +kernel
theorem dX5_seeWaiting_64 : decode cX5_seeWaiting 64 = .ok (.aload_n 0, 1) := by decide +kernel
theorem dX5_seeWaiting_65 : decode cX5_seeWaiting 65 = .ok (.getfield 11, 3) := by decide +kernel
theorem dX5_seeWaiting_68 : decode cX5_seeWaiting 68 = .ok (.iload 4, 2) := by decide +kernel
theorem dX5_seeWaiting_70 : decode cX5_seeWaiting 70 = .ok (.aaload, 1) := by decide +kernel
theorem dX5_seeWaiting_71 : decode cX5_seeWaiting 71 = .ok (.iload 5, 2) := by decide +kernel
theorem dX5_seeWaiting_73 : decode cX5_seeWaiting 73 = .ok (.invokevirtual 61, 3) := by decide +kernel
theorem dX5_seeWaiting_76 : decode cX5_seeWaiting 76 = .ok (.goto 15, 3) := by decide +kernel
theorem dX5_seeWaiting_79 : decode cX5_seeWaiting 79 = .ok (.aload_n 0, 1) := by decide +kernel
theorem dX5_seeWaiting_80 : decode cX5_seeWaiting 80 = .ok (.getfield 11, 3) := by decide +kernel
theorem dX5_seeWaiting_83 : decode cX5_seeWaiting 83 = .ok (.iload 4, 2) := by decide +kernel
theorem dX5_seeWaiting_85 : decode cX5_seeWaiting 85 = .ok (.aaload, 1) := by decide +kernel
theorem dX5_seeWaiting_86 : decode cX5_seeWaiting 86 = .ok (.iload 5, 2) := by decide +kernel
theorem dX5_seeWaiting_88 : decode cX5_seeWaiting 88 = .ok (.invokevirtual 65, 3) := by decide +kernel
theorem dX5_seeWaiting_91 : decode cX5_seeWaiting 91 = .ok (.iinc 2 1, 3) := by decide +kernel
theorem dX5_seeWaiting_94 : decode cX5_seeWaiting 94 = .ok (.goto (-89), 3) := by decide +kernel
theorem dX5_seeWaiting_97 : decode cX5_seeWaiting 97 = .ok (.aload_n 0, 1) := by decide +kernel
theorem dX5_seeWaiting_98 : decode cX5_seeWaiting 98 = .ok (.aload_n 1, 1) := by decide +kernel
theorem dX5_seeWaiting_99 : decode cX5_seeWaiting 99 = .ok (.getfield 42, 3) := by decide +kernel
theorem dX5_seeWaiting_102 : decode cX5_seeWaiting 102 = .ok (.putfield 39, 3) := by decide +kernel
theorem dX5_seeWaiting_105 : decode cX5_seeWaiting 105 = .ok (.return_, 1) := by decide +kernel
theorem dX5_holdWhatTableTells_0 : decode cX5_holdWhatTableTells 0 = .ok (.iconst 0, 1) := by decide +kernel
theorem dX5_holdWhatTableTells_1 : decode cX5_holdWhatTableTells 1 = .ok (.istore_n 3, 1) := by decide +kernel
theorem dX5_holdWhatTableTells_2 : decode cX5_holdWhatTableTells 2 = .ok (.iload_n 3, 1) := by decide +kernel
theorem dX5_holdWhatTableTells_3 : decode cX5_holdWhatTableTells 3 = .ok (.iconst 4, 1) := by decide +kernel
theorem dX5_holdWhatTableTells_4 : decode cX5_holdWhatTableTells 4 = .ok (.if_icmp .ge 24, 3) := by decide +kernel
theorem dX5_holdWhatTableTells_7 : decode cX5_holdWhatTableTells 7 = .ok (.aload_n 0, 1) := by decide +kernel
theorem dX5_holdWhatTableTells_8 : decode cX5_holdWhatTableTells 8 = .ok (.getfield 11, 3) := by decide +kernel
theorem dX5_holdWhatTableTells_11 : decode cX5_holdWhatTableTells 11 = .ok (.iload_n 3, 1) := by decide +kernel
theorem dX5_holdWhatTableTells_12 : decode cX5_holdWhatTableTells 12 = .ok (.aaload, 1) := by decide +kernel
theorem dX5_holdWhatTableTells_13 : decode cX5_holdWhatTableTells 13 = .ok (.aload_n 1, 1) := by decide +kernel
theorem dX5_holdWhatTableTells_14 : decode cX5_holdWhatTableTells 14 = .ok (.iload_n 3, 1) := by decide +kernel
theorem dX5_holdWhatTableTells_15 : decode cX5_holdWhatTableTells 15 = .ok (.aload_n 0, 1) := by decide +kernel
theorem dX5_holdWhatTableTells_16 : decode cX5_holdWhatTableTells 16 = .ok (.getfield 17, 3) := by decide +kernel
theorem dX5_holdWhatTableTells_19 : decode cX5_holdWhatTableTells 19 = .ok (.invokevirtual 68, 3) := by decide +kernel
theorem dX5_holdWhatTableTells_22 : decode cX5_holdWhatTableTells 22 = .ok (.iinc 3 1, 3) := by decide +kernel
theorem dX5_holdWhatTableTells_25 : decode cX5_holdWhatTableTells 25 = .ok (.goto (-23), 3) := by decide +kernel
theorem dX5_holdWhatTableTells_28 : decode cX5_holdWhatTableTells 28 = .ok (.aload_n 0, 1) := by decide +kernel
theorem dX5_holdWhatTableTells_29 : decode cX5_holdWhatTableTells 29 = .ok (.aload_n 2, 1) := by decide +kernel
theorem dX5_holdWhatTableTells_30 : decode cX5_holdWhatTableTells 30 = .ok (.getfield 42, 3) := by decide +kernel
theorem dX5_holdWhatTableTells_33 : decode cX5_holdWhatTableTells 33 = .ok (.putfield 39, 3) := by decide +kernel
theorem dX5_holdWhatTableTells_36 : decode cX5_holdWhatTableTells 36 = .ok (.return_, 1) := by decide +kernel
theorem dX6_init_0 : decode cX6_init 0 = .ok (.aload_n 0, 1) := by decide +kernel
theorem dX6_init_1 : decode cX6_init 1 = .ok (.invokespecial 1, 3) := by decide +kernel
theorem dX6_init_4 : decode cX6_init 4 = .ok (.aload_n 0, 1) := by decide +kernel
theorem dX6_init_5 : decode cX6_init 5 = .ok (.new 7, 3) := by decide +kernel
theorem dX6_init_8 : decode cX6_init 8 = .ok (.dup, 1) := by decide +kernel
theorem dX6_init_9 : decode cX6_init 9 = .ok (.invokespecial 9, 3) := by decide +kernel
theorem dX6_init_12 : decode cX6_init 12 = .ok (.putfield 10, 3) := by decide +kernel
theorem dX6_init_15 : decode cX6_init 15 = .ok (.aload_n 0, 1) := by decide +kernel
theorem dX6_init_16 : decode cX6_init 16 = .ok (.iconst 5, 1) := by decide +kernel
theorem dX6_init_17 : decode cX6_init 17 = .ok (.anewarray 7, 3) := by decide +kernel
theorem dX6_init_20 : decode cX6_init 20 = .ok (.putfield 16, 3) := by decide +kernel
theorem dX6_init_23 : decode cX6_init 23 = .ok (.iconst 0, 1) := by decide +kernel
theorem dX6_init_24 : decode cX6_init 24 = .ok (.istore_n 1, 1) := by decide +kernel
theorem dX6_init_25 : decode cX6_init 25 = .ok (.iload_n 1, 1) := by decide +kernel
theorem dX6_init_26 : decode cX6_init 26 = .ok (.aload_n 0, 1) := by decide +kernel
theorem dX6_init_27 : decode cX6_init 27 = .ok (.getfield 16, 3) := by decide +kernel
theorem dX6_init_30 : decode cX6_init 30 = .ok (.arraylength, 1) := by decide +kernel
theorem dX6_init_31 : decode cX6_init 31 = .ok (.if_icmp .ge 22, 3) := by decide +kernel
theorem dX6_init_34 : decode cX6_init 34 = .ok (.aload_n 0, 1) := by decide +kernel
theorem dX6_init_35 : decode cX6_init 35 = .ok (.getfield 16, 3) := by decide +kernel
theorem dX6_init_38 : decode cX6_init 38 = .ok (.iload_n 1, 1) := by decide +kernel
theorem dX6_init_39 : decode cX6_init 39 = .ok (.new 7, 3) := by decide +kernel
theorem dX6_init_42 : decode cX6_init 42 = .ok (.dup, 1) := by decide +kernel
theorem dX6_init_43 : decode cX6_init 43 = .ok (.invokespecial 9, 3) := by decide +kernel
theorem dX6_init_46 : decode cX6_init 46 = .ok (.aastore, 1) := by decide +kernel
theorem dX6_init_47 : decode cX6_init 47 = .ok (.iinc 1 1, 3) := by decide +kernel
theorem dX6_init_50 : decode cX6_init 50 = .ok (.goto (-25), 3) := by decide +kernel
theorem dX6_init_53 : decode cX6_init 53 = .ok (.aload_n 0, 1) := by decide +kernel
theorem dX6_init_54 : decode cX6_init 54 = .ok (.iconst 0, 1) := by decide +kernel
theorem dX6_init_55 : decode cX6_init 55 = .ok (.putfield 20, 3) := by decide +kernel
theorem dX6_init_58 : decode cX6_init 58 = .ok (.aload_n 0, 1) := by decide +kernel
theorem dX6_init_59 : decode cX6_init 59 = .ok (.new 7, 3) := by decide +kernel
theorem dX6_init_62 : decode cX6_init 62 = .ok (.dup, 1) := by decide +kernel
theorem dX6_init_63 : decode cX6_init 63 = .ok (.invokespecial 9, 3) := by decide +kernel
theorem dX6_init_66 : decode cX6_init 66 = .ok (.putfield 24, 3) := by decide +kernel
theorem dX6_init_69 : decode cX6_init 69 = .ok (.aload_n 0, 1) := by decide +kernel
theorem dX6_init_70 : decode cX6_init 70 = .ok (.iconst 0, 1) := by decide +kernel
theorem dX6_init_71 : decode cX6_init 71 = .ok (.putfield 27, 3) := by decide +kernel
theorem dX6_init_74 : decode cX6_init 74 = .ok (.aload_n 0, 1) := by decide +kernel
theorem dX6_init_75 : decode cX6_init 75 = .ok (.new 31, 3) := by decide +kernel
theorem dX6_init_78 : decode cX6_init 78 = .ok (.dup, 1) := by decide +kernel
theorem dX6_init_79 : decode cX6_init 79 = .ok (.invokespecial 33, 3) := by decide +kernel
theorem dX6_init_82 : decode cX6_init 82 = .ok (.putfield 34, 3) := by decide +kernel
theorem dX6_init_85 : decode cX6_init 85 = .ok (.aload_n 0, 1) := by decide +kernel
theorem dX6_init_86 : decode cX6_init 86 = .ok (.new 38, 3) := by decide +kernel
theorem dX6_init_89 : decode cX6_init 89 = .ok (.dup, 1) := by decide +kernel
theorem dX6_init_90 : decode cX6_init 90 = .ok (.invokespecial 40, 3) := by decide +kernel
theorem dX6_init_93 : decode cX6_init 93 = .ok (.putfield 41, 3) := by decide +kernel
theorem dX6_init_96 : decode cX6_init 96 = .ok (.aload_n 0, 1) := by decide +kernel
theorem dX6_init_97 : decode cX6_init 97 = .ok (.new 45, 3) := by decide +kernel
theorem dX6_init_100 : decode cX6_init 100 = .ok (.dup, 1) := by decide +kernel
theorem dX6_init_101 : decode cX6_init 101 = .ok (.invokespecial 47, 3) := by decide +kernel
theorem dX6_init_104 : decode cX6_init 104 = .ok (.putfield 48, 3) := by decide +kernel
theorem dX6_init_107 : decode cX6_init 107 = .ok (.return_, 1) := by decide +kernel
theorem dX6_insert_0 : decode cX6_insert 0 = .ok (.iload_n 1, 1) := by decide +kernel
theorem dX6_insert_1 : decode cX6_insert 1 = .ok (.invokestatic 52, 3) := by decide +kernel
theorem dX6_insert_4 : decode cX6_insert 4 = .ok (.iload_n 2, 1) := by decide +kernel
theorem dX6_insert_5 : decode cX6_insert 5 = .ok (.invokestatic 56, 3) := by decide +kernel
theorem dX6_insert_8 : decode cX6_insert 8 = .ok (.iload_n 3, 1) := by decide +kernel
theorem dX6_insert_9 : decode cX6_insert 9 = .ok (.invokestatic 59, 3) := by decide +kernel
theorem dX6_insert_12 : decode cX6_insert 12 = .ok (.aload_n 0, 1) := by decide +kernel
theorem dX6_insert_13 : decode cX6_insert 13 = .ok (.getfield 10, 3) := by decide +kernel
theorem dX6_insert_16 : decode cX6_insert 16 = .ok (.getfield 62, 3) := by decide +kernel
theorem dX6_insert_19 : decode cX6_insert 19 = .ok (.iload_n 1, 1) := by decide +kernel
theorem dX6_insert_20 : decode cX6_insert 20 = .ok (.invokevirtual 66, 3) := by decide +kernel
theorem dX6_insert_23 : decode cX6_insert 23 = .ok (.ifCond .ne 13, 3) := by decide +kernel
theorem dX6_insert_26 : decode cX6_insert 26 = .ok (.new 72, 3) := by decide +kernel
theorem dX6_insert_29 : decode cX6_insert 29 = .ok (.dup, 1) := by decide +kernel
theorem dX6_insert_30 : decode cX6_insert 30 = .ok (.ldc 74, 2) := by decide +kernel
theorem dX6_insert_32 : decode cX6_insert 32 = .ok (.invokespecial 76, 3) := by decide +kernel
theorem dX6_insert_35 : decode cX6_insert 35 = .ok (.athrow, 1) := by decide +kernel
theorem dX6_insert_36 : decode cX6_insert 36 = .ok (.aload_n 0, 1) := by decide +kernel
theorem dX6_insert_37 : decode cX6_insert 37 = .ok (.invokevirtual 79, 3) := by decide +kernel
theorem dX6_insert_40 : decode cX6_insert 40 = .ok (.aload_n 0, 1) := by decide +kernel
theorem dX6_insert_41 : decode cX6_insert 41 = .ok (.getfield 10, 3) := by decide +kernel
theorem dX6_insert_44 : decode cX6_insert 44 = .ok (.iload_n 1, 1) := by decide +kernel
theorem dX6_insert_45 : decode cX6_insert 45 = .ok (.iload_n 2, 1) := by decide +kernel
theorem dX6_insert_46 : decode cX6_insert 46 = .ok (.iload_n 3, 1) := by decide +kernel
theorem dX6_insert_47 : decode cX6_insert 47 = .ok (.invokevirtual 82, 3) := by decide +kernel
theorem dX6_insert_50 : decode cX6_insert 50 = .ok (.aload_n 0, 1) := by decide +kernel
theorem dX6_insert_51 : decode cX6_insert 51 = .ok (.getfield 10, 3) := by decide +kernel
theorem dX6_insert_54 : decode cX6_insert 54 = .ok (.getfield 62, 3) := by decide +kernel
theorem dX6_insert_57 : decode cX6_insert 57 = .ok (.invokevirtual 86, 3) := by decide +kernel
theorem dX6_insert_60 : decode cX6_insert 60 = .ok (.ireturn, 1) := by decide +kernel
theorem dX6_change_0 : decode cX6_change 0 = .ok (.iload_n 1, 1) := by decide +kernel
theorem dX6_change_1 : decode cX6_change 1 = .ok (.invokestatic 52, 3) := by decide +kernel
theorem dX6_change_4 : decode cX6_change 4 = .ok (.iload_n 2, 1) := by decide +kernel
theorem dX6_change_5 : decode cX6_change 5 = .ok (.invokestatic 59, 3) := by decide +kernel
theorem dX6_change_8 : decode cX6_change 8 = .ok (.aload_n 0, 1) := by decide +kernel
theorem dX6_change_9 : decode cX6_change 9 = .ok (.iload_n 1, 1) := by decide +kernel
theorem dX6_change_10 : decode cX6_change 10 = .ok (.invokevirtual 90, 3) := by decide +kernel
theorem dX6_change_13 : decode cX6_change 13 = .ok (.aload_n 0, 1) := by decide +kernel
theorem dX6_change_14 : decode cX6_change 14 = .ok (.invokevirtual 79, 3) := by decide +kernel
theorem dX6_change_17 : decode cX6_change 17 = .ok (.aload_n 0, 1) := by decide +kernel
theorem dX6_change_18 : decode cX6_change 18 = .ok (.getfield 10, 3) := by decide +kernel
theorem dX6_change_21 : decode cX6_change 21 = .ok (.getfield 62, 3) := by decide +kernel
theorem dX6_change_24 : decode cX6_change 24 = .ok (.getfield 93, 3) := by decide +kernel
theorem dX6_change_27 : decode cX6_change 27 = .ok (.iload_n 1, 1) := by decide +kernel
theorem dX6_change_28 : decode cX6_change 28 = .ok (.iaload, 1) := by decide +kernel
theorem dX6_change_29 : decode cX6_change 29 = .ok (.istore_n 3, 1) := by decide +kernel
theorem dX6_change_30 : decode cX6_change 30 = .ok (.aload_n 0, 1) := by decide +kernel
theorem dX6_change_31 : decode cX6_change 31 = .ok (.getfield 10, 3) := by decide +kernel
theorem dX6_change_34 : decode cX6_change 34 = .ok (.iload_n 1, 1) := by decide +kernel
theorem dX6_change_35 : decode cX6_change 35 = .ok (.aload_n 0, 1) := by decide +kernel
theorem dX6_change_36 : decode cX6_change 36 = .ok (.getfield 10, 3) := by decide +kernel
theorem dX6_change_39 : decode cX6_change 39 = .ok (.getfield 62, 3) := by decide +kernel
theorem dX6_change_42 : decode cX6_change 42 = .ok (.getfield 97, 3) := by decide +kernel
theorem dX6_change_45 : decode cX6_change 45 = .ok (.iload_n 1, 1) := by decide +kernel
theorem dX6_change_46 : decode cX6_change 46 = .ok (.iaload, 1) := by decide +kernel
theorem dX6_change_47 : decode cX6_change 47 = .ok (.iload_n 2, 1) := by decide +kernel
theorem dX6_change_48 : decode cX6_change 48 = .ok (.invokevirtual 100, 3) := by decide +kernel
theorem dX6_change_51 : decode cX6_change 51 = .ok (.iload_n 3, 1) := by decide +kernel
theorem dX6_change_52 : decode cX6_change 52 = .ok (.ireturn, 1) := by decide +kernel
theorem dX6_regroup_0 : decode cX6_regroup 0 = .ok (.iload_n 1, 1) := by decide +kernel
theorem dX6_regroup_1 : decode cX6_regroup 1 = .ok (.invokestatic 52, 3) := by decide +kernel
theorem dX6_regroup_4 : decode cX6_regroup 4 = .ok (.iload_n 2, 1) := by decide +kernel
theorem dX6_regroup_5 : decode cX6_regroup 5 = .ok (.invokestatic 56, 3) := by decide +kernel
theorem dX6_regroup_8 : decode cX6_regroup 8 = .ok (.aload_n 0, 1) := by decide +kernel
theorem dX6_regroup_9 : decode cX6_regroup 9 = .ok (.iload_n 1, 1) := by decide +kernel
theorem dX6_regroup_10 : decode cX6_regroup 10 = .ok (.invokevirtual 90, 3) := by decide +kernel
theorem dX6_regroup_13 : decode cX6_regroup 13 = .ok (.aload_n 0, 1) := by decide +kernel
theorem dX6_regroup_14 : decode cX6_regroup 14 = .ok (.invokevirtual 79, 3) := by decide +kernel
theorem dX6_regroup_17 : decode cX6_regroup 17 = .ok (.aload_n 0, 1) := by decide +kernel
theorem dX6_regroup_18 : decode cX6_regroup 18 = .ok (.getfield 10, 3) := by decide +kernel
theorem dX6_regroup_21 : decode cX6_regroup 21 = .ok (.getfield 62, 3) := by decide +kernel
theorem dX6_regroup_24 : decode cX6_regroup 24 = .ok (.getfield 97, 3) := by decide +kernel
theorem dX6_regroup_27 : decode cX6_regroup 27 = .ok (.iload_n 1, 1) := by decide +kernel
theorem dX6_regroup_28 : decode cX6_regroup 28 = .ok (.iaload, 1) := by decide +kernel
theorem dX6_regroup_29 : decode cX6_regroup 29 = .ok (.istore_n 3, 1) := by decide +kernel
theorem dX6_regroup_30 : decode cX6_regroup 30 = .ok (.aload_n 0, 1) := by decide +kernel
theorem dX6_regroup_31 : decode cX6_regroup 31 = .ok (.getfield 10, 3) := by decide +kernel
theorem dX6_regroup_34 : decode cX6_regroup 34 = .ok (.iload_n 1, 1) := by decide +kernel
theorem dX6_regroup_35 : decode cX6_regroup 35 = .ok (.iload_n 2, 1) := by decide +kernel
theorem dX6_regroup_36 : decode cX6_regroup 36 = .ok (.aload_n 0, 1) := by decide +kernel
theorem dX6_regroup_37 : decode cX6_regroup 37 = .ok (.getfield 10, 3) := by decide +kernel
theorem dX6_regroup_40 : decode cX6_regroup 40 = .ok (.getfield 62, 3) := by decide +kernel
theorem dX6_regroup_43 : decode cX6_regroup 43 = .ok (.getfield 93, 3) := by decide +kernel
theorem dX6_regroup_46 : decode cX6_regroup 46 = .ok (.iload_n 1, 1) := by decide +kernel
theorem dX6_regroup_47 : decode cX6_regroup 47 = .ok (.iaload, 1) := by decide +kernel
theorem dX6_regroup_48 : decode cX6_regroup 48 = .ok (.invokevirtual 100, 3) := by decide +kernel
theorem dX6_regroup_51 : decode cX6_regroup 51 = .ok (.iload_n 3, 1) := by decide +kernel
theorem dX6_regroup_52 : decode cX6_regroup 52 = .ok (.ireturn, 1) := by decide +kernel
theorem dX6_delete_0 : decode cX6_delete 0 = .ok (.iload_n 1, 1) := by decide +kernel
theorem dX6_delete_1 : decode cX6_delete 1 = .ok (.invokestatic 52, 3) := by decide +kernel
theorem dX6_delete_4 : decode cX6_delete 4 = .ok (.aload_n 0, 1) := by decide +kernel
theorem dX6_delete_5 : decode cX6_delete 5 = .ok (.iload_n 1, 1) := by decide +kernel
theorem dX6_delete_6 : decode cX6_delete 6 = .ok (.invokevirtual 90, 3) := by decide +kernel
theorem dX6_delete_9 : decode cX6_delete 9 = .ok (.aload_n 0, 1) := by decide +kernel
theorem dX6_delete_10 : decode cX6_delete 10 = .ok (.invokevirtual 79, 3) := by decide +kernel
theorem dX6_delete_13 : decode cX6_delete 13 = .ok (.aload_n 0, 1) := by decide +kernel
theorem dX6_delete_14 : decode cX6_delete 14 = .ok (.getfield 10, 3) := by decide +kernel
theorem dX6_delete_17 : decode cX6_delete 17 = .ok (.getfield 62, 3) := by decide +kernel
theorem dX6_delete_20 : decode cX6_delete 20 = .ok (.getfield 93, 3) := by decide +kernel
theorem dX6_delete_23 : decode cX6_delete 23 = .ok (.iload_n 1, 1) := by decide +kernel
theorem dX6_delete_24 : decode cX6_delete 24 = .ok (.iaload, 1) := by decide +kernel
theorem dX6_delete_25 : decode cX6_delete 25 = .ok (.istore_n 2, 1) := by decide +kernel
theorem dX6_delete_26 : decode cX6_delete 26 = .ok (.aload_n 0, 1) := by decide +kernel
theorem dX6_delete_27 : decode cX6_delete 27 = .ok (.getfield 10, 3) := by decide +kernel
theorem dX6_delete_30 : decode cX6_delete 30 = .ok (.iload_n 1, 1) := by decide +kernel
theorem dX6_delete_31 : decode cX6_delete 31 = .ok (.invokevirtual 103, 3) := by decide +kernel
theorem dX6_delete_34 : decode cX6_delete 34 = .ok (.iload_n 2, 1) := by decide +kernel
theorem dX6_delete_35 : decode cX6_delete 35 = .ok (.ireturn, 1) := by decide +kernel
theorem dX6_nap_0 : decode cX6_nap 0 = .ok (.iload_n 1, 1) := by decide +kernel
theorem dX6_nap_1 : decode cX6_nap 1 = .ok (.invokestatic 106, 3) := by decide +kernel
theorem dX6_nap_4 : decode cX6_nap 4 = .ok (.aload_n 0, 1) := by decide +kernel
theorem dX6_nap_5 : decode cX6_nap 5 = .ok (.getfield 10, 3) := by decide +kernel
theorem dX6_nap_8 : decode cX6_nap 8 = .ok (.getfield 109, 3) := by decide +kernel
theorem dX6_nap_11 : decode cX6_nap 11 = .ok (.iload_n 1, 1) := by decide +kernel
theorem dX6_nap_12 : decode cX6_nap 12 = .ok (.aaload, 1) := by decide +kernel
theorem dX6_nap_13 : decode cX6_nap 13 = .ok (.getfield 113, 3) := by decide +kernel
theorem dX6_nap_16 : decode cX6_nap 16 = .ok (.ifCond .eq 13, 3) := by decide +kernel
theorem dX6_nap_19 : decode cX6_nap 19 = .ok (.new 72, 3) := by decide +kernel
theorem dX6_nap_22 : decode cX6_nap 22 = .ok (.dup, 1) := by decide +kernel
theorem dX6_nap_23 : decode cX6_nap 23 = .ok (.ldc 116, 2) := by decide +kernel
theorem dX6_nap_25 : decode cX6_nap 25 = .ok (.invokespecial 76, 3) := by decide +kernel
theorem dX6_nap_28 : decode cX6_nap 28 = .ok (.athrow, 1) := by decide +kernel
theorem dX6_nap_29 : decode cX6_nap 29 = .ok (.aload_n 0, 1) := by decide +kernel
theorem dX6_nap_30 : decode cX6_nap 30 = .ok (.invokevirtual 79, 3) := by decide +kernel
theorem dX6_nap_33 : decode cX6_nap 33 = .ok (.aload_n 0, 1) := by decide +kernel
theorem dX6_nap_34 : decode cX6_nap 34 = .ok (.getfield 10, 3) := by decide +kernel
theorem dX6_nap_37 : decode cX6_nap 37 = .ok (.getfield 109, 3) := by decide +kernel
theorem dX6_nap_40 : decode cX6_nap 40 = .ok (.iload_n 1, 1) := by decide +kernel
theorem dX6_nap_41 : decode cX6_nap 41 = .ok (.aaload, 1) := by decide +kernel
theorem dX6_nap_42 : decode cX6_nap 42 = .ok (.invokevirtual 118, 3) := by decide +kernel
theorem dX6_nap_45 : decode cX6_nap 45 = .ok (.aload_n 0, 1) := by decide +kernel
theorem dX6_nap_46 : decode cX6_nap 46 = .ok (.getfield 10, 3) := by decide +kernel
theorem dX6_nap_49 : decode cX6_nap 49 = .ok (.invokevirtual 121, 3) := by decide +kernel
theorem dX6_nap_52 : decode cX6_nap 52 = .ok (.ireturn, 1) := by decide +kernel
theorem dX6_wake_0 : decode cX6_wake 0 = .ok (.iload_n 1, 1) := by decide +kernel
theorem dX6_wake_1 : decode cX6_wake 1 = .ok (.invokestatic 106, 3) := by decide +kernel
theorem dX6_wake_4 : decode cX6_wake 4 = .ok (.aload_n 0, 1) := by decide +kernel
theorem dX6_wake_5 : decode cX6_wake 5 = .ok (.getfield 10, 3) := by decide +kernel
theorem dX6_wake_8 : decode cX6_wake 8 = .ok (.getfield 109, 3) := by decide +kernel
theorem dX6_wake_11 : decode cX6_wake 11 = .ok (.iload_n 1, 1) := by decide +kernel
theorem dX6_wake_12 : decode cX6_wake 12 = .ok (.aaload, 1) := by decide +kernel
theorem dX6_wake_13 : decode cX6_wake 13 = .ok (.getfield 113, 3) := by decide +kernel
theorem dX6_wake_16 : decode cX6_wake 16 = .ok (.ifCond .ne 13, 3) := by decide +kernel
theorem dX6_wake_19 : decode cX6_wake 19 = .ok (.new 72, 3) := by decide +kernel
theorem dX6_wake_22 : decode cX6_wake 22 = .ok (.dup, 1) := by decide +kernel
theorem dX6_wake_23 : decode cX6_wake 23 = .ok (.ldc 124, 2) := by decide +kernel
theorem dX6_wake_25 : decode cX6_wake 25 = .ok (.invokespecial 76, 3) := by decide +kernel
theorem dX6_wake_28 : decode cX6_wake 28 = .ok (.athrow, 1) := by decide +kernel
theorem dX6_wake_29 : decode cX6_wake 29 = .ok (.aload_n 0, 1) := by decide +kernel
theorem dX6_wake_30 : decode cX6_wake 30 = .ok (.invokevirtual 79, 3) := by decide +kernel
theorem dX6_wake_33 : decode cX6_wake 33 = .ok (.aload_n 0, 1) := by decide +kernel
theorem dX6_wake_34 : decode cX6_wake 34 = .ok (.getfield 10, 3) := by decide +kernel
theorem dX6_wake_37 : decode cX6_wake 37 = .ok (.getfield 109, 3) := by decide +kernel
theorem dX6_wake_40 : decode cX6_wake 40 = .ok (.iload_n 1, 1) := by decide +kernel
theorem dX6_wake_41 : decode cX6_wake 41 = .ok (.aaload, 1) := by decide +kernel
theorem dX6_wake_42 : decode cX6_wake 42 = .ok (.aload_n 0, 1) := by decide +kernel
theorem dX6_wake_43 : decode cX6_wake 43 = .ok (.getfield 10, 3) := by decide +kernel
theorem dX6_wake_46 : decode cX6_wake 46 = .ok (.getfield 126, 3) := by decide +kernel
theorem dX6_wake_49 : decode cX6_wake 49 = .ok (.invokevirtual 130, 3) := by decide +kernel
theorem dX6_wake_52 : decode cX6_wake 52 = .ok (.istore_n 2, 1) := by decide +kernel
theorem dX6_wake_53 : decode cX6_wake 53 = .ok (.aload_n 0, 1) := by decide +kernel
theorem dX6_wake_54 : decode cX6_wake 54 = .ok (.getfield 10, 3) := by decide +kernel
theorem dX6_wake_57 : decode cX6_wake 57 = .ok (.aload_n 0, 1) := by decide +kernel
theorem dX6_wake_58 : decode cX6_wake 58 = .ok (.getfield 10, 3) := by decide +kernel
theorem dX6_wake_61 : decode cX6_wake 61 = .ok (.getfield 109, 3) := by decide +kernel
theorem dX6_wake_64 : decode cX6_wake 64 = .ok (.iload_n 1, 1) := by decide +kernel
theorem dX6_wake_65 : decode cX6_wake 65 = .ok (.aaload, 1) := by decide +kernel
theorem dX6_wake_66 : decode cX6_wake 66 = .ok (.invokevirtual 134, 3) := by decide +kernel
theorem dX6_wake_69 : decode cX6_wake 69 = .ok (.iload_n 2, 1) := by decide +kernel
theorem dX6_wake_70 : decode cX6_wake 70 = .ok (.ireturn, 1) := by decide +kernel
theorem dX6_refresh_0 : decode cX6_refresh 0 = .ok (.iload_n 1, 1) := by decide +kernel
theorem dX6_refresh_1 : decode cX6_refresh 1 = .ok (.invokestatic 106, 3) := by decide +kernel
theorem dX6_refresh_4 : decode cX6_refresh 4 = .ok (.aload_n 0, 1) := by decide +kernel
theorem dX6_refresh_5 : decode cX6_refresh 5 = .ok (.invokevirtual 79, 3) := by decide +kernel
theorem dX6_refresh_8 : decode cX6_refresh 8 = .ok (.aload_n 0, 1) := by decide +kernel
theorem dX6_refresh_9 : decode cX6_refresh 9 = .ok (.getfield 10, 3) := by decide +kernel
theorem dX6_refresh_12 : decode cX6_refresh 12 = .ok (.getfield 109, 3) := by decide +kernel
theorem dX6_refresh_15 : decode cX6_refresh 15 = .ok (.iload_n 1, 1) := by decide +kernel
theorem dX6_refresh_16 : decode cX6_refresh 16 = .ok (.aaload, 1) := by decide +kernel
theorem dX6_refresh_17 : decode cX6_refresh 17 = .ok (.aload_n 0, 1) := by decide +kernel
theorem dX6_refresh_18 : decode cX6_refresh 18 = .ok (.getfield 10, 3) := by decide +kernel
theorem dX6_refresh_21 : decode cX6_refresh 21 = .ok (.getfield 126, 3) := by decide +kernel
theorem dX6_refresh_24 : decode cX6_refresh 24 = .ok (.invokevirtual 130, 3) := by decide +kernel
theorem dX6_refresh_27 : decode cX6_refresh 27 = .ok (.istore_n 2, 1) := by decide +kernel
theorem dX6_refresh_28 : decode cX6_refresh 28 = .ok (.aload_n 0, 1) := by decide +kernel
theorem dX6_refresh_29 : decode cX6_refresh 29 = .ok (.getfield 10, 3) := by decide +kernel
theorem dX6_refresh_32 : decode cX6_refresh 32 = .ok (.aload_n 0, 1) := by decide +kernel
theorem dX6_refresh_33 : decode cX6_refresh 33 = .ok (.getfield 10, 3) := by decide +kernel
theorem dX6_refresh_36 : decode cX6_refresh 36 = .ok (.getfield 109, 3) := by decide +kernel
theorem dX6_refresh_39 : decode cX6_refresh 39 = .ok (.iload_n 1, 1) := by decide +kernel
theorem dX6_refresh_40 : decode cX6_refresh 40 = .ok (.aaload, 1) := by decide +kernel
theorem dX6_refresh_41 : decode cX6_refresh 41 = .ok (.invokevirtual 138, 3) := by decide +kernel
theorem dX6_refresh_44 : decode cX6_refresh 44 = .ok (.iload_n 2, 1) := by decide +kernel
theorem dX6_refresh_45 : decode cX6_refresh 45 = .ok (.ireturn, 1) := by decide +kernel
theorem dX6_setFilter_0 : decode cX6_setFilter 0 = .ok (.iload_n 1, 1) := by decide +kernel
theorem dX6_setFilter_1 : decode cX6_setFilter 1 = .ok (.invokestatic 106, 3) := by decide +kernel
theorem dX6_setFilter_4 : decode cX6_setFilter 4 = .ok (.iload_n 2, 1) := by decide +kernel
theorem dX6_setFilter_5 : decode cX6_setFilter 5 = .ok (.invokestatic 59, 3) := by decide +kernel
theorem dX6_setFilter_8 : decode cX6_setFilter 8 = .ok (.aload_n 0, 1) := by decide +kernel
theorem dX6_setFilter_9 : decode cX6_setFilter 9 = .ok (.invokevirtual 79, 3) := by decide +kernel
theorem dX6_setFilter_12 : decode cX6_setFilter 12 = .ok (.aload_n 0, 1) := by decide +kernel
theorem dX6_setFilter_13 : decode cX6_setFilter 13 = .ok (.getfield 10, 3) := by decide +kernel
theorem dX6_setFilter_16 : decode cX6_setFilter 16 = .ok (.getfield 109, 3) := by decide +kernel
theorem dX6_setFilter_19 : decode cX6_setFilter 19 = .ok (.iload_n 1, 1) := by decide +kernel
theorem dX6_setFilter_20 : decode cX6_setFilter 20 = .ok (.aaload, 1) := by decide +kernel
theorem dX6_setFilter_21 : decode cX6_setFilter 21 = .ok (.getfield 141, 3) := by decide +kernel
theorem dX6_setFilter_24 : decode cX6_setFilter 24 = .ok (.istore_n 3, 1) := by decide +kernel
theorem dX6_setFilter_25 : decode cX6_setFilter 25 = .ok (.aload_n 0, 1) := by decide +kernel
theorem dX6_setFilter_26 : decode cX6_setFilter 26 = .ok (.getfield 10, 3) := by decide +kernel
theorem dX6_setFilter_29 : decode cX6_setFilter 29 = .ok (.getfield 109, 3) := by decide +kernel
theorem dX6_setFilter_32 : decode cX6_setFilter 32 = .ok (.iload_n 1, 1) := by decide +kernel
theorem dX6_setFilter_33 : decode cX6_setFilter 33 = .ok (.aaload, 1) := by decide +kernel
theorem dX6_setFilter_34 : decode cX6_setFilter 34 = .ok (.iload_n 2, 1) := by decide +kernel
theorem dX6_setFilter_35 : decode cX6_setFilter 35 = .ok (.putfield 141, 3) := by decide +kernel
theorem dX6_setFilter_38 : decode cX6_setFilter 38 = .ok (.aload_n 0, 1) := by decide +kernel
theorem dX6_setFilter_39 : decode cX6_setFilter 39 = .ok (.getfield 10, 3) := by decide +kernel
theorem dX6_setFilter_42 : decode cX6_setFilter 42 = .ok (.aload_n 0, 1) := by decide +kernel
theorem dX6_setFilter_43 : decode cX6_setFilter 43 = .ok (.getfield 10, 3) := by decide +kernel
theorem dX6_setFilter_46 : decode cX6_setFilter 46 = .ok (.getfield 109, 3) := by decide +kernel
theorem dX6_setFilter_49 : decode cX6_setFilter 49 = .ok (.iload_n 1, 1) := by decide +kernel
theorem dX6_setFilter_50 : decode cX6_setFilter 50 = .ok (.aaload, 1) := by decide +kernel
theorem dX6_setFilter_51 : decode cX6_setFilter 51 = .ok (.invokevirtual 138, 3) := by decide +kernel
theorem dX6_setFilter_54 : decode cX6_setFilter 54 = .ok (.iload_n 3, 1) := by decide +kernel
theorem dX6_setFilter_55 : decode cX6_setFilter 55 = .ok (.ireturn, 1) := by decide +kernel
theorem dX6_setBehind_0 : decode cX6_setBehind 0 = .ok (.iload_n 1, 1) := by decide +kernel
theorem dX6_setBehind_1 : decode cX6_setBehind 1 = .ok (.invokestatic 106, 3) := by decide +kernel
theorem dX6_setBehind_4 : decode cX6_setBehind 4 = .ok (.iload_n 2, 1) := by decide +kernel
theorem dX6_setBehind_5 : decode cX6_setBehind 5 = .ok (.invokestatic 144, 3) := by decide +kernel
theorem dX6_setBehind_8 : decode cX6_setBehind 8 = .ok (.aload_n 0, 1) := by decide +kernel
theorem dX6_setBehind_9 : decode cX6_setBehind 9 = .ok (.invokevirtual 79, 3) := by decide +kernel
theorem dX6_setBehind_12 : decode cX6_setBehind 12 = .ok (.aload_n 0, 1) := by decide +kernel
theorem dX6_setBehind_13 : decode cX6_setBehind 13 = .ok (.getfield 10, 3) := by decide +kernel
theorem dX6_setBehind_16 : decode cX6_setBehind 16 = .ok (.getfield 109, 3) := by decide +kernel
theorem dX6_setBehind_19 : decode cX6_setBehind 19 = .ok (.iload_n 1, 1) := by decide +kernel
theorem dX6_setBehind_20 : decode cX6_setBehind 20 = .ok (.aaload, 1) := by decide +kernel
theorem dX6_setBehind_21 : decode cX6_setBehind 21 = .ok (.getfield 147, 3) := by decide +kernel
theorem dX6_setBehind_24 : decode cX6_setBehind 24 = .ok (.istore_n 3, 1) := by decide +kernel
theorem dX6_setBehind_25 : decode cX6_setBehind 25 = .ok (.aload_n 0, 1) := by decide +kernel
theorem dX6_setBehind_26 : decode cX6_setBehind 26 = .ok (.getfield 10, 3) := by decide +kernel
theorem dX6_setBehind_29 : decode cX6_setBehind 29 = .ok (.getfield 109, 3) := by decide +kernel
theorem dX6_setBehind_32 : decode cX6_setBehind 32 = .ok (.iload_n 1, 1) := by decide +kernel
theorem dX6_setBehind_33 : decode cX6_setBehind 33 = .ok (.aaload, 1) := by decide +kernel
theorem dX6_setBehind_34 : decode cX6_setBehind 34 = .ok (.iload_n 2, 1) := by decide +kernel
theorem dX6_setBehind_35 : decode cX6_setBehind 35 = .ok (.putfield 147, 3) := by decide +kernel
theorem dX6_setBehind_38 : decode cX6_setBehind 38 = .ok (.aload_n 0, 1) := by decide +kernel
theorem dX6_setBehind_39 : decode cX6_setBehind 39 = .ok (.getfield 10, 3) := by decide +kernel
theorem dX6_setBehind_42 : decode cX6_setBehind 42 = .ok (.invokevirtual 150, 3) := by decide +kernel
theorem dX6_setBehind_45 : decode cX6_setBehind 45 = .ok (.iload_n 3, 1) := by decide +kernel
theorem dX6_setBehind_46 : decode cX6_setBehind 46 = .ok (.ireturn, 1) := by decide +kernel
theorem dX6_setLongest_0 : decode cX6_setLongest 0 = .ok (.iload_n 1, 1) := by decide +kernel
theorem dX6_setLongest_1 : decode cX6_setLongest 1 = .ok (.invokestatic 106, 3) := by decide +kernel
theorem dX6_setLongest_4 : decode cX6_setLongest 4 = .ok (.iload_n 2, 1) := by decide +kernel
theorem dX6_setLongest_5 : decode cX6_setLongest 5 = .ok (.invokestatic 144, 3) := by decide +kernel
theorem dX6_setLongest_8 : decode cX6_setLongest 8 = .ok (.aload_n 0, 1) := by decide +kernel
theorem dX6_setLongest_9 : decode cX6_setLongest 9 = .ok (.invokevirtual 79, 3) := by decide +kernel
theorem dX6_setLongest_12 : decode cX6_setLongest 12 = .ok (.aload_n 0, 1) := by decide +kernel
theorem dX6_setLongest_13 : decode cX6_setLongest 13 = .ok (.getfield 10, 3) := by decide +kernel
theorem dX6_setLongest_16 : decode cX6_setLongest 16 = .ok (.getfield 109, 3) := by decide +kernel
theorem dX6_setLongest_19 : decode cX6_setLongest 19 = .ok (.iload_n 1, 1) := by decide +kernel
theorem dX6_setLongest_20 : decode cX6_setLongest 20 = .ok (.aaload, 1) := by decide +kernel
theorem dX6_setLongest_21 : decode cX6_setLongest 21 = .ok (.getfield 153, 3) := by decide +kernel
theorem dX6_setLongest_24 : decode cX6_setLongest 24 = .ok (.istore_n 3, 1) := by decide +kernel
theorem dX6_setLongest_25 : decode cX6_setLongest 25 = .ok (.aload_n 0, 1) := by decide +kernel
theorem dX6_setLongest_26 : decode cX6_setLongest 26 = .ok (.getfield 10, 3) := by decide +kernel
theorem dX6_setLongest_29 : decode cX6_setLongest 29 = .ok (.getfield 109, 3) := by decide +kernel
theorem dX6_setLongest_32 : decode cX6_setLongest 32 = .ok (.iload_n 1, 1) := by decide +kernel
theorem dX6_setLongest_33 : decode cX6_setLongest 33 = .ok (.aaload, 1) := by decide +kernel
theorem dX6_setLongest_34 : decode cX6_setLongest 34 = .ok (.iload_n 2, 1) := by decide +kernel
theorem dX6_setLongest_35 : decode cX6_setLongest 35 = .ok (.putfield 153, 3) := by decide +kernel
theorem dX6_setLongest_38 : decode cX6_setLongest 38 = .ok (.iload_n 3, 1) := by decide +kernel
theorem dX6_setLongest_39 : decode cX6_setLongest 39 = .ok (.ireturn, 1) := by decide +kernel
theorem dX6_pass_0 : decode cX6_pass 0 = .ok (.iload_n 1, 1) := by decide +kernel
theorem dX6_pass_1 : decode cX6_pass 1 = .ok (.iconst 1, 1) := by decide +kernel
theorem dX6_pass_2 : decode cX6_pass 2 = .ok (.if_icmp .lt 9, 3) := by decide +kernel
theorem dX6_pass_5 : decode cX6_pass 5 = .ok (.iload_n 1, 1) := by decide +kernel
theorem dX6_pass_6 : decode cX6_pass 6 = .ok (.bipush 30, 2) := by decide +kernel
theorem dX6_pass_8 : decode cX6_pass 8 = .ok (.if_icmp .le 13, 3) := by decide +kernel
theorem dX6_pass_11 : decode cX6_pass 11 = .ok (.new 156, 3) := by decide +kernel
theorem dX6_pass_14 : decode cX6_pass 14 = .ok (.dup, 1) := by decide +kernel
theorem dX6_pass_15 : decode cX6_pass 15 = .ok (.ldc 158, 2) := by decide +kernel
theorem dX6_pass_17 : decode cX6_pass 17 = .ok (.invokespecial 160, 3) := by decide +kernel
theorem dX6_pass_20 : decode cX6_pass 20 = .ok (.athrow, 1) := by decide +kernel
theorem dX6_pass_21 : decode cX6_pass 21 = .ok (.aload_n 0, 1) := by decide +kernel
theorem dX6_pass_22 : decode cX6_pass 22 = .ok (.invokevirtual 79, 3) := by decide +kernel
theorem dX6_pass_25 : decode cX6_pass 25 = .ok (.aload_n 0, 1) := by decide +kernel
theorem dX6_pass_26 : decode cX6_pass 26 = .ok (.getfield 10, 3) := by decide +kernel
theorem dX6_pass_29 : decode cX6_pass 29 = .ok (.iload_n 1, 1) := by decide +kernel
theorem dX6_pass_30 : decode cX6_pass 30 = .ok (.invokevirtual 161, 3) := by decide +kernel
theorem dX6_pass_33 : decode cX6_pass 33 = .ok (.ireturn, 1) := by decide +kernel
theorem dX6_append_0 : decode cX6_append 0 = .ok (.iload_n 1, 1) := by decide +kernel
theorem dX6_append_1 : decode cX6_append 1 = .ok (.bipush 33, 2) := by decide +kernel
theorem dX6_append_3 : decode cX6_append 3 = .ok (.if_icmp .lt 9, 3) := by decide +kernel
theorem dX6_append_6 : decode cX6_append 6 = .ok (.iload_n 1, 1) := by decide +kernel
theorem dX6_append_7 : decode cX6_append 7 = .ok (.bipush 126, 2) := by decide +kernel
theorem dX6_append_9 : decode cX6_append 9 = .ok (.if_icmp .le 13, 3) := by decide +kernel
theorem dX6_append_12 : decode cX6_append 12 = .ok (.new 156, 3) := by decide +kernel
theorem dX6_append_15 : decode cX6_append 15 = .ok (.dup, 1) := by decide +kernel
theorem dX6_append_16 : decode cX6_append 16 = .ok (.ldc 165, 2) := by decide +kernel
theorem dX6_append_18 : decode cX6_append 18 = .ok (.invokespecial 160, 3) := by decide +kernel
theorem dX6_append_21 : decode cX6_append 21 = .ok (.athrow, 1) := by decide +kernel
theorem dX6_append_22 : decode cX6_append 22 = .ok (.aload_n 0, 1) := by decide +kernel
theorem dX6_append_23 : decode cX6_append 23 = .ok (.getfield 34, 3) := by decide +kernel
theorem dX6_append_26 : decode cX6_append 26 = .ok (.getfield 167, 3) := by decide +kernel
theorem dX6_append_29 : decode cX6_append 29 = .ok (.bipush 60, 2) := by decide +kernel
theorem dX6_append_31 : decode cX6_append 31 = .ok (.if_icmp .lt 13, 3) := by decide +kernel
theorem dX6_append_34 : decode cX6_append 34 = .ok (.new 72, 3) := by decide +kernel
theorem dX6_append_37 : decode cX6_append 37 = .ok (.dup, 1) := by decide +kernel
theorem dX6_append_38 : decode cX6_append 38 = .ok (.ldc 170, 2) := by decide +kernel
theorem dX6_append_40 : decode cX6_append 40 = .ok (.invokespecial 76, 3) := by decide +kernel
theorem dX6_append_43 : decode cX6_append 43 = .ok (.athrow, 1) := by decide +kernel
theorem dX6_append_44 : decode cX6_append 44 = .ok (.aload_n 0, 1) := by decide +kernel
theorem dX6_append_45 : decode cX6_append 45 = .ok (.getfield 34, 3) := by decide +kernel
theorem dX6_append_48 : decode cX6_append 48 = .ok (.iload_n 1, 1) := by decide +kernel
theorem dX6_append_49 : decode cX6_append 49 = .ok (.invokevirtual 172, 3) := by decide +kernel
theorem dX6_append_52 : decode cX6_append 52 = .ok (.aload_n 0, 1) := by decide +kernel
theorem dX6_append_53 : decode cX6_append 53 = .ok (.getfield 34, 3) := by decide +kernel
theorem dX6_append_56 : decode cX6_append 56 = .ok (.getfield 167, 3) := by decide +kernel
theorem dX6_append_59 : decode cX6_append 59 = .ok (.ireturn, 1) := by decide +kernel
theorem dX6_clearBuffer_0 : decode cX6_clearBuffer 0 = .ok (.aload_n 0, 1) := by decide +kernel
theorem dX6_clearBuffer_1 : decode cX6_clearBuffer 1 = .ok (.getfield 34, 3) := by decide +kernel
theorem dX6_clearBuffer_4 : decode cX6_clearBuffer 4 = .ok (.getfield 167, 3) := by decide +kernel
theorem dX6_clearBuffer_7 : decode cX6_clearBuffer 7 = .ok (.istore_n 1, 1) := by decide +kernel
theorem dX6_clearBuffer_8 : decode cX6_clearBuffer 8 = .ok (.aload_n 0, 1) := by decide +kernel
theorem dX6_clearBuffer_9 : decode cX6_clearBuffer 9 = .ok (.getfield 34, 3) := by decide +kernel
theorem dX6_clearBuffer_12 : decode cX6_clearBuffer 12 = .ok (.iconst 0, 1) := by decide +kernel
theorem dX6_clearBuffer_13 : decode cX6_clearBuffer 13 = .ok (.putfield 167, 3) := by decide +kernel
theorem dX6_clearBuffer_16 : decode cX6_clearBuffer 16 = .ok (.iload_n 1, 1) := by decide +kernel
theorem dX6_clearBuffer_17 : decode cX6_clearBuffer 17 = .ok (.ireturn, 1) := by decide +kernel
theorem dX6_firstError_0 : decode cX6_firstError 0 = .ok (.aload_n 0, 1) := by decide +kernel
theorem dX6_firstError_1 : decode cX6_firstError 1 = .ok (.getfield 34, 3) := by decide +kernel
theorem dX6_firstError_4 : decode cX6_firstError 4 = .ok (.invokevirtual 175, 3) := by decide +kernel
theorem dX6_firstError_7 : decode cX6_firstError 7 = .ok (.pop, 1) := by decide +kernel
theorem dX6_firstError_8 : decode cX6_firstError 8 = .ok (.aload_n 0, 1) := by decide +kernel
theorem dX6_firstError_9 : decode cX6_firstError 9 = .ok (.getfield 34, 3) := by decide +kernel
theorem dX6_firstError_12 : decode cX6_firstError 12 = .ok (.getfield 179, 3) := by decide +kernel
theorem dX6_firstError_15 : decode cX6_firstError 15 = .ok (.ireturn, 1) := by decide +kernel
theorem dX6_replay_0 : decode cX6_replay 0 = .ok (.aload_n 0, 1) := by decide +kernel
theorem dX6_replay_1 : decode cX6_replay 1 = .ok (.getfield 34, 3) := by decide +kernel
theorem dX6_replay_4 : decode cX6_replay 4 = .ok (.invokevirtual 175, 3) := by decide +kernel
theorem dX6_replay_7 : decode cX6_replay 7 = .ok (.ifCond .ne 13, 3) := by decide +kernel
theorem dX6_replay_10 : decode cX6_replay 10 = .ok (.new 156, 3) := by decide +kernel
theorem dX6_replay_13 : decode cX6_replay 13 = .ok (.dup, 1) := by decide +kernel
theorem dX6_replay_14 : decode cX6_replay 14 = .ok (.ldc 182, 2) := by decide +kernel
theorem dX6_replay_16 : decode cX6_replay 16 = .ok (.invokespecial 160, 3) := by decide +kernel
theorem dX6_replay_19 : decode cX6_replay 19 = .ok (.athrow, 1) := by decide +kernel
theorem dX6_replay_20 : decode cX6_replay 20 = .ok (.aload_n 0, 1) := by decide +kernel
theorem dX6_replay_21 : decode cX6_replay 21 = .ok (.invokevirtual 79, 3) := by decide +kernel
theorem dX6_replay_24 : decode cX6_replay 24 = .ok (.aload_n 0, 1) := by decide +kernel
theorem dX6_replay_25 : decode cX6_replay 25 = .ok (.getfield 34, 3) := by decide +kernel
theorem dX6_replay_28 : decode cX6_replay 28 = .ok (.iconst 0, 1) := by decide +kernel
theorem dX6_replay_29 : decode cX6_replay 29 = .ok (.putfield 179, 3) := by decide +kernel
theorem dX6_replay_32 : decode cX6_replay 32 = .ok (.aload_n 0, 1) := by decide +kernel
theorem dX6_replay_33 : decode cX6_replay 33 = .ok (.getfield 10, 3) := by decide +kernel
theorem dX6_replay_36 : decode cX6_replay 36 = .ok (.iconst (-1), 1) := by decide +kernel
theorem dX6_replay_37 : decode cX6_replay 37 = .ok (.putfield 184, 3) := by decide +kernel
theorem dX6_replay_40 : decode cX6_replay 40 = .ok (.iconst 0, 1) := by decide +kernel
theorem dX6_replay_41 : decode cX6_replay 41 = .ok (.istore_n 1, 1) := by decide +kernel
theorem dX6_replay_42 : decode cX6_replay 42 = .ok (.iload_n 1, 1) := by decide +kernel
theorem dX6_replay_43 : decode cX6_replay 43 = .ok (.bipush 60, 2) := by decide +kernel
theorem dX6_replay_45 : decode cX6_replay 45 = .ok (.if_icmp .ge 55, 3) := by decide +kernel
theorem dX6_replay_48 : decode cX6_replay 48 = .ok (.aload_n 0, 1) := by decide +kernel
theorem dX6_replay_49 : decode cX6_replay 49 = .ok (.getfield 10, 3) := by decide +kernel
theorem dX6_replay_52 : decode cX6_replay 52 = .ok (.getfield 184, 3) := by decide +kernel
theorem dX6_replay_55 : decode cX6_replay 55 = .ok (.iconst (-1), 1) := by decide +kernel
theorem dX6_replay_56 : decode cX6_replay 56 = .ok (.if_icmp .ne 44, 3) := by decide +kernel
theorem dX6_replay_59 : decode cX6_replay 59 = .ok (.aload_n 0, 1) := by decide +kernel
theorem dX6_replay_60 : decode cX6_replay 60 = .ok (.getfield 34, 3) := by decide +kernel
theorem dX6_replay_63 : decode cX6_replay 63 = .ok (.invokevirtual 187, 3) := by decide +kernel
theorem dX6_replay_66 : decode cX6_replay 66 = .ok (.ifCond .eq 34, 3) := by decide +kernel
theorem dX6_replay_69 : decode cX6_replay 69 = .ok (.aload_n 0, 1) := by decide +kernel
theorem dX6_replay_70 : decode cX6_replay 70 = .ok (.getfield 10, 3) := by decide +kernel
theorem dX6_replay_73 : decode cX6_replay 73 = .ok (.aload_n 0, 1) := by decide +kernel
theorem dX6_replay_74 : decode cX6_replay 74 = .ok (.getfield 34, 3) := by decide +kernel
theorem dX6_replay_77 : decode cX6_replay 77 = .ok (.invokevirtual 190, 3) := by decide +kernel
theorem dX6_replay_80 : decode cX6_replay 80 = .ok (.ifCond .eq 9, 3) := by decide +kernel
theorem dX6_replay_83 : decode cX6_replay 83 = .ok (.iinc 1 1, 3) := by decide +kernel
theorem dX6_replay_86 : decode cX6_replay 86 = .ok (.goto (-44), 3) := by decide +kernel
theorem dX6_replay_89 : decode cX6_replay 89 = .ok (.aload_n 0, 1) := by decide +kernel
theorem dX6_replay_90 : decode cX6_replay 90 = .ok (.getfield 10, 3) := by decide +kernel
theorem dX6_replay_93 : decode cX6_replay 93 = .ok (.iload_n 1, 1) := by decide +kernel
theorem dX6_replay_94 : decode cX6_replay 94 = .ok (.putfield 184, 3) := by decide +kernel
theorem dX6_replay_97 : decode cX6_replay 97 = .ok (.goto (-55), 3) := by decide +kernel
theorem dX6_replay_100 : decode cX6_replay 100 = .ok (.aload_n 0, 1) := by decide +kernel
theorem dX6_replay_101 : decode cX6_replay 101 = .ok (.getfield 34, 3) := by decide +kernel
theorem dX6_replay_104 : decode cX6_replay 104 = .ok (.iconst 0, 1) := by decide +kernel
theorem dX6_replay_105 : decode cX6_replay 105 = .ok (.putfield 167, 3) := by decide +kernel
theorem dX6_replay_108 : decode cX6_replay 108 = .ok (.iload_n 1, 1) := by decide +kernel
theorem dX6_replay_109 : decode cX6_replay 109 = .ok (.ireturn, 1) := by decide +kernel
theorem dX6_hasStopped_0 : decode cX6_hasStopped 0 = .ok (.aload_n 0, 1) := by decide +kernel
theorem dX6_hasStopped_1 : decode cX6_hasStopped 1 = .ok (.getfield 10, 3) := by decide +kernel
theorem dX6_hasStopped_4 : decode cX6_hasStopped 4 = .ok (.getfield 184, 3) := by decide +kernel
theorem dX6_hasStopped_7 : decode cX6_hasStopped 7 = .ok (.iconst (-1), 1) := by decide +kernel
theorem dX6_hasStopped_8 : decode cX6_hasStopped 8 = .ok (.if_icmp .eq 7, 3) := by decide +kernel
theorem dX6_hasStopped_11 : decode cX6_hasStopped 11 = .ok (.iconst 1, 1) := by decide +kernel
theorem dX6_hasStopped_12 : decode cX6_hasStopped 12 = .ok (.goto 4, 3) := by decide +kernel
theorem dX6_hasStopped_15 : decode cX6_hasStopped 15 = .ok (.iconst 0, 1) := by decide +kernel
theorem dX6_hasStopped_16 : decode cX6_hasStopped 16 = .ok (.ireturn, 1) := by decide +kernel
theorem dX6_stoppedPart_0 : decode cX6_stoppedPart 0 = .ok (.aload_n 0, 1) := by decide +kernel
theorem dX6_stoppedPart_1 : decode cX6_stoppedPart 1 = .ok (.getfield 10, 3) := by decide +kernel
theorem dX6_stoppedPart_4 : decode cX6_stoppedPart 4 = .ok (.getfield 184, 3) := by decide +kernel
theorem dX6_stoppedPart_7 : decode cX6_stoppedPart 7 = .ok (.iconst (-1), 1) := by decide +kernel
theorem dX6_stoppedPart_8 : decode cX6_stoppedPart 8 = .ok (.if_icmp .ne 13, 3) := by decide +kernel
theorem dX6_stoppedPart_11 : decode cX6_stoppedPart 11 = .ok (.new 72, 3) := by decide +kernel
theorem dX6_stoppedPart_14 : decode cX6_stoppedPart 14 = .ok (.dup, 1) := by decide +kernel
theorem dX6_stoppedPart_15 : decode cX6_stoppedPart 15 = .ok (.ldc 194, 2) := by decide +kernel
theorem dX6_stoppedPart_17 : decode cX6_stoppedPart 17 = .ok (.invokespecial 76, 3) := by decide +kernel
theorem dX6_stoppedPart_20 : decode cX6_stoppedPart 20 = .ok (.athrow, 1) := by decide +kernel
theorem dX6_stoppedPart_21 : decode cX6_stoppedPart 21 = .ok (.aload_n 0, 1) := by decide +kernel
theorem dX6_stoppedPart_22 : decode cX6_stoppedPart 22 = .ok (.getfield 10, 3) := by decide +kernel
theorem dX6_stoppedPart_25 : decode cX6_stoppedPart 25 = .ok (.getfield 184, 3) := by decide +kernel
theorem dX6_stoppedPart_28 : decode cX6_stoppedPart 28 = .ok (.ireturn, 1) := by decide +kernel
theorem dX6_undo_0 : decode cX6_undo 0 = .ok (.aload_n 0, 1) := by decide +kernel
theorem dX6_undo_1 : decode cX6_undo 1 = .ok (.getfield 20, 3) := by decide +kernel
theorem dX6_undo_4 : decode cX6_undo 4 = .ok (.iconst 1, 1) := by decide +kernel
theorem dX6_undo_5 : decode cX6_undo 5 = .ok (.if_icmp .lt 15, 3) := by decide +kernel
theorem dX6_undo_8 : decode cX6_undo 8 = .ok (.aload_n 0, 1) := by decide +kernel
theorem dX6_undo_9 : decode cX6_undo 9 = .ok (.getfield 20, 3) := by decide +kernel
theorem dX6_undo_12 : decode cX6_undo 12 = .ok (.aload_n 0, 1) := by decide +kernel
theorem dX6_undo_13 : decode cX6_undo 13 = .ok (.getfield 16, 3) := by decide +kernel
theorem dX6_undo_16 : decode cX6_undo 16 = .ok (.arraylength, 1) := by decide +kernel
theorem dX6_undo_17 : decode cX6_undo 17 = .ok (.if_icmp .le 13, 3) := by decide +kernel
theorem dX6_undo_20 : decode cX6_undo 20 = .ok (.new 72, 3) := by decide +kernel
theorem dX6_undo_23 : decode cX6_undo 23 = .ok (.dup, 1) := by decide +kernel
theorem dX6_undo_24 : decode cX6_undo 24 = .ok (.ldc 196, 2) := by decide +kernel
theorem dX6_undo_26 : decode cX6_undo 26 = .ok (.invokespecial 76, 3) := by decide +kernel
theorem dX6_undo_29 : decode cX6_undo 29 = .ok (.athrow, 1) := by decide +kernel
theorem dX6_undo_30 : decode cX6_undo 30 = .ok (.aload_n 0, 1) := by decide +kernel
theorem dX6_undo_31 : decode cX6_undo 31 = .ok (.dup, 1) := by decide +kernel
theorem dX6_undo_32 : decode cX6_undo 32 = .ok (.getfield 20, 3) := by decide +kernel
theorem dX6_undo_35 : decode cX6_undo 35 = .ok (.iconst 1, 1) := by decide +kernel
theorem dX6_undo_36 : decode cX6_undo 36 = .ok (.isub, 1) := by decide +kernel
theorem dX6_undo_37 : decode cX6_undo 37 = .ok (.putfield 20, 3) := by decide +kernel
theorem dX6_undo_40 : decode cX6_undo 40 = .ok (.aload_n 0, 1) := by decide +kernel
theorem dX6_undo_41 : decode cX6_undo 41 = .ok (.getfield 10, 3) := by decide +kernel
theorem dX6_undo_44 : decode cX6_undo 44 = .ok (.aload_n 0, 1) := by decide +kernel
theorem dX6_undo_45 : decode cX6_undo 45 = .ok (.getfield 16, 3) := by decide +kernel
theorem dX6_undo_48 : decode cX6_undo 48 = .ok (.aload_n 0, 1) := by decide +kernel
theorem dX6_undo_49 : decode cX6_undo 49 = .ok (.getfield 20, 3) := by decide +kernel
theorem dX6_undo_52 : decode cX6_undo 52 = .ok (.aaload, 1) := by decide +kernel
theorem dX6_undo_53 : decode cX6_undo 53 = .ok (.invokevirtual 198, 3) := by decide +kernel
theorem dX6_undo_56 : decode cX6_undo 56 = .ok (.aload_n 0, 1) := by decide +kernel
theorem dX6_undo_57 : decode cX6_undo 57 = .ok (.getfield 20, 3) := by decide +kernel
theorem dX6_undo_60 : decode cX6_undo 60 = .ok (.ireturn, 1) := by decide +kernel
theorem dX6_keep_0 : decode cX6_keep 0 = .ok (.aload_n 0, 1) := by decide +kernel
theorem dX6_keep_1 : decode cX6_keep 1 = .ok (.getfield 24, 3) := by decide +kernel
theorem dX6_keep_4 : decode cX6_keep 4 = .ok (.aload_n 0, 1) := by decide +kernel
theorem dX6_keep_5 : decode cX6_keep 5 = .ok (.getfield 10, 3) := by decide +kernel
theorem dX6_keep_8 : decode cX6_keep 8 = .ok (.invokevirtual 198, 3) := by decide +kernel
theorem dX6_keep_11 : decode cX6_keep 11 = .ok (.aload_n 0, 1) := by decide +kernel
theorem dX6_keep_12 : decode cX6_keep 12 = .ok (.iconst 1, 1) := by decide +kernel
theorem dX6_keep_13 : decode cX6_keep 13 = .ok (.putfield 27, 3) := by decide +kernel
theorem dX6_keep_16 : decode cX6_keep 16 = .ok (.aload_n 0, 1) := by decide +kernel
theorem dX6_keep_17 : decode cX6_keep 17 = .ok (.getfield 10, 3) := by decide +kernel
theorem dX6_keep_20 : decode cX6_keep 20 = .ok (.getfield 62, 3) := by decide +kernel
theorem dX6_keep_23 : decode cX6_keep 23 = .ok (.invokevirtual 86, 3) := by decide +kernel
theorem dX6_keep_26 : decode cX6_keep 26 = .ok (.ireturn, 1) := by decide +kernel
theorem dX6_restore_0 : decode cX6_restore 0 = .ok (.aload_n 0, 1) := by decide +kernel
theorem dX6_restore_1 : decode cX6_restore 1 = .ok (.getfield 27, 3) := by decide +kernel
theorem dX6_restore_4 : decode cX6_restore 4 = .ok (.ifCond .ne 13, 3) := by decide +kernel
theorem dX6_restore_7 : decode cX6_restore 7 = .ok (.new 72, 3) := by decide +kernel
theorem dX6_restore_10 : decode cX6_restore 10 = .ok (.dup, 1) := by decide +kernel
theorem dX6_restore_11 : decode cX6_restore 11 = .ok (.ldc 202, 2) := by decide +kernel
theorem dX6_restore_13 : decode cX6_restore 13 = .ok (.invokespecial 76, 3) := by decide +kernel
theorem dX6_restore_16 : decode cX6_restore 16 = .ok (.athrow, 1) := by decide +kernel
theorem dX6_restore_17 : decode cX6_restore 17 = .ok (.aload_n 0, 1) := by decide +kernel
theorem dX6_restore_18 : decode cX6_restore 18 = .ok (.invokevirtual 79, 3) := by decide +kernel
theorem dX6_restore_21 : decode cX6_restore 21 = .ok (.aload_n 0, 1) := by decide +kernel
theorem dX6_restore_22 : decode cX6_restore 22 = .ok (.getfield 10, 3) := by decide +kernel
theorem dX6_restore_25 : decode cX6_restore 25 = .ok (.aload_n 0, 1) := by decide +kernel
theorem dX6_restore_26 : decode cX6_restore 26 = .ok (.getfield 24, 3) := by decide +kernel
theorem dX6_restore_29 : decode cX6_restore 29 = .ok (.invokevirtual 198, 3) := by decide +kernel
theorem dX6_restore_32 : decode cX6_restore 32 = .ok (.aload_n 0, 1) := by decide +kernel
theorem dX6_restore_33 : decode cX6_restore 33 = .ok (.getfield 10, 3) := by decide +kernel
theorem dX6_restore_36 : decode cX6_restore 36 = .ok (.getfield 62, 3) := by decide +kernel
theorem dX6_restore_39 : decode cX6_restore 39 = .ok (.invokevirtual 86, 3) := by decide +kernel
theorem dX6_restore_42 : decode cX6_restore 42 = .ok (.ireturn, 1) := by decide +kernel
theorem dX6_savedStates_0 : decode cX6_savedStates 0 = .ok (.aload_n 0, 1) := by decide +kernel
theorem dX6_savedStates_1 : decode cX6_savedStates 1 = .ok (.getfield 20, 3) := by decide +kernel
theorem dX6_savedStates_4 : decode cX6_savedStates 4 = .ok (.ireturn, 1) := by decide +kernel
theorem dX6_rows_0 : decode cX6_rows 0 = .ok (.aload_n 0, 1) := by decide +kernel
theorem dX6_rows_1 : decode cX6_rows 1 = .ok (.getfield 10, 3) := by decide +kernel
theorem dX6_rows_4 : decode cX6_rows 4 = .ok (.getfield 62, 3) := by decide +kernel
theorem dX6_rows_7 : decode cX6_rows 7 = .ok (.invokevirtual 86, 3) := by decide +kernel
theorem dX6_rows_10 : decode cX6_rows 10 = .ok (.ireturn, 1) := by decide +kernel
theorem dX6_isFree_0 : decode cX6_isFree 0 = .ok (.iload_n 1, 1) := by decide +kernel
theorem dX6_isFree_1 : decode cX6_isFree 1 = .ok (.invokestatic 52, 3) := by decide +kernel
theorem dX6_isFree_4 : decode cX6_isFree 4 = .ok (.aload_n 0, 1) := by decide +kernel
theorem dX6_isFree_5 : decode cX6_isFree 5 = .ok (.getfield 10, 3) := by decide +kernel
theorem dX6_isFree_8 : decode cX6_isFree 8 = .ok (.getfield 62, 3) := by decide +kernel
theorem dX6_isFree_11 : decode cX6_isFree 11 = .ok (.iload_n 1, 1) := by decide +kernel
theorem dX6_isFree_12 : decode cX6_isFree 12 = .ok (.invokevirtual 66, 3) := by decide +kernel
theorem dX6_isFree_15 : decode cX6_isFree 15 = .ok (.ireturn, 1) := by decide +kernel
theorem dX6_groupAt_0 : decode cX6_groupAt 0 = .ok (.iload_n 1, 1) := by decide +kernel
theorem dX6_groupAt_1 : decode cX6_groupAt 1 = .ok (.invokestatic 52, 3) := by decide +kernel
theorem dX6_groupAt_4 : decode cX6_groupAt 4 = .ok (.aload_n 0, 1) := by decide +kernel
theorem dX6_groupAt_5 : decode cX6_groupAt 5 = .ok (.iload_n 1, 1) := by decide +kernel
theorem dX6_groupAt_6 : decode cX6_groupAt 6 = .ok (.invokevirtual 90, 3) := by decide +kernel
theorem dX6_groupAt_9 : decode cX6_groupAt 9 = .ok (.aload_n 0, 1) := by decide +kernel
theorem dX6_groupAt_10 : decode cX6_groupAt 10 = .ok (.getfield 10, 3) := by decide +kernel
theorem dX6_groupAt_13 : decode cX6_groupAt 13 = .ok (.getfield 62, 3) := by decide +kernel
theorem dX6_groupAt_16 : decode cX6_groupAt 16 = .ok (.getfield 97, 3) := by decide +kernel
theorem dX6_groupAt_19 : decode cX6_groupAt 19 = .ok (.iload_n 1, 1) := by decide +kernel
theorem dX6_groupAt_20 : decode cX6_groupAt 20 = .ok (.iaload, 1) := by decide +kernel
theorem dX6_groupAt_21 : decode cX6_groupAt 21 = .ok (.ireturn, 1) := by decide +kernel
theorem dX6_amountAt_0 : decode cX6_amountAt 0 = .ok (.iload_n 1, 1) := by decide +kernel
theorem dX6_amountAt_1 : decode cX6_amountAt 1 = .ok (.invokestatic 52, 3) := by decide +kernel
theorem dX6_amountAt_4 : decode cX6_amountAt 4 = .ok (.aload_n 0, 1) := by decide +kernel
theorem dX6_amountAt_5 : decode cX6_amountAt 5 = .ok (.iload_n 1, 1) := by decide +kernel
theorem dX6_amountAt_6 : decode cX6_amountAt 6 = .ok (.invokevirtual 90, 3) := by decide +kernel
theorem dX6_amountAt_9 : decode cX6_amountAt 9 = .ok (.aload_n 0, 1) := by decide +kernel
theorem dX6_amountAt_10 : decode cX6_amountAt 10 = .ok (.getfield 10, 3) := by decide +kernel
theorem dX6_amountAt_13 : decode cX6_amountAt 13 = .ok (.getfield 62, 3) := by decide +kernel
theorem dX6_amountAt_16 : decode cX6_amountAt 16 = .ok (.getfield 93, 3) := by decide +kernel
theorem dX6_amountAt_19 : decode cX6_amountAt 19 = .ok (.iload_n 1, 1) := by decide +kernel
theorem dX6_amountAt_20 : decode cX6_amountAt 20 = .ok (.iaload, 1) := by decide +kernel
theorem dX6_amountAt_21 : decode cX6_amountAt 21 = .ok (.ireturn, 1) := by decide +kernel
theorem dX6_deltas_0 : decode cX6_deltas 0 = .ok (.aload_n 0, 1) := by decide +kernel
theorem dX6_deltas_1 : decode cX6_deltas 1 = .ok (.getfield 10, 3) := by decide +kernel
theorem dX6_deltas_4 : decode cX6_deltas 4 = .ok (.getfield 126, 3) := by decide +kernel
theorem dX6_deltas_7 : decode cX6_deltas 7 = .ok (.getfield 204, 3) := by decide +kernel
theorem dX6_deltas_10 : decode cX6_deltas 10 = .ok (.ireturn, 1) := by decide +kernel
theorem dX6_tick_0 : decode cX6_tick 0 = .ok (.aload_n 0, 1) := by decide +kernel
theorem dX6_tick_1 : decode cX6_tick 1 = .ok (.getfield 10, 3) := by decide +kernel
theorem dX6_tick_4 : decode cX6_tick 4 = .ok (.getfield 209, 3) := by decide +kernel
theorem dX6_tick_7 : decode cX6_tick 7 = .ok (.ireturn, 1) := by decide +kernel
theorem dX6_isNapping_0 : decode cX6_isNapping 0 = .ok (.iload_n 1, 1) := by decide +kernel
theorem dX6_isNapping_1 : decode cX6_isNapping 1 = .ok (.invokestatic 106, 3) := by decide +kernel
theorem dX6_isNapping_4 : decode cX6_isNapping 4 = .ok (.aload_n 0, 1) := by decide +kernel
theorem dX6_isNapping_5 : decode cX6_isNapping 5 = .ok (.getfield 10, 3) := by decide +kernel
theorem dX6_isNapping_8 : decode cX6_isNapping 8 = .ok (.getfield 109, 3) := by decide +kernel
theorem dX6_isNapping_11 : decode cX6_isNapping 11 = .ok (.iload_n 1, 1) := by decide +kernel
theorem dX6_isNapping_12 : decode cX6_isNapping 12 = .ok (.aaload, 1) := by decide +kernel
theorem dX6_isNapping_13 : decode cX6_isNapping 13 = .ok (.getfield 113, 3) := by decide +kernel
theorem dX6_isNapping_16 : decode cX6_isNapping 16 = .ok (.ireturn, 1) := by decide +kernel
theorem dX6_napOf_0 : decode cX6_napOf 0 = .ok (.iload_n 1, 1) := by decide +kernel
theorem dX6_napOf_1 : decode cX6_napOf 1 = .ok (.invokestatic 106, 3) := by decide +kernel
theorem dX6_napOf_4 : decode cX6_napOf 4 = .ok (.aload_n 0, 1) := by decide +kernel
theorem dX6_napOf_5 : decode cX6_napOf 5 = .ok (.getfield 10, 3) := by decide +kernel
theorem dX6_napOf_8 : decode cX6_napOf 8 = .ok (.getfield 109, 3) := by decide +kernel
theorem dX6_napOf_11 : decode cX6_napOf 11 = .ok (.iload_n 1, 1) := by decide +kernel
theorem dX6_napOf_12 : decode cX6_napOf 12 = .ok (.aaload, 1) := by decide +kernel
theorem dX6_napOf_13 : decode cX6_napOf 13 = .ok (.getfield 212, 3) := by decide +kernel
theorem dX6_napOf_16 : decode cX6_napOf 16 = .ok (.ireturn, 1) := by decide +kernel
theorem dX6_filterOf_0 : decode cX6_filterOf 0 = .ok (.iload_n 1, 1) := by decide +kernel
theorem dX6_filterOf_1 : decode cX6_filterOf 1 = .ok (.invokestatic 106, 3) := by decide +kernel
theorem dX6_filterOf_4 : decode cX6_filterOf 4 = .ok (.aload_n 0, 1) := by decide +kernel
theorem dX6_filterOf_5 : decode cX6_filterOf 5 = .ok (.getfield 10, 3) := by decide +kernel
theorem dX6_filterOf_8 : decode cX6_filterOf 8 = .ok (.getfield 109, 3) := by decide +kernel
theorem dX6_filterOf_11 : decode cX6_filterOf 11 = .ok (.iload_n 1, 1) := by decide +kernel
theorem dX6_filterOf_12 : decode cX6_filterOf 12 = .ok (.aaload, 1) := by decide +kernel
theorem dX6_filterOf_13 : decode cX6_filterOf 13 = .ok (.getfield 141, 3) := by decide +kernel
theorem dX6_filterOf_16 : decode cX6_filterOf 16 = .ok (.ireturn, 1) := by decide +kernel
theorem dX6_waiting_0 : decode cX6_waiting 0 = .ok (.iload_n 1, 1) := by decide +kernel
theorem dX6_waiting_1 : decode cX6_waiting 1 = .ok (.invokestatic 106, 3) := by decide +kernel
theorem dX6_waiting_4 : decode cX6_waiting 4 = .ok (.aload_n 0, 1) := by decide +kernel
theorem dX6_waiting_5 : decode cX6_waiting 5 = .ok (.getfield 10, 3) := by decide +kernel
theorem dX6_waiting_8 : decode cX6_waiting 8 = .ok (.getfield 109, 3) := by decide +kernel
theorem dX6_waiting_11 : decode cX6_waiting 11 = .ok (.iload_n 1, 1) := by decide +kernel
theorem dX6_waiting_12 : decode cX6_waiting 12 = .ok (.aaload, 1) := by decide +kernel
theorem dX6_waiting_13 : decode cX6_waiting 13 = .ok (.aload_n 0, 1) := by decide +kernel
theorem dX6_waiting_14 : decode cX6_waiting 14 = .ok (.getfield 10, 3) := by decide +kernel
theorem dX6_waiting_17 : decode cX6_waiting 17 = .ok (.getfield 126, 3) := by decide +kernel
theorem dX6_waiting_20 : decode cX6_waiting 20 = .ok (.bipush (-99), 2) := by decide +kernel
theorem dX6_waiting_22 : decode cX6_waiting 22 = .ok (.invokevirtual 215, 3) := by decide +kernel
theorem dX6_waiting_25 : decode cX6_waiting 25 = .ok (.ireturn, 1) := by decide +kernel
theorem dX6_waitingByNumbers_0 : decode cX6_waitingByNumbers 0 = .ok (.iload_n 1, 1) := by decide +kernel
theorem dX6_waitingByNumbers_1 : decode cX6_waitingByNumbers 1 = .ok (.invokestatic 106, 3) := by decide +kernel
theorem dX6_waitingByNumbers_4 : decode cX6_waitingByNumbers 4 = .ok (.aload_n 0, 1) := by decide +kernel
theorem dX6_waitingByNumbers_5 : decode cX6_waitingByNumbers 5 = .ok (.getfield 10, 3) := by decide +kernel
theorem dX6_waitingByNumbers_8 : decode cX6_waitingByNumbers 8 = .ok (.getfield 109, 3) := by decide +kernel
theorem dX6_waitingByNumbers_11 : decode cX6_waitingByNumbers 11 = .ok (.iload_n 1, 1) := by decide +kernel
theorem dX6_waitingByNumbers_12 : decode cX6_waitingByNumbers 12 = .ok (.aaload, 1) := by decide +kernel
theorem dX6_waitingByNumbers_13 : decode cX6_waitingByNumbers 13 = .ok (.aload_n 0, 1) := by decide +kernel
theorem dX6_waitingByNumbers_14 : decode cX6_waitingByNumbers 14 = .ok (.getfield 10, 3) := by decide +kernel
theorem dX6_waitingByNumbers_17 : decode cX6_waitingByNumbers 17 = .ok (.getfield 126, 3) := by decide +kernel
theorem dX6_waitingByNumbers_20 : decode cX6_waitingByNumbers 20 = .ok (.invokevirtual 130, 3) := by decide +kernel
theorem dX6_waitingByNumbers_23 : decode cX6_waitingByNumbers 23 = .ok (.ireturn, 1) := by decide +kernel
theorem dX6_matters_0 : decode cX6_matters 0 = .ok (.iload_n 1, 1) := by decide +kernel
theorem dX6_matters_1 : decode cX6_matters 1 = .ok (.invokestatic 106, 3) := by decide +kernel
theorem dX6_matters_4 : decode cX6_matters 4 = .ok (.aload_n 0, 1) := by decide +kernel
theorem dX6_matters_5 : decode cX6_matters 5 = .ok (.getfield 10, 3) := by decide +kernel
theorem dX6_matters_8 : decode cX6_matters 8 = .ok (.getfield 109, 3) := by decide +kernel
theorem dX6_matters_11 : decode cX6_matters 11 = .ok (.iload_n 1, 1) := by decide +kernel
theorem dX6_matters_12 : decode cX6_matters 12 = .ok (.aaload, 1) := by decide +kernel
theorem dX6_matters_13 : decode cX6_matters 13 = .ok (.aload_n 0, 1) := by decide +kernel
theorem dX6_matters_14 : decode cX6_matters 14 = .ok (.getfield 10, 3) := by decide +kernel
theorem dX6_matters_17 : decode cX6_matters 17 = .ok (.getfield 126, 3) := by decide +kernel
theorem dX6_matters_20 : decode cX6_matters 20 = .ok (.aload_n 0, 1) := by decide +kernel
theorem dX6_matters_21 : decode cX6_matters 21 = .ok (.getfield 10, 3) := by decide +kernel
theorem dX6_matters_24 : decode cX6_matters 24 = .ok (.getfield 109, 3) := by decide +kernel
theorem dX6_matters_27 : decode cX6_matters 27 = .ok (.iload_n 1, 1) := by decide +kernel
theorem dX6_matters_28 : decode cX6_matters 28 = .ok (.aaload, 1) := by decide +kernel
theorem dX6_matters_29 : decode cX6_matters 29 = .ok (.getfield 141, 3) := by decide +kernel
theorem dX6_matters_32 : decode cX6_matters 32 = .ok (.invokevirtual 215, 3) := by decide +kernel
theorem dX6_matters_35 : decode cX6_matters 35 = .ok (.ireturn, 1) := by decide +kernel
theorem dX6_wakings_0 : decode cX6_wakings 0 = .ok (.aload_n 0, 1) := by decide +kernel
theorem dX6_wakings_1 : decode cX6_wakings 1 = .ok (.getfield 10, 3) := by decide +kernel
theorem dX6_wakings_4 : decode cX6_wakings 4 = .ok (.getfield 219, 3) := by decide +kernel
theorem dX6_wakings_7 : decode cX6_wakings 7 = .ok (.ireturn, 1) := by decide +kernel
theorem dX6_wakingsByThemselves_0 : decode cX6_wakingsByThemselves 0 = .ok (.aload_n 0, 1) := by decide +kernel
theorem dX6_wakingsByThemselves_1 : decode cX6_wakingsByThemselves 1 = .ok (.getfield 10, 3) := by decide +kernel
theorem dX6_wakingsByThemselves_4 : decode cX6_wakingsByThemselves 4 = .ok (.getfield 222, 3) := by decide +kernel
theorem dX6_wakingsByThemselves_7 : decode cX6_wakingsByThemselves 7 = .ok (.ireturn, 1) := by decide +kernel
theorem dX6_refreshes_0 : decode cX6_refreshes 0 = .ok (.aload_n 0, 1) := by decide +kernel
theorem dX6_refreshes_1 : decode cX6_refreshes 1 = .ok (.getfield 10, 3) := by decide +kernel
theorem dX6_refreshes_4 : decode cX6_refreshes 4 = .ok (.getfield 225, 3) := by decide +kernel
theorem dX6_refreshes_7 : decode cX6_refreshes 7 = .ok (.ireturn, 1) := by decide +kernel
theorem dX6_logLength_0 : decode cX6_logLength 0 = .ok (.iconst 0, 1) := by decide +kernel
theorem dX6_logLength_1 : decode cX6_logLength 1 = .ok (.istore_n 1, 1) := by decide +kernel
theorem dX6_logLength_2 : decode cX6_logLength 2 = .ok (.iconst 0, 1) := by decide +kernel
theorem dX6_logLength_3 : decode cX6_logLength 3 = .ok (.istore_n 2, 1) := by decide +kernel
theorem dX6_logLength_4 : decode cX6_logLength 4 = .ok (.iload_n 2, 1) := by decide +kernel
theorem dX6_logLength_5 : decode cX6_logLength 5 = .ok (.iconst 3, 1) := by decide +kernel
theorem dX6_logLength_6 : decode cX6_logLength 6 = .ok (.if_icmp .ge 33, 3) := by decide +kernel
theorem dX6_logLength_9 : decode cX6_logLength 9 = .ok (.iload_n 1, 1) := by decide +kernel
theorem dX6_logLength_10 : decode cX6_logLength 10 = .ok (.aload_n 0, 1) := by decide +kernel
theorem dX6_logLength_11 : decode cX6_logLength 11 = .ok (.getfield 10, 3) := by decide +kernel
theorem dX6_logLength_14 : decode cX6_logLength 14 = .ok (.getfield 109, 3) := by decide +kernel
theorem dX6_logLength_17 : decode cX6_logLength 17 = .ok (.iload_n 2, 1) := by decide +kernel
theorem dX6_logLength_18 : decode cX6_logLength 18 = .ok (.aaload, 1) := by decide +kernel
theorem dX6_logLength_19 : decode cX6_logLength 19 = .ok (.aload_n 0, 1) := by decide +kernel
theorem dX6_logLength_20 : decode cX6_logLength 20 = .ok (.getfield 10, 3) := by decide +kernel
theorem dX6_logLength_23 : decode cX6_logLength 23 = .ok (.getfield 126, 3) := by decide +kernel
theorem dX6_logLength_26 : decode cX6_logLength 26 = .ok (.invokevirtual 130, 3) := by decide +kernel
theorem dX6_logLength_29 : decode cX6_logLength 29 = .ok (.invokestatic 228, 3) := by decide +kernel
theorem dX6_logLength_32 : decode cX6_logLength 32 = .ok (.istore_n 1, 1) := by decide +kernel
theorem dX6_logLength_33 : decode cX6_logLength 33 = .ok (.iinc 2 1, 3) := by decide +kernel
theorem dX6_logLength_36 : decode cX6_logLength 36 = .ok (.goto (-32), 3) := by decide +kernel
theorem dX6_logLength_39 : decode cX6_logLength 39 = .ok (.iload_n 1, 1) := by decide +kernel
theorem dX6_logLength_40 : decode cX6_logLength 40 = .ok (.ireturn, 1) := by decide +kernel
theorem dX6_countOf_0 : decode cX6_countOf 0 = .ok (.aload_n 0, 1) := by decide +kernel
theorem dX6_countOf_1 : decode cX6_countOf 1 = .ok (.iload_n 1, 1) := by decide +kernel
theorem dX6_countOf_2 : decode cX6_countOf 2 = .ok (.iload_n 2, 1) := by decide +kernel
theorem dX6_countOf_3 : decode cX6_countOf 3 = .ok (.invokevirtual 234, 3) := by decide +kernel
theorem dX6_countOf_6 : decode cX6_countOf 6 = .ok (.getfield 238, 3) := by decide +kernel
theorem dX6_countOf_9 : decode cX6_countOf 9 = .ok (.ireturn, 1) := by decide +kernel
theorem dX6_sumOf_0 : decode cX6_sumOf 0 = .ok (.aload_n 0, 1) := by decide +kernel
theorem dX6_sumOf_1 : decode cX6_sumOf 1 = .ok (.iload_n 1, 1) := by decide +kernel
theorem dX6_sumOf_2 : decode cX6_sumOf 2 = .ok (.iload_n 2, 1) := by decide +kernel
theorem dX6_sumOf_3 : decode cX6_sumOf 3 = .ok (.invokevirtual 234, 3) := by decide +kernel
theorem dX6_sumOf_6 : decode cX6_sumOf 6 = .ok (.invokevirtual 241, 3) := by decide +kernel
theorem dX6_sumOf_9 : decode cX6_sumOf 9 = .ok (.ireturn, 1) := by decide +kernel
theorem dX6_leastOf_0 : decode cX6_leastOf 0 = .ok (.aload_n 0, 1) := by decide +kernel
theorem dX6_leastOf_1 : decode cX6_leastOf 1 = .ok (.iload_n 1, 1) := by decide +kernel
theorem dX6_leastOf_2 : decode cX6_leastOf 2 = .ok (.iload_n 2, 1) := by decide +kernel
theorem dX6_leastOf_3 : decode cX6_leastOf 3 = .ok (.invokevirtual 234, 3) := by decide +kernel
theorem dX6_leastOf_6 : decode cX6_leastOf 6 = .ok (.astore_n 3, 1) := by decide +kernel
theorem dX6_leastOf_7 : decode cX6_leastOf 7 = .ok (.aload_n 3, 1) := by decide +kernel
theorem dX6_leastOf_8 : decode cX6_leastOf 8 = .ok (.invokestatic 244, 3) := by decide +kernel
theorem dX6_leastOf_11 : decode cX6_leastOf 11 = .ok (.aload_n 3, 1) := by decide +kernel
theorem dX6_leastOf_12 : decode cX6_leastOf 12 = .ok (.invokevirtual 248, 3) := by decide +kernel
theorem dX6_leastOf_15 : decode cX6_leastOf 15 = .ok (.ireturn, 1) := by decide +kernel
theorem dX6_greatestOf_0 : decode cX6_greatestOf 0 = .ok (.aload_n 0, 1) := by decide +kernel
theorem dX6_greatestOf_1 : decode cX6_greatestOf 1 = .ok (.iload_n 1, 1) := by decide +kernel
theorem dX6_greatestOf_2 : decode cX6_greatestOf 2 = .ok (.iload_n 2, 1) := by decide +kernel
theorem dX6_greatestOf_3 : decode cX6_greatestOf 3 = .ok (.invokevirtual 234, 3) := by decide +kernel
theorem dX6_greatestOf_6 : decode cX6_greatestOf 6 = .ok (.astore_n 3, 1) := by decide +kernel
theorem dX6_greatestOf_7 : decode cX6_greatestOf 7 = .ok (.aload_n 3, 1) := by decide +kernel
theorem dX6_greatestOf_8 : decode cX6_greatestOf 8 = .ok (.invokestatic 244, 3) := by decide +kernel
theorem dX6_greatestOf_11 : decode cX6_greatestOf 11 = .ok (.aload_n 3, 1) := by decide +kernel
theorem dX6_greatestOf_12 : decode cX6_greatestOf 12 = .ok (.invokevirtual 251, 3) := by decide +kernel
theorem dX6_greatestOf_15 : decode cX6_greatestOf 15 = .ok (.ireturn, 1) := by decide +kernel
theorem dX6_medianOf_0 : decode cX6_medianOf 0 = .ok (.aload_n 0, 1) := by decide +kernel
theorem dX6_medianOf_1 : decode cX6_medianOf 1 = .ok (.iload_n 1, 1) := by decide +kernel
theorem dX6_medianOf_2 : decode cX6_medianOf 2 = .ok (.iload_n 2, 1) := by decide +kernel
theorem dX6_medianOf_3 : decode cX6_medianOf 3 = .ok (.invokevirtual 234, 3) := by decide +kernel
theorem dX6_medianOf_6 : decode cX6_medianOf 6 = .ok (.astore_n 3, 1) := by decide +kernel
theorem dX6_medianOf_7 : decode cX6_medianOf 7 = .ok (.aload_n 3, 1) := by decide +kernel
theorem dX6_medianOf_8 : decode cX6_medianOf 8 = .ok (.invokestatic 244, 3) := by decide +kernel
theorem dX6_medianOf_11 : decode cX6_medianOf 11 = .ok (.aload_n 3, 1) := by decide +kernel
theorem dX6_medianOf_12 : decode cX6_medianOf 12 = .ok (.invokevirtual 254, 3) := by decide +kernel
theorem dX6_medianOf_15 : decode cX6_medianOf 15 = .ok (.ireturn, 1) := by decide +kernel
theorem dX6_rankOf_0 : decode cX6_rankOf 0 = .ok (.aload_n 0, 1) := by decide +kernel
theorem dX6_rankOf_1 : decode cX6_rankOf 1 = .ok (.iload_n 1, 1) := by decide +kernel
theorem dX6_rankOf_2 : decode cX6_rankOf 2 = .ok (.iload_n 2, 1) := by decide +kernel
theorem dX6_rankOf_3 : decode cX6_rankOf 3 = .ok (.invokevirtual 234, 3) := by decide +kernel
theorem dX6_rankOf_6 : decode cX6_rankOf 6 = .ok (.astore 4, 2) := by decide +kernel
theorem dX6_rankOf_8 : decode cX6_rankOf 8 = .ok (.iload_n 3, 1) := by decide +kernel
theorem dX6_rankOf_9 : decode cX6_rankOf 9 = .ok (.invokestatic 59, 3) := by decide +kernel
theorem dX6_rankOf_12 : decode cX6_rankOf 12 = .ok (.aload 4, 2) := by decide +kernel
theorem dX6_rankOf_14 : decode cX6_rankOf 14 = .ok (.iload_n 3, 1) := by decide +kernel
theorem dX6_rankOf_15 : decode cX6_rankOf 15 = .ok (.invokevirtual 257, 3) := by decide +kernel
theorem dX6_rankOf_18 : decode cX6_rankOf 18 = .ok (.ireturn, 1) := by decide +kernel
theorem dX6_unlikeOf_0 : decode cX6_unlikeOf 0 = .ok (.aload_n 0, 1) := by decide +kernel
theorem dX6_unlikeOf_1 : decode cX6_unlikeOf 1 = .ok (.iload_n 1, 1) := by decide +kernel
theorem dX6_unlikeOf_2 : decode cX6_unlikeOf 2 = .ok (.iload_n 2, 1) := by decide +kernel
theorem dX6_unlikeOf_3 : decode cX6_unlikeOf 3 = .ok (.invokevirtual 234, 3) := by decide +kernel
theorem dX6_unlikeOf_6 : decode cX6_unlikeOf 6 = .ok (.invokevirtual 260, 3) := by decide +kernel
theorem dX6_unlikeOf_9 : decode cX6_unlikeOf 9 = .ok (.ireturn, 1) := by decide +kernel
theorem dX6_countInTable_0 : decode cX6_countInTable 0 = .ok (.aload_n 0, 1) := by decide +kernel
theorem dX6_countInTable_1 : decode cX6_countInTable 1 = .ok (.iload_n 1, 1) := by decide +kernel
theorem dX6_countInTable_2 : decode cX6_countInTable 2 = .ok (.iload_n 2, 1) := by decide +kernel
theorem dX6_countInTable_3 : decode cX6_countInTable 3 = .ok (.invokevirtual 263, 3) := by decide +kernel
theorem dX6_countInTable_6 : decode cX6_countInTable 6 = .ok (.getfield 238, 3) := by decide +kernel
theorem dX6_countInTable_9 : decode cX6_countInTable 9 = .ok (.ireturn, 1) := by decide +kernel
theorem dX6_sumInTable_0 : decode cX6_sumInTable 0 = .ok (.aload_n 0, 1) := by decide +kernel
theorem dX6_sumInTable_1 : decode cX6_sumInTable 1 = .ok (.iload_n 1, 1) := by decide +kernel
theorem dX6_sumInTable_2 : decode cX6_sumInTable 2 = .ok (.iload_n 2, 1) := by decide +kernel
theorem dX6_sumInTable_3 : decode cX6_sumInTable 3 = .ok (.invokevirtual 263, 3) := by decide +kernel
theorem dX6_sumInTable_6 : decode cX6_sumInTable 6 = .ok (.invokevirtual 241, 3) := by decide +kernel
theorem dX6_sumInTable_9 : decode cX6_sumInTable 9 = .ok (.ireturn, 1) := by decide +kernel
theorem dX6_medianInTable_0 : decode cX6_medianInTable 0 = .ok (.aload_n 0, 1) := by decide +kernel
theorem dX6_medianInTable_1 : decode cX6_medianInTable 1 = .ok (.iload_n 1, 1) := by decide +kernel
theorem dX6_medianInTable_2 : decode cX6_medianInTable 2 = .ok (.iload_n 2, 1) := by decide +kernel
theorem dX6_medianInTable_3 : decode cX6_medianInTable 3 = .ok (.invokevirtual 263, 3) := by decide +kernel
theorem dX6_medianInTable_6 : decode cX6_medianInTable 6 = .ok (.astore_n 3, 1) := by decide +kernel
theorem dX6_medianInTable_7 : decode cX6_medianInTable 7 = .ok (.aload_n 3, 1) := by decide +kernel
theorem dX6_medianInTable_8 : decode cX6_medianInTable 8 = .ok (.invokestatic 244, 3) := by decide +kernel
theorem dX6_medianInTable_11 : decode cX6_medianInTable 11 = .ok (.aload_n 3, 1) := by decide +kernel
theorem dX6_medianInTable_12 : decode cX6_medianInTable 12 = .ok (.invokevirtual 254, 3) := by decide +kernel
theorem dX6_medianInTable_15 : decode cX6_medianInTable 15 = .ok (.ireturn, 1) := by decide +kernel
theorem dX6_rankInTable_0 : decode cX6_rankInTable 0 = .ok (.aload_n 0, 1) := by decide +kernel
theorem dX6_rankInTable_1 : decode cX6_rankInTable 1 = .ok (.iload_n 1, 1) := by decide +kernel
theorem dX6_rankInTable_2 : decode cX6_rankInTable 2 = .ok (.iload_n 2, 1) := by decide +kernel
theorem dX6_rankInTable_3 : decode cX6_rankInTable 3 = .ok (.invokevirtual 263, 3) := by decide +kernel
theorem dX6_rankInTable_6 : decode cX6_rankInTable 6 = .ok (.astore 4, 2) := by decide +kernel
theorem dX6_rankInTable_8 : decode cX6_rankInTable 8 = .ok (.iload_n 3, 1) := by decide +kernel
theorem dX6_rankInTable_9 : decode cX6_rankInTable 9 = .ok (.invokestatic 59, 3) := by decide +kernel
theorem dX6_rankInTable_12 : decode cX6_rankInTable 12 = .ok (.aload 4, 2) := by decide +kernel
theorem dX6_rankInTable_14 : decode cX6_rankInTable 14 = .ok (.iload_n 3, 1) := by decide +kernel
theorem dX6_rankInTable_15 : decode cX6_rankInTable 15 = .ok (.invokevirtual 257, 3) := by decide +kernel
theorem dX6_rankInTable_18 : decode cX6_rankInTable 18 = .ok (.ireturn, 1) := by decide +kernel
theorem dX6_unlikeGroups_0 : decode cX6_unlikeGroups 0 = .ok (.iload_n 1, 1) := by decide +kernel
theorem dX6_unlikeGroups_1 : decode cX6_unlikeGroups 1 = .ok (.invokestatic 106, 3) := by decide +kernel
theorem dX6_unlikeGroups_4 : decode cX6_unlikeGroups 4 = .ok (.aload_n 0, 1) := by decide +kernel
theorem dX6_unlikeGroups_5 : decode cX6_unlikeGroups 5 = .ok (.aload_n 0, 1) := by decide +kernel
theorem dX6_unlikeGroups_6 : decode cX6_unlikeGroups 6 = .ok (.getfield 10, 3) := by decide +kernel
theorem dX6_unlikeGroups_9 : decode cX6_unlikeGroups 9 = .ok (.getfield 109, 3) := by decide +kernel
theorem dX6_unlikeGroups_12 : decode cX6_unlikeGroups 12 = .ok (.iload_n 1, 1) := by decide +kernel
theorem dX6_unlikeGroups_13 : decode cX6_unlikeGroups 13 = .ok (.aaload, 1) := by decide +kernel
theorem dX6_unlikeGroups_14 : decode cX6_unlikeGroups 14 = .ok (.invokevirtual 266, 3) := by decide +kernel
theorem dX6_unlikeGroups_17 : decode cX6_unlikeGroups 17 = .ok (.ireturn, 1) := by decide +kernel
theorem dX6_unlikeIfWoken_0 : decode cX6_unlikeIfWoken 0 = .ok (.iload_n 1, 1) := by decide +kernel
theorem dX6_unlikeIfWoken_1 : decode cX6_unlikeIfWoken 1 = .ok (.invokestatic 106, 3) := by decide +kernel
theorem dX6_unlikeIfWoken_4 : decode cX6_unlikeIfWoken 4 = .ok (.aload_n 0, 1) := by decide +kernel
theorem dX6_unlikeIfWoken_5 : decode cX6_unlikeIfWoken 5 = .ok (.getfield 10, 3) := by decide +kernel
theorem dX6_unlikeIfWoken_8 : decode cX6_unlikeIfWoken 8 = .ok (.getfield 109, 3) := by decide +kernel
theorem dX6_unlikeIfWoken_11 : decode cX6_unlikeIfWoken 11 = .ok (.iload_n 1, 1) := by decide +kernel
theorem dX6_unlikeIfWoken_12 : decode cX6_unlikeIfWoken 12 = .ok (.aaload, 1) := by decide +kernel
theorem dX6_unlikeIfWoken_13 : decode cX6_unlikeIfWoken 13 = .ok (.getfield 113, 3) := by decide +kernel
theorem dX6_unlikeIfWoken_16 : decode cX6_unlikeIfWoken 16 = .ok (.ifCond .ne 5, 3) := by decide +kernel
theorem dX6_unlikeIfWoken_19 : decode cX6_unlikeIfWoken 19 = .ok (.iconst 0, 1) := by decide +kernel
theorem dX6_unlikeIfWoken_20 : decode cX6_unlikeIfWoken 20 = .ok (.ireturn, 1) := by decide +kernel
theorem dX6_unlikeIfWoken_21 : decode cX6_unlikeIfWoken 21 = .ok (.aload_n 0, 1) := by decide +kernel
theorem dX6_unlikeIfWoken_22 : decode cX6_unlikeIfWoken 22 = .ok (.getfield 48, 3) := by decide +kernel
theorem dX6_unlikeIfWoken_25 : decode cX6_unlikeIfWoken 25 = .ok (.aload_n 0, 1) := by decide +kernel
theorem dX6_unlikeIfWoken_26 : decode cX6_unlikeIfWoken 26 = .ok (.getfield 10, 3) := by decide +kernel
theorem dX6_unlikeIfWoken_29 : decode cX6_unlikeIfWoken 29 = .ok (.getfield 109, 3) := by decide +kernel
theorem dX6_unlikeIfWoken_32 : decode cX6_unlikeIfWoken 32 = .ok (.iload_n 1, 1) := by decide +kernel
theorem dX6_unlikeIfWoken_33 : decode cX6_unlikeIfWoken 33 = .ok (.aaload, 1) := by decide +kernel
theorem dX6_unlikeIfWoken_34 : decode cX6_unlikeIfWoken 34 = .ok (.invokevirtual 270, 3) := by decide +kernel
theorem dX6_unlikeIfWoken_37 : decode cX6_unlikeIfWoken 37 = .ok (.aload_n 0, 1) := by decide +kernel
theorem dX6_unlikeIfWoken_38 : decode cX6_unlikeIfWoken 38 = .ok (.getfield 48, 3) := by decide +kernel
theorem dX6_unlikeIfWoken_41 : decode cX6_unlikeIfWoken 41 = .ok (.aload_n 0, 1) := by decide +kernel
theorem dX6_unlikeIfWoken_42 : decode cX6_unlikeIfWoken 42 = .ok (.getfield 10, 3) := by decide +kernel
theorem dX6_unlikeIfWoken_45 : decode cX6_unlikeIfWoken 45 = .ok (.getfield 126, 3) := by decide +kernel
theorem dX6_unlikeIfWoken_48 : decode cX6_unlikeIfWoken 48 = .ok (.invokevirtual 272, 3) := by decide +kernel
theorem dX6_unlikeIfWoken_51 : decode cX6_unlikeIfWoken 51 = .ok (.aload_n 0, 1) := by decide +kernel
theorem dX6_unlikeIfWoken_52 : decode cX6_unlikeIfWoken 52 = .ok (.aload_n 0, 1) := by decide +kernel
theorem dX6_unlikeIfWoken_53 : decode cX6_unlikeIfWoken 53 = .ok (.getfield 48, 3) := by decide +kernel
theorem dX6_unlikeIfWoken_56 : decode cX6_unlikeIfWoken 56 = .ok (.invokevirtual 266, 3) := by decide +kernel
theorem dX6_unlikeIfWoken_59 : decode cX6_unlikeIfWoken 59 = .ok (.ireturn, 1) := by decide +kernel
theorem dX6_wakesIn_0 : decode cX6_wakesIn 0 = .ok (.iload_n 1, 1) := by decide +kernel
theorem dX6_wakesIn_1 : decode cX6_wakesIn 1 = .ok (.invokestatic 106, 3) := by decide +kernel
theorem dX6_wakesIn_4 : decode cX6_wakesIn 4 = .ok (.aload_n 0, 1) := by decide +kernel
theorem dX6_wakesIn_5 : decode cX6_wakesIn 5 = .ok (.getfield 10, 3) := by decide +kernel
theorem dX6_wakesIn_8 : decode cX6_wakesIn 8 = .ok (.getfield 109, 3) := by decide +kernel
theorem dX6_wakesIn_11 : decode cX6_wakesIn 11 = .ok (.iload_n 1, 1) := by decide +kernel
theorem dX6_wakesIn_12 : decode cX6_wakesIn 12 = .ok (.aaload, 1) := by decide +kernel
theorem dX6_wakesIn_13 : decode cX6_wakesIn 13 = .ok (.astore_n 2, 1) := by decide +kernel
theorem dX6_wakesIn_14 : decode cX6_wakesIn 14 = .ok (.aload_n 2, 1) := by decide +kernel
theorem dX6_wakesIn_15 : decode cX6_wakesIn 15 = .ok (.getfield 113, 3) := by decide +kernel
theorem dX6_wakesIn_18 : decode cX6_wakesIn 18 = .ok (.ifCond .ne 5, 3) := by decide +kernel
theorem dX6_wakesIn_21 : decode cX6_wakesIn 21 = .ok (.iconst 0, 1) := by decide +kernel
theorem dX6_wakesIn_22 : decode cX6_wakesIn 22 = .ok (.ireturn, 1) := by decide +kernel
theorem dX6_wakesIn_23 : decode cX6_wakesIn 23 = .ok (.iconst 1, 1) := by decide +kernel
theorem dX6_wakesIn_24 : decode cX6_wakesIn 24 = .ok (.aload_n 2, 1) := by decide +kernel
theorem dX6_wakesIn_25 : decode cX6_wakesIn 25 = .ok (.getfield 153, 3) := by decide +kernel
theorem dX6_wakesIn_28 : decode cX6_wakesIn 28 = .ok (.aload_n 2, 1) := by decide +kernel
theorem dX6_wakesIn_29 : decode cX6_wakesIn 29 = .ok (.getfield 212, 3) := by decide +kernel
theorem dX6_wakesIn_32 : decode cX6_wakesIn 32 = .ok (.isub, 1) := by decide +kernel
theorem dX6_wakesIn_33 : decode cX6_wakesIn 33 = .ok (.invokestatic 228, 3) := by decide +kernel
theorem dX6_wakesIn_36 : decode cX6_wakesIn 36 = .ok (.ireturn, 1) := by decide +kernel
theorem dX6_behindShare_0 : decode cX6_behindShare 0 = .ok (.aload_n 0, 1) := by decide +kernel
theorem dX6_behindShare_1 : decode cX6_behindShare 1 = .ok (.getfield 10, 3) := by decide +kernel
theorem dX6_behindShare_4 : decode cX6_behindShare 4 = .ok (.getfield 126, 3) := by decide +kernel
theorem dX6_behindShare_7 : decode cX6_behindShare 7 = .ok (.getfield 204, 3) := by decide +kernel
theorem dX6_behindShare_10 : decode cX6_behindShare 10 = .ok (.ifCond .ne 5, 3) := by decide +kernel
theorem dX6_behindShare_13 : decode cX6_behindShare 13 = .ok (.dconst 0, 1) := by decide +kernel
theorem dX6_behindShare_14 : decode cX6_behindShare 14 = .ok (.dreturn, 1) := by decide +kernel
theorem dX6_behindShare_15 : decode cX6_behindShare 15 = .ok (.iconst 0, 1) := by decide +kernel
theorem dX6_behindShare_16 : decode cX6_behindShare 16 = .ok (.istore_n 1, 1) := by decide +kernel
theorem dX6_behindShare_17 : decode cX6_behindShare 17 = .ok (.iconst 0, 1) := by decide +kernel
theorem dX6_behindShare_18 : decode cX6_behindShare 18 = .ok (.istore_n 2, 1) := by decide +kernel
theorem dX6_behindShare_19 : decode cX6_behindShare 19 = .ok (.iload_n 2, 1) := by decide +kernel
theorem dX6_behindShare_20 : decode cX6_behindShare 20 = .ok (.iconst 3, 1) := by decide +kernel
theorem dX6_behindShare_21 : decode cX6_behindShare 21 = .ok (.if_icmp .ge 31, 3) := by decide +kernel
theorem dX6_behindShare_24 : decode cX6_behindShare 24 = .ok (.iload_n 1, 1) := by decide +kernel
theorem dX6_behindShare_25 : decode cX6_behindShare 25 = .ok (.aload_n 0, 1) := by decide +kernel
theorem dX6_behindShare_26 : decode cX6_behindShare 26 = .ok (.getfield 10, 3) := by decide +kernel
theorem dX6_behindShare_29 : decode cX6_behindShare 29 = .ok (.getfield 109, 3) := by decide +kernel
theorem dX6_behindShare_32 : decode cX6_behindShare 32 = .ok (.iload_n 2, 1) := by decide +kernel
theorem dX6_behindShare_33 : decode cX6_behindShare 33 = .ok (.aaload, 1) := by decide +kernel
theorem dX6_behindShare_34 : decode cX6_behindShare 34 = .ok (.aload_n 0, 1) := by decide +kernel
theorem dX6_behindShare_35 : decode cX6_behindShare 35 = .ok (.getfield 10, 3) := by decide +kernel
theorem dX6_behindShare_38 : decode cX6_behindShare 38 = .ok (.getfield 126, 3) := by decide +kernel
theorem dX6_behindShare_41 : decode cX6_behindShare 41 = .ok (.invokevirtual 130, 3) := by decide +kernel
theorem dX6_behindShare_44 : decode cX6_behindShare 44 = .ok (.iadd, 1) := by decide +kernel
theorem dX6_behindShare_45 : decode cX6_behindShare 45 = .ok (.istore_n 1, 1) := by decide +kernel
theorem dX6_behindShare_46 : decode cX6_behindShare 46 = .ok (.iinc 2 1, 3) := by decide +kernel
theorem dX6_behindShare_49 : decode cX6_behindShare 49 = .ok (.goto (-30), 3) := by decide +kernel
theorem dX6_behindShare_52 : decode cX6_behindShare 52 = .ok (.iload_n 1, 1) := by decide +kernel
theorem dX6_behindShare_53 : decode cX6_behindShare 53 = .ok (.i2d, 1) := by decide +kernel
theorem dX6_behindShare_54 : decode cX6_behindShare 54 = .ok (.ldc2_w 276, 3) := by decide +kernel
theorem dX6_behindShare_57 : decode cX6_behindShare 57 = .ok (.aload_n 0, 1) := by decide +kernel
theorem dX6_behindShare_58 : decode cX6_behindShare 58 = .ok (.getfield 10, 3) := by decide +kernel
theorem dX6_behindShare_61 : decode cX6_behindShare 61 = .ok (.getfield 126, 3) := by decide +kernel
theorem dX6_behindShare_64 : decode cX6_behindShare 64 = .ok (.getfield 204, 3) := by decide +kernel
theorem dX6_behindShare_67 : decode cX6_behindShare 67 = .ok (.i2d, 1) := by decide +kernel
theorem dX6_behindShare_68 : decode cX6_behindShare 68 = .ok (.dmul, 1) := by decide +kernel
theorem dX6_behindShare_69 : decode cX6_behindShare 69 = .ok (.ddiv, 1) := by decide +kernel
theorem dX6_behindShare_70 : decode cX6_behindShare 70 = .ok (.dreturn, 1) := by decide +kernel
theorem dX6_digest_0 : decode cX6_digest 0 = .ok (.aload_n 0, 1) := by decide +kernel
theorem dX6_digest_1 : decode cX6_digest 1 = .ok (.ldc2_w 278, 3) := by decide +kernel
theorem dX6_digest_4 : decode cX6_digest 4 = .ok (.invokevirtual 280, 3) := by decide +kernel
theorem dX6_digest_7 : decode cX6_digest 7 = .ok (.lstore_n 1, 1) := by decide +kernel
theorem dX6_digest_8 : decode cX6_digest 8 = .ok (.iconst 0, 1) := by decide +kernel
theorem dX6_digest_9 : decode cX6_digest 9 = .ok (.istore_n 3, 1) := by decide +kernel
theorem dX6_digest_10 : decode cX6_digest 10 = .ok (.iload_n 3, 1) := by decide +kernel
theorem dX6_digest_11 : decode cX6_digest 11 = .ok (.bipush 16, 2) := by decide +kernel
theorem dX6_digest_13 : decode cX6_digest 13 = .ok (.if_icmp .ge 16, 3) := by decide +kernel
theorem dX6_digest_16 : decode cX6_digest 16 = .ok (.aload_n 0, 1) := by decide +kernel
theorem dX6_digest_17 : decode cX6_digest 17 = .ok (.lload_n 1, 1) := by decide +kernel
theorem dX6_digest_18 : decode cX6_digest 18 = .ok (.iload_n 3, 1) := by decide +kernel
theorem dX6_digest_19 : decode cX6_digest 19 = .ok (.invokevirtual 284, 3) := by decide +kernel
theorem dX6_digest_22 : decode cX6_digest 22 = .ok (.lstore_n 1, 1) := by decide +kernel
theorem dX6_digest_23 : decode cX6_digest 23 = .ok (.iinc 3 1, 3) := by decide +kernel
theorem dX6_digest_26 : decode cX6_digest 26 = .ok (.goto (-16), 3) := by decide +kernel
theorem dX6_digest_29 : decode cX6_digest 29 = .ok (.iconst 0, 1) := by decide +kernel
theorem dX6_digest_30 : decode cX6_digest 30 = .ok (.istore_n 3, 1) := by decide +kernel
theorem dX6_digest_31 : decode cX6_digest 31 = .ok (.iload_n 3, 1) := by decide +kernel
theorem dX6_digest_32 : decode cX6_digest 32 = .ok (.iconst 3, 1) := by decide +kernel
theorem dX6_digest_33 : decode cX6_digest 33 = .ok (.if_icmp .ge 40, 3) := by decide +kernel
theorem dX6_digest_36 : decode cX6_digest 36 = .ok (.aload_n 0, 1) := by decide +kernel
theorem dX6_digest_37 : decode cX6_digest 37 = .ok (.lload_n 1, 1) := by decide +kernel
theorem dX6_digest_38 : decode cX6_digest 38 = .ok (.iload_n 3, 1) := by decide +kernel
theorem dX6_digest_39 : decode cX6_digest 39 = .ok (.invokevirtual 288, 3) := by decide +kernel
theorem dX6_digest_42 : decode cX6_digest 42 = .ok (.lstore_n 1, 1) := by decide +kernel
theorem dX6_digest_43 : decode cX6_digest 43 = .ok (.iconst 0, 1) := by decide +kernel
theorem dX6_digest_44 : decode cX6_digest 44 = .ok (.istore 4, 2) := by decide +kernel
theorem dX6_digest_46 : decode cX6_digest 46 = .ok (.iload 4, 2) := by decide +kernel
theorem dX6_digest_48 : decode cX6_digest 48 = .ok (.iconst 4, 1) := by decide +kernel
theorem dX6_digest_49 : decode cX6_digest 49 = .ok (.if_icmp .ge 18, 3) := by decide +kernel
theorem dX6_digest_52 : decode cX6_digest 52 = .ok (.aload_n 0, 1) := by decide +kernel
theorem dX6_digest_53 : decode cX6_digest 53 = .ok (.lload_n 1, 1) := by decide +kernel
theorem dX6_digest_54 : decode cX6_digest 54 = .ok (.iload_n 3, 1) := by decide +kernel
theorem dX6_digest_55 : decode cX6_digest 55 = .ok (.iload 4, 2) := by decide +kernel
theorem dX6_digest_57 : decode cX6_digest 57 = .ok (.invokevirtual 291, 3) := by decide +kernel
theorem dX6_digest_60 : decode cX6_digest 60 = .ok (.lstore_n 1, 1) := by decide +kernel
theorem dX6_digest_61 : decode cX6_digest 61 = .ok (.iinc 4 1, 3) := by decide +kernel
theorem dX6_digest_64 : decode cX6_digest 64 = .ok (.goto (-18), 3) := by decide +kernel
theorem dX6_digest_67 : decode cX6_digest 67 = .ok (.iinc 3 1, 3) := by decide +kernel
theorem dX6_digest_70 : decode cX6_digest 70 = .ok (.goto (-39), 3) := by decide +kernel
theorem dX6_digest_73 : decode cX6_digest 73 = .ok (.lload_n 1, 1) := by decide +kernel
theorem dX6_digest_74 : decode cX6_digest 74 = .ok (.aload_n 0, 1) := by decide +kernel
theorem dX6_digest_75 : decode cX6_digest 75 = .ok (.invokevirtual 295, 3) := by decide +kernel
theorem dX6_digest_78 : decode cX6_digest 78 = .ok (.invokestatic 298, 3) := by decide +kernel
theorem dX6_digest_81 : decode cX6_digest 81 = .ok (.invokestatic 302, 3) := by decide +kernel
theorem dX6_digest_84 : decode cX6_digest 84 = .ok (.lstore_n 1, 1) := by decide +kernel
theorem dX6_digest_85 : decode cX6_digest 85 = .ok (.aload_n 0, 1) := by decide +kernel
theorem dX6_digest_86 : decode cX6_digest 86 = .ok (.invokevirtual 295, 3) := by decide +kernel
theorem dX6_digest_89 : decode cX6_digest 89 = .ok (.ifCond .eq 16, 3) := by decide +kernel
theorem dX6_digest_92 : decode cX6_digest 92 = .ok (.lload_n 1, 1) := by decide +kernel
theorem dX6_digest_93 : decode cX6_digest 93 = .ok (.aload_n 0, 1) := by decide +kernel
theorem dX6_digest_94 : decode cX6_digest 94 = .ok (.getfield 10, 3) := by decide +kernel
theorem dX6_digest_97 : decode cX6_digest 97 = .ok (.getfield 184, 3) := by decide +kernel
theorem dX6_digest_100 : decode cX6_digest 100 = .ok (.i2l, 1) := by decide +kernel
theorem dX6_digest_101 : decode cX6_digest 101 = .ok (.invokestatic 302, 3) := by decide +kernel
theorem dX6_digest_104 : decode cX6_digest 104 = .ok (.lstore_n 1, 1) := by decide +kernel
theorem dX6_digest_105 : decode cX6_digest 105 = .ok (.lload_n 1, 1) := by decide +kernel
theorem dX6_digest_106 : decode cX6_digest 106 = .ok (.aload_n 0, 1) := by decide +kernel
theorem dX6_digest_107 : decode cX6_digest 107 = .ok (.invokevirtual 306, 3) := by decide +kernel
theorem dX6_digest_110 : decode cX6_digest 110 = .ok (.invokestatic 310, 3) := by decide +kernel
theorem dX6_digest_113 : decode cX6_digest 113 = .ok (.invokestatic 302, 3) := by decide +kernel
theorem dX6_digest_116 : decode cX6_digest 116 = .ok (.lstore_n 1, 1) := by decide +kernel
theorem dX6_digest_117 : decode cX6_digest 117 = .ok (.aload_n 0, 1) := by decide +kernel
theorem dX6_digest_118 : decode cX6_digest 118 = .ok (.getfield 34, 3) := by decide +kernel
theorem dX6_digest_121 : decode cX6_digest 121 = .ok (.lload_n 1, 1) := by decide +kernel
theorem dX6_digest_122 : decode cX6_digest 122 = .ok (.aload_n 0, 1) := by decide +kernel
theorem dX6_digest_123 : decode cX6_digest 123 = .ok (.getfield 34, 3) := by decide +kernel
theorem dX6_digest_126 : decode cX6_digest 126 = .ok (.getfield 167, 3) := by decide +kernel
theorem dX6_digest_129 : decode cX6_digest 129 = .ok (.i2l, 1) := by decide +kernel
theorem dX6_digest_130 : decode cX6_digest 130 = .ok (.invokestatic 302, 3) := by decide +kernel
theorem dX6_digest_133 : decode cX6_digest 133 = .ok (.invokevirtual 314, 3) := by decide +kernel
theorem dX6_digest_136 : decode cX6_digest 136 = .ok (.lreturn, 1) := by decide +kernel
theorem dX6_hashOfNumbers_0 : decode cX6_hashOfNumbers 0 = .ok (.lload_n 1, 1) := by decide +kernel
theorem dX6_hashOfNumbers_1 : decode cX6_hashOfNumbers 1 = .ok (.aload_n 0, 1) := by decide +kernel
theorem dX6_hashOfNumbers_2 : decode cX6_hashOfNumbers 2 = .ok (.invokevirtual 317, 3) := by decide +kernel
theorem dX6_hashOfNumbers_5 : decode cX6_hashOfNumbers 5 = .ok (.i2l, 1) := by decide +kernel
theorem dX6_hashOfNumbers_6 : decode cX6_hashOfNumbers 6 = .ok (.invokestatic 302, 3) := by decide +kernel
theorem dX6_hashOfNumbers_9 : decode cX6_hashOfNumbers 9 = .ok (.lstore_n 3, 1) := by decide +kernel
theorem dX6_hashOfNumbers_10 : decode cX6_hashOfNumbers 10 = .ok (.lload_n 3, 1) := by decide +kernel
theorem dX6_hashOfNumbers_11 : decode cX6_hashOfNumbers 11 = .ok (.aload_n 0, 1) := by decide +kernel
theorem dX6_hashOfNumbers_12 : decode cX6_hashOfNumbers 12 = .ok (.invokevirtual 320, 3) := by decide +kernel
theorem dX6_hashOfNumbers_15 : decode cX6_hashOfNumbers 15 = .ok (.i2l, 1) := by decide +kernel
theorem dX6_hashOfNumbers_16 : decode cX6_hashOfNumbers 16 = .ok (.invokestatic 302, 3) := by decide +kernel
theorem dX6_hashOfNumbers_19 : decode cX6_hashOfNumbers 19 = .ok (.lstore_n 3, 1) := by decide +kernel
theorem dX6_hashOfNumbers_20 : decode cX6_hashOfNumbers 20 = .ok (.lload_n 3, 1) := by decide +kernel
theorem dX6_hashOfNumbers_21 : decode cX6_hashOfNumbers 21 = .ok (.aload_n 0, 1) := by decide +kernel
theorem dX6_hashOfNumbers_22 : decode cX6_hashOfNumbers 22 = .ok (.invokevirtual 323, 3) := by decide +kernel
theorem dX6_hashOfNumbers_25 : decode cX6_hashOfNumbers 25 = .ok (.i2l, 1) := by decide +kernel
theorem dX6_hashOfNumbers_26 : decode cX6_hashOfNumbers 26 = .ok (.invokestatic 302, 3) := by decide +kernel
theorem dX6_hashOfNumbers_29 : decode cX6_hashOfNumbers 29 = .ok (.lstore_n 3, 1) := by decide +kernel
theorem dX6_hashOfNumbers_30 : decode cX6_hashOfNumbers 30 = .ok (.lload_n 3, 1) := by decide +kernel
theorem dX6_hashOfNumbers_31 : decode cX6_hashOfNumbers 31 = .ok (.aload_n 0, 1) := by decide +kernel
theorem dX6_hashOfNumbers_32 : decode cX6_hashOfNumbers 32 = .ok (.invokevirtual 326, 3) := by decide +kernel
theorem dX6_hashOfNumbers_35 : decode cX6_hashOfNumbers 35 = .ok (.i2l, 1) := by decide +kernel
theorem dX6_hashOfNumbers_36 : decode cX6_hashOfNumbers 36 = .ok (.invokestatic 302, 3) := by decide +kernel
theorem dX6_hashOfNumbers_39 : decode cX6_hashOfNumbers 39 = .ok (.lstore_n 3, 1) := by decide +kernel
theorem dX6_hashOfNumbers_40 : decode cX6_hashOfNumbers 40 = .ok (.lload_n 3, 1) := by decide +kernel
theorem dX6_hashOfNumbers_41 : decode cX6_hashOfNumbers 41 = .ok (.aload_n 0, 1) := by decide +kernel
theorem dX6_hashOfNumbers_42 : decode cX6_hashOfNumbers 42 = .ok (.invokevirtual 329, 3) := by decide +kernel
theorem dX6_hashOfNumbers_45 : decode cX6_hashOfNumbers 45 = .ok (.i2l, 1) := by decide +kernel
theorem dX6_hashOfNumbers_46 : decode cX6_hashOfNumbers 46 = .ok (.invokestatic 302, 3) := by decide +kernel
theorem dX6_hashOfNumbers_49 : decode cX6_hashOfNumbers 49 = .ok (.lstore_n 3, 1) := by decide +kernel
theorem dX6_hashOfNumbers_50 : decode cX6_hashOfNumbers 50 = .ok (.lload_n 3, 1) := by decide +kernel
theorem dX6_hashOfNumbers_51 : decode cX6_hashOfNumbers 51 = .ok (.aload_n 0, 1) := by decide +kernel
theorem dX6_hashOfNumbers_52 : decode cX6_hashOfNumbers 52 = .ok (.invokevirtual 332, 3) := by decide +kernel
theorem dX6_hashOfNumbers_55 : decode cX6_hashOfNumbers 55 = .ok (.i2l, 1) := by decide +kernel
theorem dX6_hashOfNumbers_56 : decode cX6_hashOfNumbers 56 = .ok (.invokestatic 302, 3) := by decide +kernel
theorem dX6_hashOfNumbers_59 : decode cX6_hashOfNumbers 59 = .ok (.lstore_n 3, 1) := by decide +kernel
theorem dX6_hashOfNumbers_60 : decode cX6_hashOfNumbers 60 = .ok (.lload_n 3, 1) := by decide +kernel
theorem dX6_hashOfNumbers_61 : decode cX6_hashOfNumbers 61 = .ok (.aload_n 0, 1) := by decide +kernel
theorem dX6_hashOfNumbers_62 : decode cX6_hashOfNumbers 62 = .ok (.invokevirtual 335, 3) := by decide +kernel
theorem dX6_hashOfNumbers_65 : decode cX6_hashOfNumbers 65 = .ok (.i2l, 1) := by decide +kernel
theorem dX6_hashOfNumbers_66 : decode cX6_hashOfNumbers 66 = .ok (.invokestatic 302, 3) := by decide +kernel
theorem dX6_hashOfNumbers_69 : decode cX6_hashOfNumbers 69 = .ok (.lstore_n 3, 1) := by decide +kernel
theorem dX6_hashOfNumbers_70 : decode cX6_hashOfNumbers 70 = .ok (.lload_n 3, 1) := by decide +kernel
theorem dX6_hashOfNumbers_71 : decode cX6_hashOfNumbers 71 = .ok (.aload_n 0, 1) := by decide +kernel
theorem dX6_hashOfNumbers_72 : decode cX6_hashOfNumbers 72 = .ok (.invokevirtual 338, 3) := by decide +kernel
theorem dX6_hashOfNumbers_75 : decode cX6_hashOfNumbers 75 = .ok (.i2l, 1) := by decide +kernel
theorem dX6_hashOfNumbers_76 : decode cX6_hashOfNumbers 76 = .ok (.invokestatic 302, 3) := by decide +kernel
theorem dX6_hashOfNumbers_79 : decode cX6_hashOfNumbers 79 = .ok (.lreturn, 1) := by decide +kernel
theorem dX6_hashOfPlace_0 : decode cX6_hashOfPlace 0 = .ok (.lload_n 1, 1) := by decide +kernel
theorem dX6_hashOfPlace_1 : decode cX6_hashOfPlace 1 = .ok (.aload_n 0, 1) := by decide +kernel
theorem dX6_hashOfPlace_2 : decode cX6_hashOfPlace 2 = .ok (.iload_n 3, 1) := by decide +kernel
theorem dX6_hashOfPlace_3 : decode cX6_hashOfPlace 3 = .ok (.invokevirtual 341, 3) := by decide +kernel
theorem dX6_hashOfPlace_6 : decode cX6_hashOfPlace 6 = .ok (.invokestatic 298, 3) := by decide +kernel
theorem dX6_hashOfPlace_9 : decode cX6_hashOfPlace 9 = .ok (.invokestatic 302, 3) := by decide +kernel
theorem dX6_hashOfPlace_12 : decode cX6_hashOfPlace 12 = .ok (.lstore 4, 2) := by decide +kernel
theorem dX6_hashOfPlace_14 : decode cX6_hashOfPlace 14 = .ok (.aload_n 0, 1) := by decide +kernel
theorem dX6_hashOfPlace_15 : decode cX6_hashOfPlace 15 = .ok (.iload_n 3, 1) := by decide +kernel
theorem dX6_hashOfPlace_16 : decode cX6_hashOfPlace 16 = .ok (.invokevirtual 341, 3) := by decide +kernel
theorem dX6_hashOfPlace_19 : decode cX6_hashOfPlace 19 = .ok (.ifCond .eq 6, 3) := by decide +kernel
theorem dX6_hashOfPlace_22 : decode cX6_hashOfPlace 22 = .ok (.lload 4, 2) := by decide +kernel
theorem dX6_hashOfPlace_24 : decode cX6_hashOfPlace 24 = .ok (.lreturn, 1) := by decide +kernel
theorem dX6_hashOfPlace_25 : decode cX6_hashOfPlace 25 = .ok (.lload 4, 2) := by decide +kernel
theorem dX6_hashOfPlace_27 : decode cX6_hashOfPlace 27 = .ok (.aload_n 0, 1) := by decide +kernel
theorem dX6_hashOfPlace_28 : decode cX6_hashOfPlace 28 = .ok (.iload_n 3, 1) := by decide +kernel
theorem dX6_hashOfPlace_29 : decode cX6_hashOfPlace 29 = .ok (.invokevirtual 344, 3) := by decide +kernel
theorem dX6_hashOfPlace_32 : decode cX6_hashOfPlace 32 = .ok (.i2l, 1) := by decide +kernel
theorem dX6_hashOfPlace_33 : decode cX6_hashOfPlace 33 = .ok (.invokestatic 302, 3) := by decide +kernel
theorem dX6_hashOfPlace_36 : decode cX6_hashOfPlace 36 = .ok (.lstore 4, 2) := by decide +kernel
theorem dX6_hashOfPlace_38 : decode cX6_hashOfPlace 38 = .ok (.lload 4, 2) := by decide +kernel
theorem dX6_hashOfPlace_40 : decode cX6_hashOfPlace 40 = .ok (.aload_n 0, 1) := by decide +kernel
theorem dX6_hashOfPlace_41 : decode cX6_hashOfPlace 41 = .ok (.iload_n 3, 1) := by decide +kernel
theorem dX6_hashOfPlace_42 : decode cX6_hashOfPlace 42 = .ok (.invokevirtual 347, 3) := by decide +kernel
theorem dX6_hashOfPlace_45 : decode cX6_hashOfPlace 45 = .ok (.i2l, 1) := by decide +kernel
theorem dX6_hashOfPlace_46 : decode cX6_hashOfPlace 46 = .ok (.invokestatic 302, 3) := by decide +kernel
theorem dX6_hashOfPlace_49 : decode cX6_hashOfPlace 49 = .ok (.lreturn, 1) := by decide +kernel
theorem dX6_hashOfView_0 : decode cX6_hashOfView 0 = .ok (.lload_n 1, 1) := by decide +kernel
theorem dX6_hashOfView_1 : decode cX6_hashOfView 1 = .ok (.aload_n 0, 1) := by decide +kernel
theorem dX6_hashOfView_2 : decode cX6_hashOfView 2 = .ok (.iload_n 3, 1) := by decide +kernel
theorem dX6_hashOfView_3 : decode cX6_hashOfView 3 = .ok (.invokevirtual 350, 3) := by decide +kernel
theorem dX6_hashOfView_6 : decode cX6_hashOfView 6 = .ok (.invokestatic 298, 3) := by decide +kernel
theorem dX6_hashOfView_9 : decode cX6_hashOfView 9 = .ok (.invokestatic 302, 3) := by decide +kernel
theorem dX6_hashOfView_12 : decode cX6_hashOfView 12 = .ok (.lstore 4, 2) := by decide +kernel
theorem dX6_hashOfView_14 : decode cX6_hashOfView 14 = .ok (.lload 4, 2) := by decide +kernel
theorem dX6_hashOfView_16 : decode cX6_hashOfView 16 = .ok (.aload_n 0, 1) := by decide +kernel
theorem dX6_hashOfView_17 : decode cX6_hashOfView 17 = .ok (.iload_n 3, 1) := by decide +kernel
theorem dX6_hashOfView_18 : decode cX6_hashOfView 18 = .ok (.invokevirtual 353, 3) := by decide +kernel
theorem dX6_hashOfView_21 : decode cX6_hashOfView 21 = .ok (.i2l, 1) := by decide +kernel
theorem dX6_hashOfView_22 : decode cX6_hashOfView 22 = .ok (.invokestatic 302, 3) := by decide +kernel
theorem dX6_hashOfView_25 : decode cX6_hashOfView 25 = .ok (.lstore 4, 2) := by decide +kernel
theorem dX6_hashOfView_27 : decode cX6_hashOfView 27 = .ok (.lload 4, 2) := by decide +kernel
theorem dX6_hashOfView_29 : decode cX6_hashOfView 29 = .ok (.aload_n 0, 1) := by decide +kernel
theorem dX6_hashOfView_30 : decode cX6_hashOfView 30 = .ok (.iload_n 3, 1) := by decide +kernel
theorem dX6_hashOfView_31 : decode cX6_hashOfView 31 = .ok (.invokevirtual 356, 3) := by decide +kernel
theorem dX6_hashOfView_34 : decode cX6_hashOfView 34 = .ok (.i2l, 1) := by decide +kernel
theorem dX6_hashOfView_35 : decode cX6_hashOfView 35 = .ok (.invokestatic 302, 3) := by decide +kernel
theorem dX6_hashOfView_38 : decode cX6_hashOfView 38 = .ok (.lstore 4, 2) := by decide +kernel
theorem dX6_hashOfView_40 : decode cX6_hashOfView 40 = .ok (.lload 4, 2) := by decide +kernel
theorem dX6_hashOfView_42 : decode cX6_hashOfView 42 = .ok (.aload_n 0, 1) := by decide +kernel
theorem dX6_hashOfView_43 : decode cX6_hashOfView 43 = .ok (.iload_n 3, 1) := by decide +kernel
theorem dX6_hashOfView_44 : decode cX6_hashOfView 44 = .ok (.invokevirtual 359, 3) := by decide +kernel
theorem dX6_hashOfView_47 : decode cX6_hashOfView 47 = .ok (.i2l, 1) := by decide +kernel
theorem dX6_hashOfView_48 : decode cX6_hashOfView 48 = .ok (.invokestatic 302, 3) := by decide +kernel
theorem dX6_hashOfView_51 : decode cX6_hashOfView 51 = .ok (.lstore 4, 2) := by decide +kernel
theorem dX6_hashOfView_53 : decode cX6_hashOfView 53 = .ok (.lload 4, 2) := by decide +kernel
theorem dX6_hashOfView_55 : decode cX6_hashOfView 55 = .ok (.aload_n 0, 1) := by decide +kernel
theorem dX6_hashOfView_56 : decode cX6_hashOfView 56 = .ok (.iload_n 3, 1) := by decide +kernel
theorem dX6_hashOfView_57 : decode cX6_hashOfView 57 = .ok (.invokevirtual 362, 3) := by decide +kernel
theorem dX6_hashOfView_60 : decode cX6_hashOfView 60 = .ok (.i2l, 1) := by decide +kernel
theorem dX6_hashOfView_61 : decode cX6_hashOfView 61 = .ok (.invokestatic 302, 3) := by decide +kernel
theorem dX6_hashOfView_64 : decode cX6_hashOfView 64 = .ok (.lstore 4, 2) := by decide +kernel
theorem dX6_hashOfView_66 : decode cX6_hashOfView 66 = .ok (.lload 4, 2) := by decide +kernel
theorem dX6_hashOfView_68 : decode cX6_hashOfView 68 = .ok (.aload_n 0, 1) := by decide +kernel
theorem dX6_hashOfView_69 : decode cX6_hashOfView 69 = .ok (.iload_n 3, 1) := by decide +kernel
theorem dX6_hashOfView_70 : decode cX6_hashOfView 70 = .ok (.invokevirtual 365, 3) := by decide +kernel
theorem dX6_hashOfView_73 : decode cX6_hashOfView 73 = .ok (.i2l, 1) := by decide +kernel
theorem dX6_hashOfView_74 : decode cX6_hashOfView 74 = .ok (.invokestatic 302, 3) := by decide +kernel
theorem dX6_hashOfView_77 : decode cX6_hashOfView 77 = .ok (.lstore 4, 2) := by decide +kernel
theorem dX6_hashOfView_79 : decode cX6_hashOfView 79 = .ok (.lload 4, 2) := by decide +kernel
theorem dX6_hashOfView_81 : decode cX6_hashOfView 81 = .ok (.aload_n 0, 1) := by decide +kernel
theorem dX6_hashOfView_82 : decode cX6_hashOfView 82 = .ok (.iload_n 3, 1) := by decide +kernel
theorem dX6_hashOfView_83 : decode cX6_hashOfView 83 = .ok (.invokevirtual 368, 3) := by decide +kernel
theorem dX6_hashOfView_86 : decode cX6_hashOfView 86 = .ok (.i2l, 1) := by decide +kernel
theorem dX6_hashOfView_87 : decode cX6_hashOfView 87 = .ok (.invokestatic 302, 3) := by decide +kernel
theorem dX6_hashOfView_90 : decode cX6_hashOfView 90 = .ok (.lstore 4, 2) := by decide +kernel
theorem dX6_hashOfView_92 : decode cX6_hashOfView 92 = .ok (.lload 4, 2) := by decide +kernel
theorem dX6_hashOfView_94 : decode cX6_hashOfView 94 = .ok (.aload_n 0, 1) := by decide +kernel
theorem dX6_hashOfView_95 : decode cX6_hashOfView 95 = .ok (.iload_n 3, 1) := by decide +kernel
theorem dX6_hashOfView_96 : decode cX6_hashOfView 96 = .ok (.invokevirtual 371, 3) := by decide +kernel
theorem dX6_hashOfView_99 : decode cX6_hashOfView 99 = .ok (.i2l, 1) := by decide +kernel
theorem dX6_hashOfView_100 : decode cX6_hashOfView 100 = .ok (.invokestatic 302, 3) := by decide +kernel
theorem dX6_hashOfView_103 : decode cX6_hashOfView 103 = .ok (.lstore 4, 2) := by decide +kernel
theorem dX6_hashOfView_105 : decode cX6_hashOfView 105 = .ok (.lload 4, 2) := by decide +kernel
theorem dX6_hashOfView_107 : decode cX6_hashOfView 107 = .ok (.aload_n 0, 1) := by decide +kernel
theorem dX6_hashOfView_108 : decode cX6_hashOfView 108 = .ok (.iload_n 3, 1) := by decide +kernel
theorem dX6_hashOfView_109 : decode cX6_hashOfView 109 = .ok (.invokevirtual 374, 3) := by decide +kernel
theorem dX6_hashOfView_112 : decode cX6_hashOfView 112 = .ok (.i2l, 1) := by decide +kernel
theorem dX6_hashOfView_113 : decode cX6_hashOfView 113 = .ok (.invokestatic 302, 3) := by decide +kernel
theorem dX6_hashOfView_116 : decode cX6_hashOfView 116 = .ok (.lreturn, 1) := by decide +kernel
theorem dX6_hashOfGroup_0 : decode cX6_hashOfGroup 0 = .ok (.aload_n 0, 1) := by decide +kernel
theorem dX6_hashOfGroup_1 : decode cX6_hashOfGroup 1 = .ok (.iload_n 3, 1) := by decide +kernel
theorem dX6_hashOfGroup_2 : decode cX6_hashOfGroup 2 = .ok (.iload 4, 2) := by decide +kernel
theorem dX6_hashOfGroup_4 : decode cX6_hashOfGroup 4 = .ok (.invokevirtual 234, 3) := by decide +kernel
theorem dX6_hashOfGroup_7 : decode cX6_hashOfGroup 7 = .ok (.astore 5, 2) := by decide +kernel
theorem dX6_hashOfGroup_9 : decode cX6_hashOfGroup 9 = .ok (.aload_n 0, 1) := by decide +kernel
theorem dX6_hashOfGroup_10 : decode cX6_hashOfGroup 10 = .ok (.iload_n 3, 1) := by decide +kernel
theorem dX6_hashOfGroup_11 : decode cX6_hashOfGroup 11 = .ok (.iload 4, 2) := by decide +kernel
theorem dX6_hashOfGroup_13 : decode cX6_hashOfGroup 13 = .ok (.invokevirtual 263, 3) := by decide +kernel
theorem dX6_hashOfGroup_16 : decode cX6_hashOfGroup 16 = .ok (.astore 6, 2) := by decide +kernel
theorem dX6_hashOfGroup_18 : decode cX6_hashOfGroup 18 = .ok (.lload_n 1, 1) := by decide +kernel
theorem dX6_hashOfGroup_19 : decode cX6_hashOfGroup 19 = .ok (.aload 5, 2) := by decide +kernel
theorem dX6_hashOfGroup_21 : decode cX6_hashOfGroup 21 = .ok (.getfield 238, 3) := by decide +kernel
theorem dX6_hashOfGroup_24 : decode cX6_hashOfGroup 24 = .ok (.i2l, 1) := by decide +kernel
theorem dX6_hashOfGroup_25 : decode cX6_hashOfGroup 25 = .ok (.invokestatic 302, 3) := by decide +kernel
theorem dX6_hashOfGroup_28 : decode cX6_hashOfGroup 28 = .ok (.lstore 7, 2) := by decide +kernel
theorem dX6_hashOfGroup_30 : decode cX6_hashOfGroup 30 = .ok (.lload 7, 2) := by decide +kernel
theorem dX6_hashOfGroup_32 : decode cX6_hashOfGroup 32 = .ok (.aload 5, 2) := by decide +kernel
theorem dX6_hashOfGroup_34 : decode cX6_hashOfGroup 34 = .ok (.invokevirtual 241, 3) := by decide +kernel
theorem dX6_hashOfGroup_37 : decode cX6_hashOfGroup 37 = .ok (.i2l, 1) := by decide +kernel
theorem dX6_hashOfGroup_38 : decode cX6_hashOfGroup 38 = .ok (.invokestatic 302, 3) := by decide +kernel
theorem dX6_hashOfGroup_41 : decode cX6_hashOfGroup 41 = .ok (.lstore 7, 2) := by decide +kernel
theorem dX6_hashOfGroup_43 : decode cX6_hashOfGroup 43 = .ok (.lload 7, 2) := by decide +kernel
theorem dX6_hashOfGroup_45 : decode cX6_hashOfGroup 45 = .ok (.aload 5, 2) := by decide +kernel
theorem dX6_hashOfGroup_47 : decode cX6_hashOfGroup 47 = .ok (.invokevirtual 260, 3) := by decide +kernel
theorem dX6_hashOfGroup_50 : decode cX6_hashOfGroup 50 = .ok (.i2l, 1) := by decide +kernel
theorem dX6_hashOfGroup_51 : decode cX6_hashOfGroup 51 = .ok (.invokestatic 302, 3) := by decide +kernel
theorem dX6_hashOfGroup_54 : decode cX6_hashOfGroup 54 = .ok (.lstore 7, 2) := by decide +kernel
theorem dX6_hashOfGroup_56 : decode cX6_hashOfGroup 56 = .ok (.lload 7, 2) := by decide +kernel
theorem dX6_hashOfGroup_58 : decode cX6_hashOfGroup 58 = .ok (.aload 5, 2) := by decide +kernel
theorem dX6_hashOfGroup_60 : decode cX6_hashOfGroup 60 = .ok (.iconst 0, 1) := by decide +kernel
theorem dX6_hashOfGroup_61 : decode cX6_hashOfGroup 61 = .ok (.invokevirtual 257, 3) := by decide +kernel
theorem dX6_hashOfGroup_64 : decode cX6_hashOfGroup 64 = .ok (.i2l, 1) := by decide +kernel
theorem dX6_hashOfGroup_65 : decode cX6_hashOfGroup 65 = .ok (.invokestatic 302, 3) := by decide +kernel
theorem dX6_hashOfGroup_68 : decode cX6_hashOfGroup 68 = .ok (.lstore 7, 2) := by decide +kernel
theorem dX6_hashOfGroup_70 : decode cX6_hashOfGroup 70 = .ok (.lload 7, 2) := by decide +kernel
theorem dX6_hashOfGroup_72 : decode cX6_hashOfGroup 72 = .ok (.aload 6, 2) := by decide +kernel
theorem dX6_hashOfGroup_74 : decode cX6_hashOfGroup 74 = .ok (.getfield 238, 3) := by decide +kernel
theorem dX6_hashOfGroup_77 : decode cX6_hashOfGroup 77 = .ok (.i2l, 1) := by decide +kernel
theorem dX6_hashOfGroup_78 : decode cX6_hashOfGroup 78 = .ok (.invokestatic 302, 3) := by decide +kernel
theorem dX6_hashOfGroup_81 : decode cX6_hashOfGroup 81 = .ok (.lstore 7, 2) := by decide +kernel
theorem dX6_hashOfGroup_83 : decode cX6_hashOfGroup 83 = .ok (.lload 7, 2) := by decide +kernel
theorem dX6_hashOfGroup_85 : decode cX6_hashOfGroup 85 = .ok (.aload 6, 2) := by decide +kernel
theorem dX6_hashOfGroup_87 : decode cX6_hashOfGroup 87 = .ok (.invokevirtual 241, 3) := by decide +kernel
theorem dX6_hashOfGroup_90 : decode cX6_hashOfGroup 90 = .ok (.i2l, 1) := by decide +kernel
theorem dX6_hashOfGroup_91 : decode cX6_hashOfGroup 91 = .ok (.invokestatic 302, 3) := by decide +kernel
theorem dX6_hashOfGroup_94 : decode cX6_hashOfGroup 94 = .ok (.lstore 7, 2) := by decide +kernel
theorem dX6_hashOfGroup_96 : decode cX6_hashOfGroup 96 = .ok (.lload 7, 2) := by decide +kernel
theorem dX6_hashOfGroup_98 : decode cX6_hashOfGroup 98 = .ok (.aload 6, 2) := by decide +kernel
theorem dX6_hashOfGroup_100 : decode cX6_hashOfGroup 100 = .ok (.iconst 0, 1) := by decide +kernel
theorem dX6_hashOfGroup_101 : decode cX6_hashOfGroup 101 = .ok (.invokevirtual 257, 3) := by decide +kernel
theorem dX6_hashOfGroup_104 : decode cX6_hashOfGroup 104 = .ok (.i2l, 1) := by decide +kernel
theorem dX6_hashOfGroup_105 : decode cX6_hashOfGroup 105 = .ok (.invokestatic 302, 3) := by decide +kernel
theorem dX6_hashOfGroup_108 : decode cX6_hashOfGroup 108 = .ok (.lstore 7, 2) := by decide +kernel
theorem dX6_hashOfGroup_110 : decode cX6_hashOfGroup 110 = .ok (.aload 5, 2) := by decide +kernel
theorem dX6_hashOfGroup_112 : decode cX6_hashOfGroup 112 = .ok (.getfield 238, 3) := by decide +kernel
theorem dX6_hashOfGroup_115 : decode cX6_hashOfGroup 115 = .ok (.ifCond .le 42, 3) := by decide +kernel
theorem dX6_hashOfGroup_118 : decode cX6_hashOfGroup 118 = .ok (.lload 7, 2) := by decide +kernel
theorem dX6_hashOfGroup_120 : decode cX6_hashOfGroup 120 = .ok (.aload 5, 2) := by decide +kernel
theorem dX6_hashOfGroup_122 : decode cX6_hashOfGroup 122 = .ok (.invokevirtual 248, 3) := by decide +kernel
theorem dX6_hashOfGroup_125 : decode cX6_hashOfGroup 125 = .ok (.i2l, 1) := by decide +kernel
theorem dX6_hashOfGroup_126 : decode cX6_hashOfGroup 126 = .ok (.invokestatic 302, 3) := by decide +kernel
theorem dX6_hashOfGroup_129 : decode cX6_hashOfGroup 129 = .ok (.lstore 7, 2) := by decide +kernel
theorem dX6_hashOfGroup_131 : decode cX6_hashOfGroup 131 = .ok (.lload 7, 2) := by decide +kernel
theorem dX6_hashOfGroup_133 : decode cX6_hashOfGroup 133 = .ok (.aload 5, 2) := by decide +kernel
theorem dX6_hashOfGroup_135 : decode cX6_hashOfGroup 135 = .ok (.invokevirtual 251, 3) := by decide +kernel
theorem dX6_hashOfGroup_138 : decode cX6_hashOfGroup 138 = .ok (.i2l, 1) := by decide +kernel
theorem dX6_hashOfGroup_139 : decode cX6_hashOfGroup 139 = .ok (.invokestatic 302, 3) := by decide +kernel
theorem dX6_hashOfGroup_142 : decode cX6_hashOfGroup 142 = .ok (.lstore 7, 2) := by decide +kernel
theorem dX6_hashOfGroup_144 : decode cX6_hashOfGroup 144 = .ok (.lload 7, 2) := by decide +kernel
theorem dX6_hashOfGroup_146 : decode cX6_hashOfGroup 146 = .ok (.aload 5, 2) := by decide +kernel
theorem dX6_hashOfGroup_148 : decode cX6_hashOfGroup 148 = .ok (.invokevirtual 254, 3) := by decide +kernel
theorem dX6_hashOfGroup_151 : decode cX6_hashOfGroup 151 = .ok (.i2l, 1) := by decide +kernel
theorem dX6_hashOfGroup_152 : decode cX6_hashOfGroup 152 = .ok (.invokestatic 302, 3) := by decide +kernel
theorem dX6_hashOfGroup_155 : decode cX6_hashOfGroup 155 = .ok (.lstore 7, 2) := by decide +kernel
theorem dX6_hashOfGroup_157 : decode cX6_hashOfGroup 157 = .ok (.aload 6, 2) := by decide +kernel
theorem dX6_hashOfGroup_159 : decode cX6_hashOfGroup 159 = .ok (.getfield 238, 3) := by decide +kernel
theorem dX6_hashOfGroup_162 : decode cX6_hashOfGroup 162 = .ok (.ifCond .le 16, 3) := by decide +kernel
theorem dX6_hashOfGroup_165 : decode cX6_hashOfGroup 165 = .ok (.lload 7, 2) := by decide +kernel
theorem dX6_hashOfGroup_167 : decode cX6_hashOfGroup 167 = .ok (.aload 6, 2) := by decide +kernel
theorem dX6_hashOfGroup_169 : decode cX6_hashOfGroup 169 = .ok (.invokevirtual 254, 3) := by decide +kernel
theorem dX6_hashOfGroup_172 : decode cX6_hashOfGroup 172 = .ok (.i2l, 1) := by decide +kernel
theorem dX6_hashOfGroup_173 : decode cX6_hashOfGroup 173 = .ok (.invokestatic 302, 3) := by decide +kernel
theorem dX6_hashOfGroup_176 : decode cX6_hashOfGroup 176 = .ok (.lstore 7, 2) := by decide +kernel
theorem dX6_hashOfGroup_178 : decode cX6_hashOfGroup 178 = .ok (.lload 7, 2) := by decide +kernel
theorem dX6_hashOfGroup_180 : decode cX6_hashOfGroup 180 = .ok (.lreturn, 1) := by decide +kernel
theorem dX6_hashWith_0 : decode cX6_hashWith 0 = .ok (.ldc2_w 377, 3) := by decide +kernel
theorem dX6_hashWith_3 : decode cX6_hashWith 3 = .ok (.lload_n 0, 1) := by decide +kernel
theorem dX6_hashWith_4 : decode cX6_hashWith 4 = .ok (.lmul, 1) := by decide +kernel
theorem dX6_hashWith_5 : decode cX6_hashWith 5 = .ok (.lload_n 2, 1) := by decide +kernel
theorem dX6_hashWith_6 : decode cX6_hashWith 6 = .ok (.ladd, 1) := by decide +kernel
theorem dX6_hashWith_7 : decode cX6_hashWith 7 = .ok (.lreturn, 1) := by decide +kernel
theorem dX6_bit_0 : decode cX6_bit 0 = .ok (.iload_n 0, 1) := by decide +kernel
theorem dX6_bit_1 : decode cX6_bit 1 = .ok (.ifCond .eq 7, 3) := by decide +kernel
theorem dX6_bit_4 : decode cX6_bit 4 = .ok (.lconst 1, 1) := by decide +kernel
theorem dX6_bit_5 : decode cX6_bit 5 = .ok (.goto 4, 3) := by decide +kernel
theorem dX6_bit_8 : decode cX6_bit 8 = .ok (.lconst 0, 1) := by decide +kernel
theorem dX6_bit_9 : decode cX6_bit 9 = .ok (.lreturn, 1) := by decide +kernel
theorem dX6_bitsOfShare_0 : decode cX6_bitsOfShare 0 = .ok (.dload_n 0, 1) := by decide +kernel
theorem dX6_bitsOfShare_1 : decode cX6_bitsOfShare 1 = .ok (.dconst 0, 1) := by decide +kernel
theorem dX6_bitsOfShare_2 : decode cX6_bitsOfShare 2 = .ok (.dcmp .l, 1) := by decide +kernel
theorem dX6_bitsOfShare_3 : decode cX6_bitsOfShare 3 = .ok (.ifCond .gt 5, 3) := by decide +kernel
theorem dX6_bitsOfShare_6 : decode cX6_bitsOfShare 6 = .ok (.lconst 0, 1) := by decide +kernel
theorem dX6_bitsOfShare_7 : decode cX6_bitsOfShare 7 = .ok (.lreturn, 1) := by decide +kernel
theorem dX6_bitsOfShare_8 : decode cX6_bitsOfShare 8 = .ok (.dload_n 0, 1) := by decide +kernel
theorem dX6_bitsOfShare_9 : decode cX6_bitsOfShare 9 = .ok (.dstore_n 2, 1) := by decide +kernel
theorem dX6_bitsOfShare_10 : decode cX6_bitsOfShare 10 = .ok (.ldc2_w 379, 3) := by decide +kernel
theorem dX6_bitsOfShare_13 : decode cX6_bitsOfShare 13 = .ok (.lstore 4, 2) := by decide +kernel
theorem dX6_bitsOfShare_15 : decode cX6_bitsOfShare 15 = .ok (.iconst 0, 1) := by decide +kernel
theorem dX6_bitsOfShare_16 : decode cX6_bitsOfShare 16 = .ok (.istore 6, 2) := by decide +kernel
theorem dX6_bitsOfShare_18 : decode cX6_bitsOfShare 18 = .ok (.iload 6, 2) := by decide +kernel
theorem dX6_bitsOfShare_20 : decode cX6_bitsOfShare 20 = .ok (.bipush 64, 2) := by decide +kernel
theorem dX6_bitsOfShare_22 : decode cX6_bitsOfShare 22 = .ok (.if_icmp .ge 27, 3) := by decide +kernel
theorem dX6_bitsOfShare_25 : decode cX6_bitsOfShare 25 = .ok (.dload_n 2, 1) := by decide +kernel
theorem dX6_bitsOfShare_26 : decode cX6_bitsOfShare 26 = .ok (.dconst 1, 1) := by decide +kernel
theorem dX6_bitsOfShare_27 : decode cX6_bitsOfShare 27 = .ok (.dcmp .g, 1) := by decide +kernel
theorem dX6_bitsOfShare_28 : decode cX6_bitsOfShare 28 = .ok (.ifCond .ge 21, 3) := by decide +kernel
theorem dX6_bitsOfShare_31 : decode cX6_bitsOfShare 31 = .ok (.dload_n 2, 1) := by decide +kernel
theorem dX6_bitsOfShare_32 : decode cX6_bitsOfShare 32 = .ok (.ldc2_w 381, 3) := by decide +kernel
theorem dX6_bitsOfShare_35 : decode cX6_bitsOfShare 35 = .ok (.dmul, 1) := by decide +kernel
theorem dX6_bitsOfShare_36 : decode cX6_bitsOfShare 36 = .ok (.dstore_n 2, 1) := by decide +kernel
theorem dX6_bitsOfShare_37 : decode cX6_bitsOfShare 37 = .ok (.lload 4, 2) := by decide +kernel
theorem dX6_bitsOfShare_39 : decode cX6_bitsOfShare 39 = .ok (.lconst 1, 1) := by decide +kernel
theorem dX6_bitsOfShare_40 : decode cX6_bitsOfShare 40 = .ok (.lsub, 1) := by decide +kernel
theorem dX6_bitsOfShare_41 : decode cX6_bitsOfShare 41 = .ok (.lstore 4, 2) := by decide +kernel
theorem dX6_bitsOfShare_43 : decode cX6_bitsOfShare 43 = .ok (.iinc 6 1, 3) := by decide +kernel
theorem dX6_bitsOfShare_46 : decode cX6_bitsOfShare 46 = .ok (.goto (-28), 3) := by decide +kernel
theorem dX6_bitsOfShare_49 : decode cX6_bitsOfShare 49 = .ok (.dload_n 2, 1) := by decide +kernel
theorem dX6_bitsOfShare_50 : decode cX6_bitsOfShare 50 = .ok (.dconst 1, 1) := by decide +kernel
theorem dX6_bitsOfShare_51 : decode cX6_bitsOfShare 51 = .ok (.dsub, 1) := by decide +kernel
theorem dX6_bitsOfShare_52 : decode cX6_bitsOfShare 52 = .ok (.ldc2_w 383, 3) := by decide +kernel
theorem dX6_bitsOfShare_55 : decode cX6_bitsOfShare 55 = .ok (.dmul, 1) := by decide +kernel
theorem dX6_bitsOfShare_56 : decode cX6_bitsOfShare 56 = .ok (.d2l, 1) := by decide +kernel
theorem dX6_bitsOfShare_57 : decode cX6_bitsOfShare 57 = .ok (.lstore 6, 2) := by decide +kernel
theorem dX6_bitsOfShare_59 : decode cX6_bitsOfShare 59 = .ok (.lload 4, 2) := by decide +kernel
theorem dX6_bitsOfShare_61 : decode cX6_bitsOfShare 61 = .ok (.bipush 52, 2) := by decide +kernel
theorem dX6_bitsOfShare_63 : decode cX6_bitsOfShare 63 = .ok (.lshl, 1) := by decide +kernel
theorem dX6_bitsOfShare_64 : decode cX6_bitsOfShare 64 = .ok (.lload 6, 2) := by decide +kernel
theorem dX6_bitsOfShare_66 : decode cX6_bitsOfShare 66 = .ok (.ladd, 1) := by decide +kernel
theorem dX6_bitsOfShare_67 : decode cX6_bitsOfShare 67 = .ok (.lreturn, 1) := by decide +kernel
theorem dX6_requirePlace_0 : decode cX6_requirePlace 0 = .ok (.iload_n 0, 1) := by decide +kernel
theorem dX6_requirePlace_1 : decode cX6_requirePlace 1 = .ok (.ifCond .lt 9, 3) := by decide +kernel
theorem dX6_requirePlace_4 : decode cX6_requirePlace 4 = .ok (.iload_n 0, 1) := by decide +kernel
theorem dX6_requirePlace_5 : decode cX6_requirePlace 5 = .ok (.bipush 16, 2) := by decide +kernel
theorem dX6_requirePlace_7 : decode cX6_requirePlace 7 = .ok (.if_icmp .lt 14, 3) := by decide +kernel
theorem dX6_requirePlace_10 : decode cX6_requirePlace 10 = .ok (.new 385, 3) := by decide +kernel
theorem dX6_requirePlace_13 : decode cX6_requirePlace 13 = .ok (.dup, 1) := by decide +kernel
theorem dX6_requirePlace_14 : decode cX6_requirePlace 14 = .ok (.ldc_w 387, 3) := by decide +kernel
theorem dX6_requirePlace_17 : decode cX6_requirePlace 17 = .ok (.invokespecial 389, 3) := by decide +kernel
theorem dX6_requirePlace_20 : decode cX6_requirePlace 20 = .ok (.athrow, 1) := by decide +kernel
theorem dX6_requirePlace_21 : decode cX6_requirePlace 21 = .ok (.return_, 1) := by decide +kernel
theorem dX6_requireGroup_0 : decode cX6_requireGroup 0 = .ok (.iload_n 0, 1) := by decide +kernel
theorem dX6_requireGroup_1 : decode cX6_requireGroup 1 = .ok (.ifCond .lt 8, 3) := by decide +kernel
theorem dX6_requireGroup_4 : decode cX6_requireGroup 4 = .ok (.iload_n 0, 1) := by decide +kernel
theorem dX6_requireGroup_5 : decode cX6_requireGroup 5 = .ok (.iconst 4, 1) := by decide +kernel
theorem dX6_requireGroup_6 : decode cX6_requireGroup 6 = .ok (.if_icmp .lt 14, 3) := by decide +kernel
theorem dX6_requireGroup_9 : decode cX6_requireGroup 9 = .ok (.new 385, 3) := by decide +kernel
theorem dX6_requireGroup_12 : decode cX6_requireGroup 12 = .ok (.dup, 1) := by decide +kernel
theorem dX6_requireGroup_13 : decode cX6_requireGroup 13 = .ok (.ldc_w 390, 3) := by decide +kernel
theorem dX6_requireGroup_16 : decode cX6_requireGroup 16 = .ok (.invokespecial 389, 3) := by decide +kernel
theorem dX6_requireGroup_19 : decode cX6_requireGroup 19 = .ok (.athrow, 1) := by decide +kernel
theorem dX6_requireGroup_20 : decode cX6_requireGroup 20 = .ok (.return_, 1) := by decide +kernel
theorem dX6_requireView_0 : decode cX6_requireView 0 = .ok (.iload_n 0, 1) := by decide +kernel
theorem dX6_requireView_1 : decode cX6_requireView 1 = .ok (.ifCond .lt 8, 3) := by decide +kernel
theorem dX6_requireView_4 : decode cX6_requireView 4 = .ok (.iload_n 0, 1) := by decide +kernel
theorem dX6_requireView_5 : decode cX6_requireView 5 = .ok (.iconst 3, 1) := by decide +kernel
theorem dX6_requireView_6 : decode cX6_requireView 6 = .ok (.if_icmp .lt 14, 3) := by decide +kernel
theorem dX6_requireView_9 : decode cX6_requireView 9 = .ok (.new 385, 3) := by decide +kernel
theorem dX6_requireView_12 : decode cX6_requireView 12 = .ok (.dup, 1) := by decide +kernel
theorem dX6_requireView_13 : decode cX6_requireView 13 = .ok (.ldc_w 392, 3) := by decide +kernel
theorem dX6_requireView_16 : decode cX6_requireView 16 = .ok (.invokespecial 389, 3) := by decide +kernel
theorem dX6_requireView_19 : decode cX6_requireView 19 = .ok (.athrow, 1) := by decide +kernel
theorem dX6_requireView_20 : decode cX6_requireView 20 = .ok (.return_, 1) := by decide +kernel
theorem dX6_requireAmount_0 : decode cX6_requireAmount 0 = .ok (.iload_n 0, 1) := by decide +kernel
theorem dX6_requireAmount_1 : decode cX6_requireAmount 1 = .ok (.bipush (-99), 2) := by decide +kernel
theorem dX6_requireAmount_3 : decode cX6_requireAmount 3 = .ok (.if_icmp .lt 9, 3) := by decide +kernel
theorem dX6_requireAmount_6 : decode cX6_requireAmount 6 = .ok (.iload_n 0, 1) := by decide +kernel
theorem dX6_requireAmount_7 : decode cX6_requireAmount 7 = .ok (.bipush 99, 2) := by decide +kernel
theorem dX6_requireAmount_9 : decode cX6_requireAmount 9 = .ok (.if_icmp .le 14, 3) := by decide +kernel
theorem dX6_requireAmount_12 : decode cX6_requireAmount 12 = .ok (.new 156, 3) := by decide +kernel
theorem dX6_requireAmount_15 : decode cX6_requireAmount 15 = .ok (.dup, 1) := by decide +kernel
theorem dX6_requireAmount_16 : decode cX6_requireAmount 16 = .ok (.ldc_w 394, 3) := by decide +kernel
theorem dX6_requireAmount_19 : decode cX6_requireAmount 19 = .ok (.invokespecial 160, 3) := by decide +kernel
theorem dX6_requireAmount_22 : decode cX6_requireAmount 22 = .ok (.athrow, 1) := by decide +kernel
theorem dX6_requireAmount_23 : decode cX6_requireAmount 23 = .ok (.return_, 1) := by decide +kernel
theorem dX6_requireBound_0 : decode cX6_requireBound 0 = .ok (.iload_n 0, 1) := by decide +kernel
theorem dX6_requireBound_1 : decode cX6_requireBound 1 = .ok (.iconst 1, 1) := by decide +kernel
theorem dX6_requireBound_2 : decode cX6_requireBound 2 = .ok (.if_icmp .lt 9, 3) := by decide +kernel
theorem dX6_requireBound_5 : decode cX6_requireBound 5 = .ok (.iload_n 0, 1) := by decide +kernel
theorem dX6_requireBound_6 : decode cX6_requireBound 6 = .ok (.bipush 30, 2) := by decide +kernel
theorem dX6_requireBound_8 : decode cX6_requireBound 8 = .ok (.if_icmp .le 14, 3) := by decide +kernel
theorem dX6_requireBound_11 : decode cX6_requireBound 11 = .ok (.new 156, 3) := by decide +kernel
theorem dX6_requireBound_14 : decode cX6_requireBound 14 = .ok (.dup, 1) := by decide +kernel
theorem dX6_requireBound_15 : decode cX6_requireBound 15 = .ok (.ldc_w 396, 3) := by decide +kernel
theorem dX6_requireBound_18 : decode cX6_requireBound 18 = .ok (.invokespecial 160, 3) := by decide +kernel
theorem dX6_requireBound_21 : decode cX6_requireBound 21 = .ok (.athrow, 1) := by decide +kernel
theorem dX6_requireBound_22 : decode cX6_requireBound 22 = .ok (.return_, 1) := by decide +kernel
theorem dX6_requireRow_0 : decode cX6_requireRow 0 = .ok (.aload_n 0, 1) := by decide +kernel
theorem dX6_requireRow_1 : decode cX6_requireRow 1 = .ok (.getfield 10, 3) := by decide +kernel
theorem dX6_requireRow_4 : decode cX6_requireRow 4 = .ok (.getfield 62, 3) := by decide +kernel
theorem dX6_requireRow_7 : decode cX6_requireRow 7 = .ok (.iload_n 1, 1) := by decide +kernel
theorem dX6_requireRow_8 : decode cX6_requireRow 8 = .ok (.invokevirtual 66, 3) := by decide +kernel
theorem dX6_requireRow_11 : decode cX6_requireRow 11 = .ok (.ifCond .eq 14, 3) := by decide +kernel
theorem dX6_requireRow_14 : decode cX6_requireRow 14 = .ok (.new 72, 3) := by decide +kernel
theorem dX6_requireRow_17 : decode cX6_requireRow 17 = .ok (.dup, 1) := by decide +kernel
theorem dX6_requireRow_18 : decode cX6_requireRow 18 = .ok (.ldc_w 398, 3) := by decide +kernel
theorem dX6_requireRow_21 : decode cX6_requireRow 21 = .ok (.invokespecial 76, 3) := by decide +kernel
theorem dX6_requireRow_24 : decode cX6_requireRow 24 = .ok (.athrow, 1) := by decide +kernel
theorem dX6_requireRow_25 : decode cX6_requireRow 25 = .ok (.return_, 1) := by decide +kernel
theorem dX6_requireAmounts_0 : decode cX6_requireAmounts 0 = .ok (.aload_n 0, 1) := by decide +kernel
theorem dX6_requireAmounts_1 : decode cX6_requireAmounts 1 = .ok (.getfield 238, 3) := by decide +kernel
theorem dX6_requireAmounts_4 : decode cX6_requireAmounts 4 = .ok (.iconst 1, 1) := by decide +kernel
theorem dX6_requireAmounts_5 : decode cX6_requireAmounts 5 = .ok (.if_icmp .ge 14, 3) := by decide +kernel
theorem dX6_requireAmounts_8 : decode cX6_requireAmounts 8 = .ok (.new 72, 3) := by decide +kernel
theorem dX6_requireAmounts_11 : decode cX6_requireAmounts 11 = .ok (.dup, 1) := by decide +kernel
theorem dX6_requireAmounts_12 : decode cX6_requireAmounts 12 = .ok (.ldc_w 400, 3) := by decide +kernel
theorem dX6_requireAmounts_15 : decode cX6_requireAmounts 15 = .ok (.invokespecial 76, 3) := by decide +kernel
theorem dX6_requireAmounts_18 : decode cX6_requireAmounts 18 = .ok (.athrow, 1) := by decide +kernel
theorem dX6_requireAmounts_19 : decode cX6_requireAmounts 19 = .ok (.return_, 1) := by decide +kernel
theorem dX6_heldBy_0 : decode cX6_heldBy 0 = .ok (.iload_n 1, 1) := by decide +kernel
theorem dX6_heldBy_1 : decode cX6_heldBy 1 = .ok (.invokestatic 106, 3) := by decide +kernel
theorem dX6_heldBy_4 : decode cX6_heldBy 4 = .ok (.iload_n 2, 1) := by decide +kernel
theorem dX6_heldBy_5 : decode cX6_heldBy 5 = .ok (.invokestatic 56, 3) := by decide +kernel
theorem dX6_heldBy_8 : decode cX6_heldBy 8 = .ok (.aload_n 0, 1) := by decide +kernel
theorem dX6_heldBy_9 : decode cX6_heldBy 9 = .ok (.getfield 10, 3) := by decide +kernel
theorem dX6_heldBy_12 : decode cX6_heldBy 12 = .ok (.getfield 109, 3) := by decide +kernel
theorem dX6_heldBy_15 : decode cX6_heldBy 15 = .ok (.iload_n 1, 1) := by decide +kernel
theorem dX6_heldBy_16 : decode cX6_heldBy 16 = .ok (.aaload, 1) := by decide +kernel
theorem dX6_heldBy_17 : decode cX6_heldBy 17 = .ok (.getfield 402, 3) := by decide +kernel
theorem dX6_heldBy_20 : decode cX6_heldBy 20 = .ok (.iload_n 2, 1) := by decide +kernel
theorem dX6_heldBy_21 : decode cX6_heldBy 21 = .ok (.aaload, 1) := by decide +kernel
theorem dX6_heldBy_22 : decode cX6_heldBy 22 = .ok (.areturn, 1) := by decide +kernel
theorem dX6_inTable_0 : decode cX6_inTable 0 = .ok (.iload_n 1, 1) := by decide +kernel
theorem dX6_inTable_1 : decode cX6_inTable 1 = .ok (.invokestatic 106, 3) := by decide +kernel
theorem dX6_inTable_4 : decode cX6_inTable 4 = .ok (.iload_n 2, 1) := by decide +kernel
theorem dX6_inTable_5 : decode cX6_inTable 5 = .ok (.invokestatic 56, 3) := by decide +kernel
theorem dX6_inTable_8 : decode cX6_inTable 8 = .ok (.aload_n 0, 1) := by decide +kernel
theorem dX6_inTable_9 : decode cX6_inTable 9 = .ok (.getfield 41, 3) := by decide +kernel
theorem dX6_inTable_12 : decode cX6_inTable 12 = .ok (.aload_n 0, 1) := by decide +kernel
theorem dX6_inTable_13 : decode cX6_inTable 13 = .ok (.getfield 10, 3) := by decide +kernel
theorem dX6_inTable_16 : decode cX6_inTable 16 = .ok (.getfield 62, 3) := by decide +kernel
theorem dX6_inTable_19 : decode cX6_inTable 19 = .ok (.iload_n 2, 1) := by decide +kernel
theorem dX6_inTable_20 : decode cX6_inTable 20 = .ok (.aload_n 0, 1) := by decide +kernel
theorem dX6_inTable_21 : decode cX6_inTable 21 = .ok (.getfield 10, 3) := by decide +kernel
theorem dX6_inTable_24 : decode cX6_inTable 24 = .ok (.getfield 109, 3) := by decide +kernel
theorem dX6_inTable_27 : decode cX6_inTable 27 = .ok (.iload_n 1, 1) := by decide +kernel
theorem dX6_inTable_28 : decode cX6_inTable 28 = .ok (.aaload, 1) := by decide +kernel
theorem dX6_inTable_29 : decode cX6_inTable 29 = .ok (.getfield 141, 3) := by decide +kernel
theorem dX6_inTable_32 : decode cX6_inTable 32 = .ok (.invokevirtual 406, 3) := by decide +kernel
theorem dX6_inTable_35 : decode cX6_inTable 35 = .ok (.aload_n 0, 1) := by decide +kernel
theorem dX6_inTable_36 : decode cX6_inTable 36 = .ok (.getfield 41, 3) := by decide +kernel
theorem dX6_inTable_39 : decode cX6_inTable 39 = .ok (.areturn, 1) := by decide +kernel
theorem dX6_unlikeMask_0 : decode cX6_unlikeMask 0 = .ok (.iconst 0, 1) := by decide +kernel
theorem dX6_unlikeMask_1 : decode cX6_unlikeMask 1 = .ok (.istore_n 2, 1) := by decide +kernel
theorem dX6_unlikeMask_2 : decode cX6_unlikeMask 2 = .ok (.iconst 0, 1) := by decide +kernel
theorem dX6_unlikeMask_3 : decode cX6_unlikeMask 3 = .ok (.istore_n 3, 1) := by decide +kernel
theorem dX6_unlikeMask_4 : decode cX6_unlikeMask 4 = .ok (.iload_n 3, 1) := by decide +kernel
theorem dX6_unlikeMask_5 : decode cX6_unlikeMask 5 = .ok (.iconst 4, 1) := by decide +kernel
theorem dX6_unlikeMask_6 : decode cX6_unlikeMask 6 = .ok (.if_icmp .ge 50, 3) := by decide +kernel
theorem dX6_unlikeMask_9 : decode cX6_unlikeMask 9 = .ok (.aload_n 0, 1) := by decide +kernel
theorem dX6_unlikeMask_10 : decode cX6_unlikeMask 10 = .ok (.getfield 41, 3) := by decide +kernel
theorem dX6_unlikeMask_13 : decode cX6_unlikeMask 13 = .ok (.aload_n 0, 1) := by decide +kernel
theorem dX6_unlikeMask_14 : decode cX6_unlikeMask 14 = .ok (.getfield 10, 3) := by decide +kernel
theorem dX6_unlikeMask_17 : decode cX6_unlikeMask 17 = .ok (.getfield 62, 3) := by decide +kernel
theorem dX6_unlikeMask_20 : decode cX6_unlikeMask 20 = .ok (.iload_n 3, 1) := by decide +kernel
theorem dX6_unlikeMask_21 : decode cX6_unlikeMask 21 = .ok (.aload_n 1, 1) := by decide +kernel
theorem dX6_unlikeMask_22 : decode cX6_unlikeMask 22 = .ok (.getfield 141, 3) := by decide +kernel
theorem dX6_unlikeMask_25 : decode cX6_unlikeMask 25 = .ok (.invokevirtual 406, 3) := by decide +kernel
theorem dX6_unlikeMask_28 : decode cX6_unlikeMask 28 = .ok (.aload_n 0, 1) := by decide +kernel
theorem dX6_unlikeMask_29 : decode cX6_unlikeMask 29 = .ok (.getfield 41, 3) := by decide +kernel
theorem dX6_unlikeMask_32 : decode cX6_unlikeMask 32 = .ok (.aload_n 1, 1) := by decide +kernel
theorem dX6_unlikeMask_33 : decode cX6_unlikeMask 33 = .ok (.getfield 402, 3) := by decide +kernel
theorem dX6_unlikeMask_36 : decode cX6_unlikeMask 36 = .ok (.iload_n 3, 1) := by decide +kernel
theorem dX6_unlikeMask_37 : decode cX6_unlikeMask 37 = .ok (.aaload, 1) := by decide +kernel
theorem dX6_unlikeMask_38 : decode cX6_unlikeMask 38 = .ok (.invokevirtual 410, 3) := by decide +kernel
theorem dX6_unlikeMask_41 : decode cX6_unlikeMask 41 = .ok (.ifCond .ne 9, 3) := by decide +kernel
theorem dX6_unlikeMask_44 : decode cX6_unlikeMask 44 = .ok (.iload_n 2, 1) := by decide +kernel
theorem dX6_unlikeMask_45 : decode cX6_unlikeMask 45 = .ok (.iconst 1, 1) := by decide +kernel
theorem dX6_unlikeMask_46 : decode cX6_unlikeMask 46 = .ok (.iload_n 3, 1) := by decide +kernel
theorem dX6_unlikeMask_47 : decode cX6_unlikeMask 47 = .ok (.ishl, 1) := by decide +kernel
theorem dX6_unlikeMask_48 : decode cX6_unlikeMask 48 = .ok (.ior, 1) := by decide +kernel
theorem dX6_unlikeMask_49 : decode cX6_unlikeMask 49 = .ok (.istore_n 2, 1) := by decide +kernel
theorem dX6_unlikeMask_50 : decode cX6_unlikeMask 50 = .ok (.iinc 3 1, 3) := by decide +kernel
theorem dX6_unlikeMask_53 : decode cX6_unlikeMask 53 = .ok (.goto (-49), 3) := by decide +kernel
theorem dX6_unlikeMask_56 : decode cX6_unlikeMask 56 = .ok (.iload_n 2, 1) := by decide +kernel
theorem dX6_unlikeMask_57 : decode cX6_unlikeMask 57 = .ok (.ireturn, 1) := by decide +kernel
theorem dX6_saveState_0 : decode cX6_saveState 0 = .ok (.aload_n 0, 1) := by decide +kernel
theorem dX6_saveState_1 : decode cX6_saveState 1 = .ok (.getfield 20, 3) := by decide +kernel
theorem dX6_saveState_4 : decode cX6_saveState 4 = .ok (.aload_n 0, 1) := by decide +kernel
theorem dX6_saveState_5 : decode cX6_saveState 5 = .ok (.getfield 16, 3) := by decide +kernel
theorem dX6_saveState_8 : decode cX6_saveState 8 = .ok (.arraylength, 1) := by decide +kernel
theorem dX6_saveState_9 : decode cX6_saveState 9 = .ok (.if_icmp .lt 7, 3) := by decide +kernel
theorem dX6_saveState_12 : decode cX6_saveState 12 = .ok (.aload_n 0, 1) := by decide +kernel
theorem dX6_saveState_13 : decode cX6_saveState 13 = .ok (.invokevirtual 414, 3) := by decide +kernel
theorem dX6_saveState_16 : decode cX6_saveState 16 = .ok (.aload_n 0, 1) := by decide +kernel
theorem dX6_saveState_17 : decode cX6_saveState 17 = .ok (.getfield 16, 3) := by decide +kernel
theorem dX6_saveState_20 : decode cX6_saveState 20 = .ok (.aload_n 0, 1) := by decide +kernel
theorem dX6_saveState_21 : decode cX6_saveState 21 = .ok (.getfield 20, 3) := by decide +kernel
theorem dX6_saveState_24 : decode cX6_saveState 24 = .ok (.aaload, 1) := by decide +kernel
theorem dX6_saveState_25 : decode cX6_saveState 25 = .ok (.aload_n 0, 1) := by decide +kernel
theorem dX6_saveState_26 : decode cX6_saveState 26 = .ok (.getfield 10, 3) := by decide +kernel
theorem dX6_saveState_29 : decode cX6_saveState 29 = .ok (.invokevirtual 198, 3) := by decide +kernel
theorem dX6_saveState_32 : decode cX6_saveState 32 = .ok (.aload_n 0, 1) := by decide +kernel
theorem dX6_saveState_33 : decode cX6_saveState 33 = .ok (.dup, 1) := by decide +kernel
theorem dX6_saveState_34 : decode cX6_saveState 34 = .ok (.getfield 20, 3) := by decide +kernel
theorem dX6_saveState_37 : decode cX6_saveState 37 = .ok (.iconst 1, 1) := by decide +kernel
theorem dX6_saveState_38 : decode cX6_saveState 38 = .ok (.iadd, 1) := by decide +kernel
theorem dX6_saveState_39 : decode cX6_saveState 39 = .ok (.putfield 20, 3) := by decide +kernel
theorem dX6_saveState_42 : decode cX6_saveState 42 = .ok (.return_, 1) := by decide +kernel
theorem dX6_dropOldestSaved_0 : decode cX6_dropOldestSaved 0 = .ok (.aload_n 0, 1) := by decide +kernel
theorem dX6_dropOldestSaved_1 : decode cX6_dropOldestSaved 1 = .ok (.getfield 16, 3) := by decide +kernel
theorem dX6_dropOldestSaved_4 : decode cX6_dropOldestSaved 4 = .ok (.iconst 0, 1) := by decide +kernel
theorem dX6_dropOldestSaved_5 : decode cX6_dropOldestSaved 5 = .ok (.aaload, 1) := by decide +kernel
theorem dX6_dropOldestSaved_6 : decode cX6_dropOldestSaved 6 = .ok (.astore_n 1, 1) := by decide +kernel
theorem dX6_dropOldestSaved_7 : decode cX6_dropOldestSaved 7 = .ok (.iconst 1, 1) := by decide +kernel
theorem dX6_dropOldestSaved_8 : decode cX6_dropOldestSaved 8 = .ok (.istore_n 2, 1) := by decide +kernel
theorem dX6_dropOldestSaved_9 : decode cX6_dropOldestSaved 9 = .ok (.iload_n 2, 1) := by decide +kernel
theorem dX6_dropOldestSaved_10 : decode cX6_dropOldestSaved 10 = .ok (.aload_n 0, 1) := by decide +kernel
theorem dX6_dropOldestSaved_11 : decode cX6_dropOldestSaved 11 = .ok (.getfield 16, 3) := by decide +kernel
theorem dX6_dropOldestSaved_14 : decode cX6_dropOldestSaved 14 = .ok (.arraylength, 1) := by decide +kernel
theorem dX6_dropOldestSaved_15 : decode cX6_dropOldestSaved 15 = .ok (.if_icmp .ge 23, 3) := by decide +kernel
theorem dX6_dropOldestSaved_18 : decode cX6_dropOldestSaved 18 = .ok (.aload_n 0, 1) := by decide +kernel
theorem dX6_dropOldestSaved_19 : decode cX6_dropOldestSaved 19 = .ok (.getfield 16, 3) := by decide +kernel
theorem dX6_dropOldestSaved_22 : decode cX6_dropOldestSaved 22 = .ok (.iload_n 2, 1) := by decide +kernel
theorem dX6_dropOldestSaved_23 : decode cX6_dropOldestSaved 23 = .ok (.iconst 1, 1) := by decide +kernel
theorem dX6_dropOldestSaved_24 : decode cX6_dropOldestSaved 24 = .ok (.isub, 1) := by decide +kernel
theorem dX6_dropOldestSaved_25 : decode cX6_dropOldestSaved 25 = .ok (.aload_n 0, 1) := by decide +kernel
theorem dX6_dropOldestSaved_26 : decode cX6_dropOldestSaved 26 = .ok (.getfield 16, 3) := by decide +kernel
theorem dX6_dropOldestSaved_29 : decode cX6_dropOldestSaved 29 = .ok (.iload_n 2, 1) := by decide +kernel
theorem dX6_dropOldestSaved_30 : decode cX6_dropOldestSaved 30 = .ok (.aaload, 1) := by decide +kernel
theorem dX6_dropOldestSaved_31 : decode cX6_dropOldestSaved 31 = .ok (.aastore, 1) := by decide +kernel
theorem dX6_dropOldestSaved_32 : decode cX6_dropOldestSaved 32 = .ok (.iinc 2 1, 3) := by decide +kernel
theorem dX6_dropOldestSaved_35 : decode cX6_dropOldestSaved 35 = .ok (.goto (-26), 3) := by decide +kernel
theorem dX6_dropOldestSaved_38 : decode cX6_dropOldestSaved 38 = .ok (.aload_n 0, 1) := by decide +kernel
theorem dX6_dropOldestSaved_39 : decode cX6_dropOldestSaved 39 = .ok (.getfield 16, 3) := by decide +kernel
theorem dX6_dropOldestSaved_42 : decode cX6_dropOldestSaved 42 = .ok (.aload_n 0, 1) := by decide +kernel
theorem dX6_dropOldestSaved_43 : decode cX6_dropOldestSaved 43 = .ok (.getfield 16, 3) := by decide +kernel
theorem dX6_dropOldestSaved_46 : decode cX6_dropOldestSaved 46 = .ok (.arraylength, 1) := by decide +kernel
theorem dX6_dropOldestSaved_47 : decode cX6_dropOldestSaved 47 = .ok (.iconst 1, 1) := by decide +kernel
theorem dX6_dropOldestSaved_48 : decode cX6_dropOldestSaved 48 = .ok (.isub, 1) := by decide +kernel
theorem dX6_dropOldestSaved_49 : decode cX6_dropOldestSaved 49 = .ok (.aload_n 1, 1) := by decide +kernel
theorem dX6_dropOldestSaved_50 : decode cX6_dropOldestSaved 50 = .ok (.aastore, 1) := by decide +kernel
theorem dX6_dropOldestSaved_51 : decode cX6_dropOldestSaved 51 = .ok (.aload_n 0, 1) := by decide +kernel
theorem dX6_dropOldestSaved_52 : decode cX6_dropOldestSaved 52 = .ok (.aload_n 0, 1) := by decide +kernel
theorem dX6_dropOldestSaved_53 : decode cX6_dropOldestSaved 53 = .ok (.getfield 16, 3) := by decide +kernel
theorem dX6_dropOldestSaved_56 : decode cX6_dropOldestSaved 56 = .ok (.arraylength, 1) := by decide +kernel
theorem dX6_dropOldestSaved_57 : decode cX6_dropOldestSaved 57 = .ok (.iconst 1, 1) := by decide +kernel
theorem dX6_dropOldestSaved_58 : decode cX6_dropOldestSaved 58 = .ok (.isub, 1) := by decide +kernel
theorem dX6_dropOldestSaved_59 : decode cX6_dropOldestSaved 59 = .ok (.putfield 20, 3) := by decide +kernel
theorem dX6_dropOldestSaved_62 : decode cX6_dropOldestSaved 62 = .ok (.return_, 1) := by decide +kernel
theorem dJ9_max_7cf53_0 : decode cJ9_max_7cf53 0 = .ok (.iload_n 0, 1) := by decide +kernel
theorem dJ9_max_7cf53_1 : decode cJ9_max_7cf53 1 = .ok (.iload_n 1, 1) := by decide +kernel
theorem dJ9_max_7cf53_2 : decode cJ9_max_7cf53 2 = .ok (.if_icmp .lt 7, 3) := by decide +kernel
theorem dJ9_max_7cf53_5 : decode cJ9_max_7cf53 5 = .ok (.iload_n 0, 1) := by decide +kernel
theorem dJ9_max_7cf53_6 : decode cJ9_max_7cf53 6 = .ok (.goto 4, 3) := by decide +kernel
theorem dJ9_max_7cf53_9 : decode cJ9_max_7cf53 9 = .ok (.iload_n 1, 1) := by decide +kernel
theorem dJ9_max_7cf53_10 : decode cJ9_max_7cf53 10 = .ok (.ireturn, 1) := by decide +kernel
