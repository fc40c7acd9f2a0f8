theorem dX0_init_0 : decode cX0_init 0 = .ok (.aload_n 0, 1) := by decide +kernel
theorem dX0_init_1 : decode cX0_init 1 = .ok (.invokespecial 3, 3) := by decide +kernel
theorem dX0_init_4 : decode cX0_init 4 = .ok (.aload_n 0, 1) := by decide +kernel
theorem dX0_init_5 : decode cX0_init 5 = .ok (.bipush 100, 2) := by decide +kernel
theorem dX0_init_7 : decode cX0_init 7 = .ok (.newarray .boolean, 2) := by decide +kernel
theorem dX0_init_9 : decode cX0_init 9 = .ok (.putfield 9, 3) := by decide +kernel
theorem dX0_init_12 : decode cX0_init 12 = .ok (.aload_n 0, 1) := by decide +kernel
theorem dX0_init_13 : decode cX0_init 13 = .ok (.bipush 100, 2) := by decide +kernel
theorem dX0_init_15 : decode cX0_init 15 = .ok (.newarray .int, 2) := by decide +kernel
theorem dX0_init_17 : decode cX0_init 17 = .ok (.putfield 15, 3) := by decide +kernel
theorem dX0_init_20 : decode cX0_init 20 = .ok (.aload_n 0, 1) := by decide +kernel
theorem dX0_init_21 : decode cX0_init 21 = .ok (.bipush 100, 2) := by decide +kernel
theorem dX0_init_23 : decode cX0_init 23 = .ok (.newarray .int, 2) := by decide +kernel
theorem dX0_init_25 : decode cX0_init 25 = .ok (.putfield 19, 3) := by decide +kernel
theorem dX0_init_28 : decode cX0_init 28 = .ok (.aload_n 0, 1) := by decide +kernel
theorem dX0_init_29 : decode cX0_init 29 = .ok (.bipush 100, 2) := by decide +kernel
theorem dX0_init_31 : decode cX0_init 31 = .ok (.newarray .int, 2) := by decide +kernel
theorem dX0_init_33 : decode cX0_init 33 = .ok (.putfield 22, 3) := by decide +kernel
theorem dX0_init_36 : decode cX0_init 36 = .ok (.aload_n 0, 1) := by decide +kernel
theorem dX0_init_37 : decode cX0_init 37 = .ok (.iconst 5, 1) := by decide +kernel
theorem dX0_init_38 : decode cX0_init 38 = .ok (.newarray .int, 2) := by decide +kernel
theorem dX0_init_40 : decode cX0_init 40 = .ok (.putfield 25, 3) := by decide +kernel
theorem dX0_init_43 : decode cX0_init 43 = .ok (.aload_n 0, 1) := by decide +kernel
theorem dX0_init_44 : decode cX0_init 44 = .ok (.iload_n 1, 1) := by decide +kernel
theorem dX0_init_45 : decode cX0_init 45 = .ok (.anewarray 28, 3) := by decide +kernel
theorem dX0_init_48 : decode cX0_init 48 = .ok (.putfield 30, 3) := by decide +kernel
theorem dX0_init_51 : decode cX0_init 51 = .ok (.iconst 0, 1) := by decide +kernel
theorem dX0_init_52 : decode cX0_init 52 = .ok (.istore_n 2, 1) := by decide +kernel
theorem dX0_init_53 : decode cX0_init 53 = .ok (.iload_n 2, 1) := by decide +kernel
theorem dX0_init_54 : decode cX0_init 54 = .ok (.iload_n 1, 1) := by decide +kernel
theorem dX0_init_55 : decode cX0_init 55 = .ok (.if_icmp .ge 22, 3) := by decide +kernel
theorem dX0_init_58 : decode cX0_init 58 = .ok (.aload_n 0, 1) := by decide +kernel
theorem dX0_init_59 : decode cX0_init 59 = .ok (.getfield 30, 3) := by decide +kernel
theorem dX0_init_62 : decode cX0_init 62 = .ok (.iload_n 2, 1) := by decide +kernel
theorem dX0_init_63 : decode cX0_init 63 = .ok (.new 28, 3) := by decide +kernel
theorem dX0_init_66 : decode cX0_init 66 = .ok (.dup, 1) := by decide +kernel
theorem dX0_init_67 : decode cX0_init 67 = .ok (.invokespecial 34, 3) := by decide +kernel
theorem dX0_init_70 : decode cX0_init 70 = .ok (.aastore, 1) := by decide +kernel
theorem dX0_init_71 : decode cX0_init 71 = .ok (.iinc 2 1, 3) := by decide +kernel
theorem dX0_init_74 : decode cX0_init 74 = .ok (.goto (-21), 3) := by decide +kernel
theorem dX0_init_77 : decode cX0_init 77 = .ok (.return_, 1) := by decide +kernel
theorem dX0_begin_0 : decode cX0_begin 0 = .ok (.aload_n 0, 1) := by decide +kernel
theorem dX0_begin_1 : decode cX0_begin 1 = .ok (.invokevirtual 35, 3) := by decide +kernel
theorem dX0_begin_4 : decode cX0_begin 4 = .ok (.aload_n 0, 1) := by decide +kernel
theorem dX0_begin_5 : decode cX0_begin 5 = .ok (.iconst 1, 1) := by decide +kernel
theorem dX0_begin_6 : decode cX0_begin 6 = .ok (.putfield 38, 3) := by decide +kernel
theorem dX0_begin_9 : decode cX0_begin 9 = .ok (.aload_n 0, 1) := by decide +kernel
theorem dX0_begin_10 : decode cX0_begin 10 = .ok (.iload_n 1, 1) := by decide +kernel
theorem dX0_begin_11 : decode cX0_begin 11 = .ok (.putfield 42, 3) := by decide +kernel
theorem dX0_begin_14 : decode cX0_begin 14 = .ok (.return_, 1) := by decide +kernel
theorem dX0_end_0 : decode cX0_end 0 = .ok (.aload_n 0, 1) := by decide +kernel
theorem dX0_end_1 : decode cX0_end 1 = .ok (.getfield 38, 3) := by decide +kernel
theorem dX0_end_4 : decode cX0_end 4 = .ok (.ifCond .ne 4, 3) := by decide +kernel
theorem dX0_end_7 : decode cX0_end 7 = .ok (.return_, 1) := by decide +kernel
theorem dX0_end_8 : decode cX0_end 8 = .ok (.iconst 0, 1) := by decide +kernel
theorem dX0_end_9 : decode cX0_end 9 = .ok (.istore_n 1, 1) := by decide +kernel
theorem dX0_end_10 : decode cX0_end 10 = .ok (.iload_n 1, 1) := by decide +kernel
theorem dX0_end_11 : decode cX0_end 11 = .ok (.bipush 100, 2) := by decide +kernel
theorem dX0_end_13 : decode cX0_end 13 = .ok (.if_icmp .ge 16, 3) := by decide +kernel
theorem dX0_end_16 : decode cX0_end 16 = .ok (.aload_n 0, 1) := by decide +kernel
theorem dX0_end_17 : decode cX0_end 17 = .ok (.getfield 9, 3) := by decide +kernel
theorem dX0_end_20 : decode cX0_end 20 = .ok (.iload_n 1, 1) := by decide +kernel
theorem dX0_end_21 : decode cX0_end 21 = .ok (.iconst 0, 1) := by decide +kernel
theorem dX0_end_22 : decode cX0_end 22 = .ok (.bastore, 1) := by decide +kernel
theorem dX0_end_23 : decode cX0_end 23 = .ok (.iinc 1 1, 3) := by decide +kernel
theorem dX0_end_26 : decode cX0_end 26 = .ok (.goto (-16), 3) := by decide +kernel
theorem dX0_end_29 : decode cX0_end 29 = .ok (.aload_n 0, 1) := by decide +kernel
theorem dX0_end_30 : decode cX0_end 30 = .ok (.getfield 19, 3) := by decide +kernel
theorem dX0_end_33 : decode cX0_end 33 = .ok (.iconst 0, 1) := by decide +kernel
theorem dX0_end_34 : decode cX0_end 34 = .ok (.invokestatic 45, 3) := by decide +kernel
theorem dX0_end_37 : decode cX0_end 37 = .ok (.aload_n 0, 1) := by decide +kernel
theorem dX0_end_38 : decode cX0_end 38 = .ok (.getfield 22, 3) := by decide +kernel
theorem dX0_end_41 : decode cX0_end 41 = .ok (.iconst 0, 1) := by decide +kernel
theorem dX0_end_42 : decode cX0_end 42 = .ok (.invokestatic 45, 3) := by decide +kernel
theorem dX0_end_45 : decode cX0_end 45 = .ok (.aload_n 0, 1) := by decide +kernel
theorem dX0_end_46 : decode cX0_end 46 = .ok (.getfield 25, 3) := by decide +kernel
theorem dX0_end_49 : decode cX0_end 49 = .ok (.iconst 0, 1) := by decide +kernel
theorem dX0_end_50 : decode cX0_end 50 = .ok (.invokestatic 45, 3) := by decide +kernel
theorem dX0_end_53 : decode cX0_end 53 = .ok (.aload_n 0, 1) := by decide +kernel
theorem dX0_end_54 : decode cX0_end 54 = .ok (.iconst 0, 1) := by decide +kernel
theorem dX0_end_55 : decode cX0_end 55 = .ok (.putfield 38, 3) := by decide +kernel
theorem dX0_end_58 : decode cX0_end 58 = .ok (.aload_n 0, 1) := by decide +kernel
theorem dX0_end_59 : decode cX0_end 59 = .ok (.iconst 0, 1) := by decide +kernel
theorem dX0_end_60 : decode cX0_end 60 = .ok (.putfield 42, 3) := by decide +kernel
theorem dX0_end_63 : decode cX0_end 63 = .ok (.aload_n 0, 1) := by decide +kernel
theorem dX0_end_64 : decode cX0_end 64 = .ok (.iconst 0, 1) := by decide +kernel
theorem dX0_end_65 : decode cX0_end 65 = .ok (.putfield 51, 3) := by decide +kernel
theorem dX0_end_68 : decode cX0_end 68 = .ok (.aload_n 0, 1) := by decide +kernel
theorem dX0_end_69 : decode cX0_end 69 = .ok (.iconst 0, 1) := by decide +kernel
theorem dX0_end_70 : decode cX0_end 70 = .ok (.putfield 54, 3) := by decide +kernel
theorem dX0_end_73 : decode cX0_end 73 = .ok (.aload_n 0, 1) := by decide +kernel
theorem dX0_end_74 : decode cX0_end 74 = .ok (.iconst 0, 1) := by decide +kernel
theorem dX0_end_75 : decode cX0_end 75 = .ok (.putfield 57, 3) := by decide +kernel
theorem dX0_end_78 : decode cX0_end 78 = .ok (.aload_n 0, 1) := by decide +kernel
theorem dX0_end_79 : decode cX0_end 79 = .ok (.iconst 0, 1) := by decide +kernel
theorem dX0_end_80 : decode cX0_end 80 = .ok (.putfield 60, 3) := by decide +kernel
theorem dX0_end_83 : decode cX0_end 83 = .ok (.aload_n 0, 1) := by decide +kernel
theorem dX0_end_84 : decode cX0_end 84 = .ok (.iconst 0, 1) := by decide +kernel
theorem dX0_end_85 : decode cX0_end 85 = .ok (.putfield 63, 3) := by decide +kernel
theorem dX0_end_88 : decode cX0_end 88 = .ok (.return_, 1) := by decide +kernel
theorem dX0_countPromise_0 : decode cX0_countPromise 0 = .ok (.iload_n 1, 1) := by decide +kernel
theorem dX0_countPromise_1 : decode cX0_countPromise 1 = .ok (.ifCond .lt 34, 3) := by decide +kernel
theorem dX0_countPromise_4 : decode cX0_countPromise 4 = .ok (.iload_n 1, 1) := by decide +kernel
theorem dX0_countPromise_5 : decode cX0_countPromise 5 = .ok (.aload_n 0, 1) := by decide +kernel
theorem dX0_countPromise_6 : decode cX0_countPromise 6 = .ok (.getfield 30, 3) := by decide +kernel
theorem dX0_countPromise_9 : decode cX0_countPromise 9 = .ok (.arraylength, 1) := by decide +kernel
theorem dX0_countPromise_10 : decode cX0_countPromise 10 = .ok (.if_icmp .ge 25, 3) := by decide +kernel
theorem dX0_countPromise_13 : decode cX0_countPromise 13 = .ok (.aload_n 0, 1) := by decide +kernel
theorem dX0_countPromise_14 : decode cX0_countPromise 14 = .ok (.getfield 30, 3) := by decide +kernel
theorem dX0_countPromise_17 : decode cX0_countPromise 17 = .ok (.iload_n 1, 1) := by decide +kernel
theorem dX0_countPromise_18 : decode cX0_countPromise 18 = .ok (.aaload, 1) := by decide +kernel
theorem dX0_countPromise_19 : decode cX0_countPromise 19 = .ok (.aload_n 2, 1) := by decide +kernel
theorem dX0_countPromise_20 : decode cX0_countPromise 20 = .ok (.invokevirtual 66, 3) := by decide +kernel
theorem dX0_countPromise_23 : decode cX0_countPromise 23 = .ok (.aload_n 0, 1) := by decide +kernel
theorem dX0_countPromise_24 : decode cX0_countPromise 24 = .ok (.dup, 1) := by decide +kernel
theorem dX0_countPromise_25 : decode cX0_countPromise 25 = .ok (.getfield 54, 3) := by decide +kernel
theorem dX0_countPromise_28 : decode cX0_countPromise 28 = .ok (.iconst 1, 1) := by decide +kernel
theorem dX0_countPromise_29 : decode cX0_countPromise 29 = .ok (.iload_n 1, 1) := by decide +kernel
theorem dX0_countPromise_30 : decode cX0_countPromise 30 = .ok (.ishl, 1) := by decide +kernel
theorem dX0_countPromise_31 : decode cX0_countPromise 31 = .ok (.ior, 1) := by decide +kernel
theorem dX0_countPromise_32 : decode cX0_countPromise 32 = .ok (.putfield 54, 3) := by decide +kernel
theorem dX0_countPromise_35 : decode cX0_countPromise 35 = .ok (.return_, 1) := by decide +kernel
theorem dX0_promisedFor_0 : decode cX0_promisedFor 0 = .ok (.iconst 0, 1) := by decide +kernel
theorem dX0_promisedFor_1 : decode cX0_promisedFor 1 = .ok (.istore_n 2, 1) := by decide +kernel
theorem dX0_promisedFor_2 : decode cX0_promisedFor 2 = .ok (.iconst 0, 1) := by decide +kernel
theorem dX0_promisedFor_3 : decode cX0_promisedFor 3 = .ok (.istore_n 3, 1) := by decide +kernel
theorem dX0_promisedFor_4 : decode cX0_promisedFor 4 = .ok (.iload_n 3, 1) := by decide +kernel
theorem dX0_promisedFor_5 : decode cX0_promisedFor 5 = .ok (.aload_n 0, 1) := by decide +kernel
theorem dX0_promisedFor_6 : decode cX0_promisedFor 6 = .ok (.getfield 30, 3) := by decide +kernel
theorem dX0_promisedFor_9 : decode cX0_promisedFor 9 = .ok (.arraylength, 1) := by decide +kernel
theorem dX0_promisedFor_10 : decode cX0_promisedFor 10 = .ok (.if_icmp .ge 39, 3) := by decide +kernel
theorem dX0_promisedFor_13 : decode cX0_promisedFor 13 = .ok (.aload_n 0, 1) := by decide +kernel
theorem dX0_promisedFor_14 : decode cX0_promisedFor 14 = .ok (.getfield 54, 3) := by decide +kernel
theorem dX0_promisedFor_17 : decode cX0_promisedFor 17 = .ok (.iload_n 3, 1) := by decide +kernel
theorem dX0_promisedFor_18 : decode cX0_promisedFor 18 = .ok (.ishr, 1) := by decide +kernel
theorem dX0_promisedFor_19 : decode cX0_promisedFor 19 = .ok (.iconst 1, 1) := by decide +kernel
theorem dX0_promisedFor_20 : decode cX0_promisedFor 20 = .ok (.iand, 1) := by decide +kernel
theorem dX0_promisedFor_21 : decode cX0_promisedFor 21 = .ok (.ifCond .eq 22, 3) := by decide +kernel
theorem dX0_promisedFor_24 : decode cX0_promisedFor 24 = .ok (.aload_n 0, 1) := by decide +kernel
theorem dX0_promisedFor_25 : decode cX0_promisedFor 25 = .ok (.getfield 30, 3) := by decide +kernel
theorem dX0_promisedFor_28 : decode cX0_promisedFor 28 = .ok (.iload_n 3, 1) := by decide +kernel
theorem dX0_promisedFor_29 : decode cX0_promisedFor 29 = .ok (.aaload, 1) := by decide +kernel
theorem dX0_promisedFor_30 : decode cX0_promisedFor 30 = .ok (.getfield 70, 3) := by decide +kernel
theorem dX0_promisedFor_33 : decode cX0_promisedFor 33 = .ok (.iload_n 1, 1) := by decide +kernel
theorem dX0_promisedFor_34 : decode cX0_promisedFor 34 = .ok (.if_icmp .gt 9, 3) := by decide +kernel
theorem dX0_promisedFor_37 : decode cX0_promisedFor 37 = .ok (.iload_n 2, 1) := by decide +kernel
theorem dX0_promisedFor_38 : decode cX0_promisedFor 38 = .ok (.iconst 1, 1) := by decide +kernel
theorem dX0_promisedFor_39 : decode cX0_promisedFor 39 = .ok (.iload_n 3, 1) := by decide +kernel
theorem dX0_promisedFor_40 : decode cX0_promisedFor 40 = .ok (.ishl, 1) := by decide +kernel
theorem dX0_promisedFor_41 : decode cX0_promisedFor 41 = .ok (.ior, 1) := by decide +kernel
theorem dX0_promisedFor_42 : decode cX0_promisedFor 42 = .ok (.istore_n 2, 1) := by decide +kernel
theorem dX0_promisedFor_43 : decode cX0_promisedFor 43 = .ok (.iinc 3 1, 3) := by decide +kernel
theorem dX0_promisedFor_46 : decode cX0_promisedFor 46 = .ok (.goto (-42), 3) := by decide +kernel
theorem dX0_promisedFor_49 : decode cX0_promisedFor 49 = .ok (.iload_n 2, 1) := by decide +kernel
theorem dX0_promisedFor_50 : decode cX0_promisedFor 50 = .ok (.ireturn, 1) := by decide +kernel
theorem dX0_bestTold_0 : decode cX0_bestTold 0 = .ok (.iconst 0, 1) := by decide +kernel
theorem dX0_bestTold_1 : decode cX0_bestTold 1 = .ok (.istore_n 3, 1) := by decide +kernel
theorem dX0_bestTold_2 : decode cX0_bestTold 2 = .ok (.sipush (-1000), 3) := by decide +kernel
theorem dX0_bestTold_5 : decode cX0_bestTold 5 = .ok (.istore 4, 2) := by decide +kernel
theorem dX0_bestTold_7 : decode cX0_bestTold 7 = .ok (.iconst 0, 1) := by decide +kernel
theorem dX0_bestTold_8 : decode cX0_bestTold 8 = .ok (.istore 5, 2) := by decide +kernel
theorem dX0_bestTold_10 : decode cX0_bestTold 10 = .ok (.iload 5, 2) := by decide +kernel
theorem dX0_bestTold_12 : decode cX0_bestTold 12 = .ok (.aload_n 0, 1) := by decide +kernel
theorem dX0_bestTold_13 : decode cX0_bestTold 13 = .ok (.getfield 30, 3) := by decide +kernel
theorem dX0_bestTold_16 : decode cX0_bestTold 16 = .ok (.arraylength, 1) := by decide +kernel
theorem dX0_bestTold_17 : decode cX0_bestTold 17 = .ok (.if_icmp .ge 68, 3) := by decide +kernel
theorem dX0_bestTold_20 : decode cX0_bestTold 20 = .ok (.iload_n 2, 1) := by decide +kernel
theorem dX0_bestTold_21 : decode cX0_bestTold 21 = .ok (.invokestatic 73, 3) := by decide +kernel
theorem dX0_bestTold_24 : decode cX0_bestTold 24 = .ok (.ifCond .eq 61, 3) := by decide +kernel
theorem dX0_bestTold_27 : decode cX0_bestTold 27 = .ok (.iload_n 1, 1) := by decide +kernel
theorem dX0_bestTold_28 : decode cX0_bestTold 28 = .ok (.iload 5, 2) := by decide +kernel
theorem dX0_bestTold_30 : decode cX0_bestTold 30 = .ok (.ishr, 1) := by decide +kernel
theorem dX0_bestTold_31 : decode cX0_bestTold 31 = .ok (.iconst 1, 1) := by decide +kernel
theorem dX0_bestTold_32 : decode cX0_bestTold 32 = .ok (.iand, 1) := by decide +kernel
theorem dX0_bestTold_33 : decode cX0_bestTold 33 = .ok (.ifCond .eq 46, 3) := by decide +kernel
theorem dX0_bestTold_36 : decode cX0_bestTold 36 = .ok (.aload_n 0, 1) := by decide +kernel
theorem dX0_bestTold_37 : decode cX0_bestTold 37 = .ok (.getfield 30, 3) := by decide +kernel
theorem dX0_bestTold_40 : decode cX0_bestTold 40 = .ok (.iload 5, 2) := by decide +kernel
theorem dX0_bestTold_42 : decode cX0_bestTold 42 = .ok (.aaload, 1) := by decide +kernel
theorem dX0_bestTold_43 : decode cX0_bestTold 43 = .ok (.getfield 77, 3) := by decide +kernel
theorem dX0_bestTold_46 : decode cX0_bestTold 46 = .ok (.iload_n 2, 1) := by decide +kernel
theorem dX0_bestTold_47 : decode cX0_bestTold 47 = .ok (.iaload, 1) := by decide +kernel
theorem dX0_bestTold_48 : decode cX0_bestTold 48 = .ok (.iload_n 3, 1) := by decide +kernel
theorem dX0_bestTold_49 : decode cX0_bestTold 49 = .ok (.if_icmp .le 30, 3) := by decide +kernel
theorem dX0_bestTold_52 : decode cX0_bestTold 52 = .ok (.aload_n 0, 1) := by decide +kernel
theorem dX0_bestTold_53 : decode cX0_bestTold 53 = .ok (.getfield 30, 3) := by decide +kernel
theorem dX0_bestTold_56 : decode cX0_bestTold 56 = .ok (.iload 5, 2) := by decide +kernel
theorem dX0_bestTold_58 : decode cX0_bestTold 58 = .ok (.aaload, 1) := by decide +kernel
theorem dX0_bestTold_59 : decode cX0_bestTold 59 = .ok (.getfield 77, 3) := by decide +kernel
theorem dX0_bestTold_62 : decode cX0_bestTold 62 = .ok (.iload_n 2, 1) := by decide +kernel
theorem dX0_bestTold_63 : decode cX0_bestTold 63 = .ok (.iaload, 1) := by decide +kernel
theorem dX0_bestTold_64 : decode cX0_bestTold 64 = .ok (.istore_n 3, 1) := by decide +kernel
theorem dX0_bestTold_65 : decode cX0_bestTold 65 = .ok (.aload_n 0, 1) := by decide +kernel
theorem dX0_bestTold_66 : decode cX0_bestTold 66 = .ok (.getfield 30, 3) := by decide +kernel
theorem dX0_bestTold_69 : decode cX0_bestTold 69 = .ok (.iload 5, 2) := by decide +kernel
theorem dX0_bestTold_71 : decode cX0_bestTold 71 = .ok (.aaload, 1) := by decide +kernel
theorem dX0_bestTold_72 : decode cX0_bestTold 72 = .ok (.getfield 80, 3) := by decide +kernel
theorem dX0_bestTold_75 : decode cX0_bestTold 75 = .ok (.iload_n 2, 1) := by decide +kernel
theorem dX0_bestTold_76 : decode cX0_bestTold 76 = .ok (.iaload, 1) := by decide +kernel
theorem dX0_bestTold_77 : decode cX0_bestTold 77 = .ok (.istore 4, 2) := by decide +kernel
theorem dX0_bestTold_79 : decode cX0_bestTold 79 = .ok (.iinc 5 1, 3) := by decide +kernel
theorem dX0_bestTold_82 : decode cX0_bestTold 82 = .ok (.goto (-72), 3) := by decide +kernel
theorem dX0_bestTold_85 : decode cX0_bestTold 85 = .ok (.iload 4, 2) := by decide +kernel
theorem dX0_bestTold_87 : decode cX0_bestTold 87 = .ok (.ireturn, 1) := by decide +kernel
theorem dX0_toldBehind_0 : decode cX0_toldBehind 0 = .ok (.iconst 0, 1) := by decide +kernel
theorem dX0_toldBehind_1 : decode cX0_toldBehind 1 = .ok (.istore_n 3, 1) := by decide +kernel
theorem dX0_toldBehind_2 : decode cX0_toldBehind 2 = .ok (.iload_n 3, 1) := by decide +kernel
theorem dX0_toldBehind_3 : decode cX0_toldBehind 3 = .ok (.aload_n 0, 1) := by decide +kernel
theorem dX0_toldBehind_4 : decode cX0_toldBehind 4 = .ok (.getfield 30, 3) := by decide +kernel
theorem dX0_toldBehind_7 : decode cX0_toldBehind 7 = .ok (.arraylength, 1) := by decide +kernel
theorem dX0_toldBehind_8 : decode cX0_toldBehind 8 = .ok (.if_icmp .ge 34, 3) := by decide +kernel
theorem dX0_toldBehind_11 : decode cX0_toldBehind 11 = .ok (.iload_n 1, 1) := by decide +kernel
theorem dX0_toldBehind_12 : decode cX0_toldBehind 12 = .ok (.iload_n 3, 1) := by decide +kernel
theorem dX0_toldBehind_13 : decode cX0_toldBehind 13 = .ok (.ishr, 1) := by decide +kernel
theorem dX0_toldBehind_14 : decode cX0_toldBehind 14 = .ok (.iconst 1, 1) := by decide +kernel
theorem dX0_toldBehind_15 : decode cX0_toldBehind 15 = .ok (.iand, 1) := by decide +kernel
theorem dX0_toldBehind_16 : decode cX0_toldBehind 16 = .ok (.ifCond .eq 20, 3) := by decide +kernel
theorem dX0_toldBehind_19 : decode cX0_toldBehind 19 = .ok (.aload_n 0, 1) := by decide +kernel
theorem dX0_toldBehind_20 : decode cX0_toldBehind 20 = .ok (.getfield 30, 3) := by decide +kernel
theorem dX0_toldBehind_23 : decode cX0_toldBehind 23 = .ok (.iload_n 3, 1) := by decide +kernel
theorem dX0_toldBehind_24 : decode cX0_toldBehind 24 = .ok (.aaload, 1) := by decide +kernel
theorem dX0_toldBehind_25 : decode cX0_toldBehind 25 = .ok (.getfield 81, 3) := by decide +kernel
theorem dX0_toldBehind_28 : decode cX0_toldBehind 28 = .ok (.iload_n 2, 1) := by decide +kernel
theorem dX0_toldBehind_29 : decode cX0_toldBehind 29 = .ok (.iconst 1, 1) := by decide +kernel
theorem dX0_toldBehind_30 : decode cX0_toldBehind 30 = .ok (.iadd, 1) := by decide +kernel
theorem dX0_toldBehind_31 : decode cX0_toldBehind 31 = .ok (.if_icmp .le 5, 3) := by decide +kernel
theorem dX0_toldBehind_34 : decode cX0_toldBehind 34 = .ok (.iconst 1, 1) := by decide +kernel
theorem dX0_toldBehind_35 : decode cX0_toldBehind 35 = .ok (.ireturn, 1) := by decide +kernel
theorem dX0_toldBehind_36 : decode cX0_toldBehind 36 = .ok (.iinc 3 1, 3) := by decide +kernel
theorem dX0_toldBehind_39 : decode cX0_toldBehind 39 = .ok (.goto (-37), 3) := by decide +kernel
theorem dX0_toldBehind_42 : decode cX0_toldBehind 42 = .ok (.iconst 0, 1) := by decide +kernel
theorem dX0_toldBehind_43 : decode cX0_toldBehind 43 = .ok (.ireturn, 1) := by decide +kernel
theorem dX0_hasProposed_0 : decode cX0_hasProposed 0 = .ok (.iload_n 1, 1) := by decide +kernel
theorem dX0_hasProposed_1 : decode cX0_hasProposed 1 = .ok (.invokestatic 73, 3) := by decide +kernel
theorem dX0_hasProposed_4 : decode cX0_hasProposed 4 = .ok (.ifCond .eq 16, 3) := by decide +kernel
theorem dX0_hasProposed_7 : decode cX0_hasProposed 7 = .ok (.aload_n 0, 1) := by decide +kernel
theorem dX0_hasProposed_8 : decode cX0_hasProposed 8 = .ok (.getfield 9, 3) := by decide +kernel
theorem dX0_hasProposed_11 : decode cX0_hasProposed 11 = .ok (.iload_n 1, 1) := by decide +kernel
theorem dX0_hasProposed_12 : decode cX0_hasProposed 12 = .ok (.baload, 1) := by decide +kernel
theorem dX0_hasProposed_13 : decode cX0_hasProposed 13 = .ok (.ifCond .eq 7, 3) := by decide +kernel
theorem dX0_hasProposed_16 : decode cX0_hasProposed 16 = .ok (.iconst 1, 1) := by decide +kernel
theorem dX0_hasProposed_17 : decode cX0_hasProposed 17 = .ok (.goto 4, 3) := by decide +kernel
theorem dX0_hasProposed_20 : decode cX0_hasProposed 20 = .ok (.iconst 0, 1) := by decide +kernel
theorem dX0_hasProposed_21 : decode cX0_hasProposed 21 = .ok (.ireturn, 1) := by decide +kernel
theorem dX0_propose_0 : decode cX0_propose 0 = .ok (.iload_n 1, 1) := by decide +kernel
theorem dX0_propose_1 : decode cX0_propose 1 = .ok (.invokestatic 73, 3) := by decide +kernel
theorem dX0_propose_4 : decode cX0_propose 4 = .ok (.ifCond .eq 30, 3) := by decide +kernel
theorem dX0_propose_7 : decode cX0_propose 7 = .ok (.aload_n 0, 1) := by decide +kernel
theorem dX0_propose_8 : decode cX0_propose 8 = .ok (.getfield 9, 3) := by decide +kernel
theorem dX0_propose_11 : decode cX0_propose 11 = .ok (.iload_n 1, 1) := by decide +kernel
theorem dX0_propose_12 : decode cX0_propose 12 = .ok (.iconst 1, 1) := by decide +kernel
theorem dX0_propose_13 : decode cX0_propose 13 = .ok (.bastore, 1) := by decide +kernel
theorem dX0_propose_14 : decode cX0_propose 14 = .ok (.aload_n 0, 1) := by decide +kernel
theorem dX0_propose_15 : decode cX0_propose 15 = .ok (.getfield 15, 3) := by decide +kernel
theorem dX0_propose_18 : decode cX0_propose 18 = .ok (.iload_n 1, 1) := by decide +kernel
theorem dX0_propose_19 : decode cX0_propose 19 = .ok (.iload_n 2, 1) := by decide +kernel
theorem dX0_propose_20 : decode cX0_propose 20 = .ok (.iastore, 1) := by decide +kernel
theorem dX0_propose_21 : decode cX0_propose 21 = .ok (.aload_n 0, 1) := by decide +kernel
theorem dX0_propose_22 : decode cX0_propose 22 = .ok (.dup, 1) := by decide +kernel
theorem dX0_propose_23 : decode cX0_propose 23 = .ok (.getfield 57, 3) := by decide +kernel
theorem dX0_propose_26 : decode cX0_propose 26 = .ok (.iload_n 2, 1) := by decide +kernel
theorem dX0_propose_27 : decode cX0_propose 27 = .ok (.invokestatic 83, 3) := by decide +kernel
theorem dX0_propose_30 : decode cX0_propose 30 = .ok (.ior, 1) := by decide +kernel
theorem dX0_propose_31 : decode cX0_propose 31 = .ok (.putfield 57, 3) := by decide +kernel
theorem dX0_propose_34 : decode cX0_propose 34 = .ok (.return_, 1) := by decide +kernel
theorem dX1_init_0 : decode cX1_init 0 = .ok (.aload_n 0, 1) := by decide +kernel
theorem dX1_init_1 : decode cX1_init 1 = .ok (.invokespecial 3, 3) := by decide +kernel
theorem dX1_init_4 : decode cX1_init 4 = .ok (.aload_n 0, 1) := by decide +kernel
theorem dX1_init_5 : decode cX1_init 5 = .ok (.bipush 100, 2) := by decide +kernel
theorem dX1_init_7 : decode cX1_init 7 = .ok (.newarray .boolean, 2) := by decide +kernel
theorem dX1_init_9 : decode cX1_init 9 = .ok (.putfield 9, 3) := by decide +kernel
theorem dX1_init_12 : decode cX1_init 12 = .ok (.aload_n 0, 1) := by decide +kernel
theorem dX1_init_13 : decode cX1_init 13 = .ok (.bipush 100, 2) := by decide +kernel
theorem dX1_init_15 : decode cX1_init 15 = .ok (.newarray .int, 2) := by decide +kernel
theorem dX1_init_17 : decode cX1_init 17 = .ok (.putfield 15, 3) := by decide +kernel
theorem dX1_init_20 : decode cX1_init 20 = .ok (.aload_n 0, 1) := by decide +kernel
theorem dX1_init_21 : decode cX1_init 21 = .ok (.bipush 104, 2) := by decide +kernel
theorem dX1_init_23 : decode cX1_init 23 = .ok (.newarray .int, 2) := by decide +kernel
theorem dX1_init_25 : decode cX1_init 25 = .ok (.putfield 19, 3) := by decide +kernel
theorem dX1_init_28 : decode cX1_init 28 = .ok (.aload_n 0, 1) := by decide +kernel
theorem dX1_init_29 : decode cX1_init 29 = .ok (.iconst (-1), 1) := by decide +kernel
theorem dX1_init_30 : decode cX1_init 30 = .ok (.putfield 22, 3) := by decide +kernel
theorem dX1_init_33 : decode cX1_init 33 = .ok (.iconst 0, 1) := by decide +kernel
theorem dX1_init_34 : decode cX1_init 34 = .ok (.istore_n 2, 1) := by decide +kernel
theorem dX1_init_35 : decode cX1_init 35 = .ok (.iload_n 2, 1) := by decide +kernel
theorem dX1_init_36 : decode cX1_init 36 = .ok (.iconst 4, 1) := by decide +kernel
theorem dX1_init_37 : decode cX1_init 37 = .ok (.if_icmp .ge 20, 3) := by decide +kernel
theorem dX1_init_40 : decode cX1_init 40 = .ok (.aload_n 0, 1) := by decide +kernel
theorem dX1_init_41 : decode cX1_init 41 = .ok (.getfield 19, 3) := by decide +kernel
theorem dX1_init_44 : decode cX1_init 44 = .ok (.iload_n 2, 1) := by decide +kernel
theorem dX1_init_45 : decode cX1_init 45 = .ok (.iconst 1, 1) := by decide +kernel
theorem dX1_init_46 : decode cX1_init 46 = .ok (.iload_n 1, 1) := by decide +kernel
theorem dX1_init_47 : decode cX1_init 47 = .ok (.ishl, 1) := by decide +kernel
theorem dX1_init_48 : decode cX1_init 48 = .ok (.iconst 1, 1) := by decide +kernel
theorem dX1_init_49 : decode cX1_init 49 = .ok (.isub, 1) := by decide +kernel
theorem dX1_init_50 : decode cX1_init 50 = .ok (.iastore, 1) := by decide +kernel
theorem dX1_init_51 : decode cX1_init 51 = .ok (.iinc 2 1, 3) := by decide +kernel
theorem dX1_init_54 : decode cX1_init 54 = .ok (.goto (-19), 3) := by decide +kernel
theorem dX1_init_57 : decode cX1_init 57 = .ok (.return_, 1) := by decide +kernel
theorem dX1_has_0 : decode cX1_has 0 = .ok (.iload_n 1, 1) := by decide +kernel
theorem dX1_has_1 : decode cX1_has 1 = .ok (.invokestatic 26, 3) := by decide +kernel
theorem dX1_has_4 : decode cX1_has 4 = .ok (.ifCond .eq 16, 3) := by decide +kernel
theorem dX1_has_7 : decode cX1_has 7 = .ok (.aload_n 0, 1) := by decide +kernel
theorem dX1_has_8 : decode cX1_has 8 = .ok (.getfield 9, 3) := by decide +kernel
theorem dX1_has_11 : decode cX1_has 11 = .ok (.iload_n 1, 1) := by decide +kernel
theorem dX1_has_12 : decode cX1_has 12 = .ok (.baload, 1) := by decide +kernel
theorem dX1_has_13 : decode cX1_has 13 = .ok (.ifCond .eq 7, 3) := by decide +kernel
theorem dX1_has_16 : decode cX1_has 16 = .ok (.iconst 1, 1) := by decide +kernel
theorem dX1_has_17 : decode cX1_has 17 = .ok (.goto 4, 3) := by decide +kernel
theorem dX1_has_20 : decode cX1_has 20 = .ok (.iconst 0, 1) := by decide +kernel
theorem dX1_has_21 : decode cX1_has 21 = .ok (.ireturn, 1) := by decide +kernel
theorem dX1_membersAt_0 : decode cX1_membersAt 0 = .ok (.iload_n 1, 1) := by decide +kernel
theorem dX1_membersAt_1 : decode cX1_membersAt 1 = .ok (.ifCond .lt 18, 3) := by decide +kernel
theorem dX1_membersAt_4 : decode cX1_membersAt 4 = .ok (.iload_n 1, 1) := by decide +kernel
theorem dX1_membersAt_5 : decode cX1_membersAt 5 = .ok (.bipush 104, 2) := by decide +kernel
theorem dX1_membersAt_7 : decode cX1_membersAt 7 = .ok (.if_icmp .ge 12, 3) := by decide +kernel
theorem dX1_membersAt_10 : decode cX1_membersAt 10 = .ok (.aload_n 0, 1) := by decide +kernel
theorem dX1_membersAt_11 : decode cX1_membersAt 11 = .ok (.getfield 19, 3) := by decide +kernel
theorem dX1_membersAt_14 : decode cX1_membersAt 14 = .ok (.iload_n 1, 1) := by decide +kernel
theorem dX1_membersAt_15 : decode cX1_membersAt 15 = .ok (.iaload, 1) := by decide +kernel
theorem dX1_membersAt_16 : decode cX1_membersAt 16 = .ok (.goto 4, 3) := by decide +kernel
theorem dX1_membersAt_19 : decode cX1_membersAt 19 = .ok (.iconst 0, 1) := by decide +kernel
theorem dX1_membersAt_20 : decode cX1_membersAt 20 = .ok (.ireturn, 1) := by decide +kernel
theorem dX1_isMember_0 : decode cX1_isMember 0 = .ok (.aload_n 0, 1) := by decide +kernel
theorem dX1_isMember_1 : decode cX1_isMember 1 = .ok (.aload_n 0, 1) := by decide +kernel
theorem dX1_isMember_2 : decode cX1_isMember 2 = .ok (.getfield 30, 3) := by decide +kernel
theorem dX1_isMember_5 : decode cX1_isMember 5 = .ok (.invokevirtual 33, 3) := by decide +kernel
theorem dX1_isMember_8 : decode cX1_isMember 8 = .ok (.iload_n 1, 1) := by decide +kernel
theorem dX1_isMember_9 : decode cX1_isMember 9 = .ok (.ishr, 1) := by decide +kernel
theorem dX1_isMember_10 : decode cX1_isMember 10 = .ok (.iconst 1, 1) := by decide +kernel
theorem dX1_isMember_11 : decode cX1_isMember 11 = .ok (.iand, 1) := by decide +kernel
theorem dX1_isMember_12 : decode cX1_isMember 12 = .ok (.ifCond .eq 7, 3) := by decide +kernel
theorem dX1_isMember_15 : decode cX1_isMember 15 = .ok (.iconst 1, 1) := by decide +kernel
theorem dX1_isMember_16 : decode cX1_isMember 16 = .ok (.goto 4, 3) := by decide +kernel
theorem dX1_isMember_19 : decode cX1_isMember 19 = .ok (.iconst 0, 1) := by decide +kernel
theorem dX1_isMember_20 : decode cX1_isMember 20 = .ok (.ireturn, 1) := by decide +kernel
theorem dX1_windowEnd_0 : decode cX1_windowEnd 0 = .ok (.bipush 100, 2) := by decide +kernel
theorem dX1_windowEnd_2 : decode cX1_windowEnd 2 = .ok (.aload_n 0, 1) := by decide +kernel
theorem dX1_windowEnd_3 : decode cX1_windowEnd 3 = .ok (.getfield 30, 3) := by decide +kernel
theorem dX1_windowEnd_6 : decode cX1_windowEnd 6 = .ok (.iconst 4, 1) := by decide +kernel
theorem dX1_windowEnd_7 : decode cX1_windowEnd 7 = .ok (.iadd, 1) := by decide +kernel
theorem dX1_windowEnd_8 : decode cX1_windowEnd 8 = .ok (.invokestatic 37, 3) := by decide +kernel
theorem dX1_windowEnd_11 : decode cX1_windowEnd 11 = .ok (.ireturn, 1) := by decide +kernel
theorem dX1_put_0 : decode cX1_put 0 = .ok (.iload_n 1, 1) := by decide +kernel
theorem dX1_put_1 : decode cX1_put 1 = .ok (.invokestatic 26, 3) := by decide +kernel
theorem dX1_put_4 : decode cX1_put 4 = .ok (.ifCond .eq 12, 3) := by decide +kernel
theorem dX1_put_7 : decode cX1_put 7 = .ok (.aload_n 0, 1) := by decide +kernel
theorem dX1_put_8 : decode cX1_put 8 = .ok (.getfield 9, 3) := by decide +kernel
theorem dX1_put_11 : decode cX1_put 11 = .ok (.iload_n 1, 1) := by decide +kernel
theorem dX1_put_12 : decode cX1_put 12 = .ok (.baload, 1) := by decide +kernel
theorem dX1_put_13 : decode cX1_put 13 = .ok (.ifCond .eq 4, 3) := by decide +kernel
theorem dX1_put_16 : decode cX1_put 16 = .ok (.return_, 1) := by decide +kernel
theorem dX1_put_17 : decode cX1_put 17 = .ok (.aload_n 0, 1) := by decide +kernel
theorem dX1_put_18 : decode cX1_put 18 = .ok (.getfield 9, 3) := by decide +kernel
theorem dX1_put_21 : decode cX1_put 21 = .ok (.iload_n 1, 1) := by decide +kernel
theorem dX1_put_22 : decode cX1_put 22 = .ok (.iconst 1, 1) := by decide +kernel
theorem dX1_put_23 : decode cX1_put 23 = .ok (.bastore, 1) := by decide +kernel
theorem dX1_put_24 : decode cX1_put 24 = .ok (.aload_n 0, 1) := by decide +kernel
theorem dX1_put_25 : decode cX1_put 25 = .ok (.getfield 15, 3) := by decide +kernel
theorem dX1_put_28 : decode cX1_put 28 = .ok (.iload_n 1, 1) := by decide +kernel
theorem dX1_put_29 : decode cX1_put 29 = .ok (.iload_n 2, 1) := by decide +kernel
theorem dX1_put_30 : decode cX1_put 30 = .ok (.iastore, 1) := by decide +kernel
theorem dX1_put_31 : decode cX1_put 31 = .ok (.aload_n 0, 1) := by decide +kernel
theorem dX1_put_32 : decode cX1_put 32 = .ok (.dup, 1) := by decide +kernel
theorem dX1_put_33 : decode cX1_put 33 = .ok (.getfield 43, 3) := by decide +kernel
theorem dX1_put_36 : decode cX1_put 36 = .ok (.iconst 1, 1) := by decide +kernel
theorem dX1_put_37 : decode cX1_put 37 = .ok (.iadd, 1) := by decide +kernel
theorem dX1_put_38 : decode cX1_put 38 = .ok (.putfield 43, 3) := by decide +kernel
theorem dX1_put_41 : decode cX1_put 41 = .ok (.aload_n 0, 1) := by decide +kernel
theorem dX1_put_42 : decode cX1_put 42 = .ok (.aload_n 0, 1) := by decide +kernel
theorem dX1_put_43 : decode cX1_put 43 = .ok (.getfield 46, 3) := by decide +kernel
theorem dX1_put_46 : decode cX1_put 46 = .ok (.iload_n 1, 1) := by decide +kernel
theorem dX1_put_47 : decode cX1_put 47 = .ok (.iconst 1, 1) := by decide +kernel
theorem dX1_put_48 : decode cX1_put 48 = .ok (.iadd, 1) := by decide +kernel
theorem dX1_put_49 : decode cX1_put 49 = .ok (.invokestatic 49, 3) := by decide +kernel
theorem dX1_put_52 : decode cX1_put 52 = .ok (.putfield 46, 3) := by decide +kernel
theorem dX1_put_55 : decode cX1_put 55 = .ok (.iload_n 2, 1) := by decide +kernel
theorem dX1_put_56 : decode cX1_put 56 = .ok (.ifCond .ge 28, 3) := by decide +kernel
theorem dX1_put_59 : decode cX1_put 59 = .ok (.aload_n 0, 1) := by decide +kernel
theorem dX1_put_60 : decode cX1_put 60 = .ok (.dup, 1) := by decide +kernel
theorem dX1_put_61 : decode cX1_put 61 = .ok (.getfield 52, 3) := by decide +kernel
theorem dX1_put_64 : decode cX1_put 64 = .ok (.iload_n 2, 1) := by decide +kernel
theorem dX1_put_65 : decode cX1_put 65 = .ok (.invokestatic 55, 3) := by decide +kernel
theorem dX1_put_68 : decode cX1_put 68 = .ok (.ior, 1) := by decide +kernel
theorem dX1_put_69 : decode cX1_put 69 = .ok (.putfield 52, 3) := by decide +kernel
theorem dX1_put_72 : decode cX1_put 72 = .ok (.aload_n 0, 1) := by decide +kernel
theorem dX1_put_73 : decode cX1_put 73 = .ok (.aload_n 0, 1) := by decide +kernel
theorem dX1_put_74 : decode cX1_put 74 = .ok (.getfield 22, 3) := by decide +kernel
theorem dX1_put_77 : decode cX1_put 77 = .ok (.iload_n 1, 1) := by decide +kernel
theorem dX1_put_78 : decode cX1_put 78 = .ok (.invokestatic 49, 3) := by decide +kernel
theorem dX1_put_81 : decode cX1_put 81 = .ok (.putfield 22, 3) := by decide +kernel
theorem dX1_put_84 : decode cX1_put 84 = .ok (.aload_n 0, 1) := by decide +kernel
theorem dX1_put_85 : decode cX1_put 85 = .ok (.getfield 30, 3) := by decide +kernel
theorem dX1_put_88 : decode cX1_put 88 = .ok (.bipush 100, 2) := by decide +kernel
theorem dX1_put_90 : decode cX1_put 90 = .ok (.if_icmp .ge 69, 3) := by decide +kernel
theorem dX1_put_93 : decode cX1_put 93 = .ok (.aload_n 0, 1) := by decide +kernel
theorem dX1_put_94 : decode cX1_put 94 = .ok (.getfield 9, 3) := by decide +kernel
theorem dX1_put_97 : decode cX1_put 97 = .ok (.aload_n 0, 1) := by decide +kernel
theorem dX1_put_98 : decode cX1_put 98 = .ok (.getfield 30, 3) := by decide +kernel
theorem dX1_put_101 : decode cX1_put 101 = .ok (.baload, 1) := by decide +kernel
theorem dX1_put_102 : decode cX1_put 102 = .ok (.ifCond .eq 57, 3) := by decide +kernel
theorem dX1_put_105 : decode cX1_put 105 = .ok (.aload_n 0, 1) := by decide +kernel
theorem dX1_put_106 : decode cX1_put 106 = .ok (.getfield 15, 3) := by decide +kernel
theorem dX1_put_109 : decode cX1_put 109 = .ok (.aload_n 0, 1) := by decide +kernel
theorem dX1_put_110 : decode cX1_put 110 = .ok (.getfield 30, 3) := by decide +kernel
theorem dX1_put_113 : decode cX1_put 113 = .ok (.iaload, 1) := by decide +kernel
theorem dX1_put_114 : decode cX1_put 114 = .ok (.invokestatic 55, 3) := by decide +kernel
theorem dX1_put_117 : decode cX1_put 117 = .ok (.istore_n 3, 1) := by decide +kernel
theorem dX1_put_118 : decode cX1_put 118 = .ok (.aload_n 0, 1) := by decide +kernel
theorem dX1_put_119 : decode cX1_put 119 = .ok (.getfield 19, 3) := by decide +kernel
theorem dX1_put_122 : decode cX1_put 122 = .ok (.aload_n 0, 1) := by decide +kernel
theorem dX1_put_123 : decode cX1_put 123 = .ok (.getfield 30, 3) := by decide +kernel
theorem dX1_put_126 : decode cX1_put 126 = .ok (.iconst 4, 1) := by decide +kernel
theorem dX1_put_127 : decode cX1_put 127 = .ok (.iadd, 1) := by decide +kernel
theorem dX1_put_128 : decode cX1_put 128 = .ok (.aload_n 0, 1) := by decide +kernel
theorem dX1_put_129 : decode cX1_put 129 = .ok (.getfield 19, 3) := by decide +kernel
theorem dX1_put_132 : decode cX1_put 132 = .ok (.aload_n 0, 1) := by decide +kernel
theorem dX1_put_133 : decode cX1_put 133 = .ok (.getfield 30, 3) := by decide +kernel
theorem dX1_put_136 : decode cX1_put 136 = .ok (.iconst 4, 1) := by decide +kernel
theorem dX1_put_137 : decode cX1_put 137 = .ok (.iadd, 1) := by decide +kernel
theorem dX1_put_138 : decode cX1_put 138 = .ok (.iconst 1, 1) := by decide +kernel
theorem dX1_put_139 : decode cX1_put 139 = .ok (.isub, 1) := by decide +kernel
theorem dX1_put_140 : decode cX1_put 140 = .ok (.iaload, 1) := by decide +kernel
theorem dX1_put_141 : decode cX1_put 141 = .ok (.iload_n 3, 1) := by decide +kernel
theorem dX1_put_142 : decode cX1_put 142 = .ok (.iconst (-1), 1) := by decide +kernel
theorem dX1_put_143 : decode cX1_put 143 = .ok (.ixor, 1) := by decide +kernel
theorem dX1_put_144 : decode cX1_put 144 = .ok (.iand, 1) := by decide +kernel
theorem dX1_put_145 : decode cX1_put 145 = .ok (.iastore, 1) := by decide +kernel
theorem dX1_put_146 : decode cX1_put 146 = .ok (.aload_n 0, 1) := by decide +kernel
theorem dX1_put_147 : decode cX1_put 147 = .ok (.dup, 1) := by decide +kernel
theorem dX1_put_148 : decode cX1_put 148 = .ok (.getfield 30, 3) := by decide +kernel
theorem dX1_put_151 : decode cX1_put 151 = .ok (.iconst 1, 1) := by decide +kernel
theorem dX1_put_152 : decode cX1_put 152 = .ok (.iadd, 1) := by decide +kernel
theorem dX1_put_153 : decode cX1_put 153 = .ok (.putfield 30, 3) := by decide +kernel
theorem dX1_put_156 : decode cX1_put 156 = .ok (.goto (-72), 3) := by decide +kernel
theorem dX1_put_159 : decode cX1_put 159 = .ok (.return_, 1) := by decide +kernel
theorem dX1_layOver_0 : decode cX1_layOver 0 = .ok (.iconst 0, 1) := by decide +kernel
theorem dX1_layOver_1 : decode cX1_layOver 1 = .ok (.istore_n 2, 1) := by decide +kernel
theorem dX1_layOver_2 : decode cX1_layOver 2 = .ok (.iload_n 2, 1) := by decide +kernel
theorem dX1_layOver_3 : decode cX1_layOver 3 = .ok (.aload_n 0, 1) := by decide +kernel
theorem dX1_layOver_4 : decode cX1_layOver 4 = .ok (.getfield 46, 3) := by decide +kernel
theorem dX1_layOver_7 : decode cX1_layOver 7 = .ok (.if_icmp .ge 32, 3) := by decide +kernel
theorem dX1_layOver_10 : decode cX1_layOver 10 = .ok (.aload_n 0, 1) := by decide +kernel
theorem dX1_layOver_11 : decode cX1_layOver 11 = .ok (.getfield 9, 3) := by decide +kernel
theorem dX1_layOver_14 : decode cX1_layOver 14 = .ok (.iload_n 2, 1) := by decide +kernel
theorem dX1_layOver_15 : decode cX1_layOver 15 = .ok (.baload, 1) := by decide +kernel
theorem dX1_layOver_16 : decode cX1_layOver 16 = .ok (.ifCond .eq 17, 3) := by decide +kernel
theorem dX1_layOver_19 : decode cX1_layOver 19 = .ok (.aload_n 1, 1) := by decide +kernel
theorem dX1_layOver_20 : decode cX1_layOver 20 = .ok (.iload_n 2, 1) := by decide +kernel
theorem dX1_layOver_21 : decode cX1_layOver 21 = .ok (.sipush 10000, 3) := by decide +kernel
theorem dX1_layOver_24 : decode cX1_layOver 24 = .ok (.aload_n 0, 1) := by decide +kernel
theorem dX1_layOver_25 : decode cX1_layOver 25 = .ok (.getfield 15, 3) := by decide +kernel
theorem dX1_layOver_28 : decode cX1_layOver 28 = .ok (.iload_n 2, 1) := by decide +kernel
theorem dX1_layOver_29 : decode cX1_layOver 29 = .ok (.iaload, 1) := by decide +kernel
theorem dX1_layOver_30 : decode cX1_layOver 30 = .ok (.invokevirtual 58, 3) := by decide +kernel
theorem dX1_layOver_33 : decode cX1_layOver 33 = .ok (.iinc 2 1, 3) := by decide +kernel
theorem dX1_layOver_36 : decode cX1_layOver 36 = .ok (.goto (-34), 3) := by decide +kernel
theorem dX1_layOver_39 : decode cX1_layOver 39 = .ok (.return_, 1) := by decide +kernel
theorem dX2_init_0 : decode cX2_init 0 = .ok (.aload_n 0, 1) := by decide +kernel
theorem dX2_init_1 : decode cX2_init 1 = .ok (.invokespecial 3, 3) := by decide +kernel
theorem dX2_init_4 : decode cX2_init 4 = .ok (.aload_n 0, 1) := by decide +kernel
theorem dX2_init_5 : decode cX2_init 5 = .ok (.new 9, 3) := by decide +kernel
theorem dX2_init_8 : decode cX2_init 8 = .ok (.dup, 1) := by decide +kernel
theorem dX2_init_9 : decode cX2_init 9 = .ok (.invokespecial 11, 3) := by decide +kernel
theorem dX2_init_12 : decode cX2_init 12 = .ok (.putfield 12, 3) := by decide +kernel
theorem dX2_init_15 : decode cX2_init 15 = .ok (.aload_n 0, 1) := by decide +kernel
theorem dX2_init_16 : decode cX2_init 16 = .ok (.new 9, 3) := by decide +kernel
theorem dX2_init_19 : decode cX2_init 19 = .ok (.dup, 1) := by decide +kernel
theorem dX2_init_20 : decode cX2_init 20 = .ok (.invokespecial 11, 3) := by decide +kernel
theorem dX2_init_23 : decode cX2_init 23 = .ok (.putfield 18, 3) := by decide +kernel
theorem dX2_init_26 : decode cX2_init 26 = .ok (.aload_n 0, 1) := by decide +kernel
theorem dX2_init_27 : decode cX2_init 27 = .ok (.sipush 601, 3) := by decide +kernel
theorem dX2_init_30 : decode cX2_init 30 = .ok (.anewarray 21, 3) := by decide +kernel
theorem dX2_init_33 : decode cX2_init 33 = .ok (.putfield 23, 3) := by decide +kernel
theorem dX2_init_36 : decode cX2_init 36 = .ok (.return_, 1) := by decide +kernel
theorem dX2_send_0 : decode cX2_send 0 = .ok (.iload_n 1, 1) := by decide +kernel
theorem dX2_send_1 : decode cX2_send 1 = .ok (.iload_n 2, 1) := by decide +kernel
theorem dX2_send_2 : decode cX2_send 2 = .ok (.if_icmp .ne 10, 3) := by decide +kernel
theorem dX2_send_5 : decode cX2_send 5 = .ok (.aload_n 0, 1) := by decide +kernel
theorem dX2_send_6 : decode cX2_send 6 = .ok (.getfield 18, 3) := by decide +kernel
theorem dX2_send_9 : decode cX2_send 9 = .ok (.goto 7, 3) := by decide +kernel
theorem dX2_send_12 : decode cX2_send 12 = .ok (.aload_n 0, 1) := by decide +kernel
theorem dX2_send_13 : decode cX2_send 13 = .ok (.getfield 12, 3) := by decide +kernel
theorem dX2_send_16 : decode cX2_send 16 = .ok (.astore 7, 2) := by decide +kernel
theorem dX2_send_18 : decode cX2_send 18 = .ok (.aload 7, 2) := by decide +kernel
theorem dX2_send_20 : decode cX2_send 20 = .ok (.getfield 27, 3) := by decide +kernel
theorem dX2_send_23 : decode cX2_send 23 = .ok (.sipush 300, 3) := by decide +kernel
theorem dX2_send_26 : decode cX2_send 26 = .ok (.if_icmp .lt 15, 3) := by decide +kernel
theorem dX2_send_29 : decode cX2_send 29 = .ok (.aload_n 0, 1) := by decide +kernel
theorem dX2_send_30 : decode cX2_send 30 = .ok (.dup, 1) := by decide +kernel
theorem dX2_send_31 : decode cX2_send 31 = .ok (.getfield 31, 3) := by decide +kernel
theorem dX2_send_34 : decode cX2_send 34 = .ok (.iconst 1, 1) := by decide +kernel
theorem dX2_send_35 : decode cX2_send 35 = .ok (.iadd, 1) := by decide +kernel
theorem dX2_send_36 : decode cX2_send 36 = .ok (.putfield 31, 3) := by decide +kernel
theorem dX2_send_39 : decode cX2_send 39 = .ok (.aconst_null, 1) := by decide +kernel
theorem dX2_send_40 : decode cX2_send 40 = .ok (.areturn, 1) := by decide +kernel
theorem dX2_send_41 : decode cX2_send 41 = .ok (.aconst_null, 1) := by decide +kernel
theorem dX2_send_42 : decode cX2_send 42 = .ok (.astore 8, 2) := by decide +kernel
theorem dX2_send_44 : decode cX2_send 44 = .ok (.aload_n 0, 1) := by decide +kernel
theorem dX2_send_45 : decode cX2_send 45 = .ok (.getfield 34, 3) := by decide +kernel
theorem dX2_send_48 : decode cX2_send 48 = .ok (.ifCond .le 24, 3) := by decide +kernel
theorem dX2_send_51 : decode cX2_send 51 = .ok (.aload_n 0, 1) := by decide +kernel
theorem dX2_send_52 : decode cX2_send 52 = .ok (.dup, 1) := by decide +kernel
theorem dX2_send_53 : decode cX2_send 53 = .ok (.getfield 34, 3) := by decide +kernel
theorem dX2_send_56 : decode cX2_send 56 = .ok (.iconst 1, 1) := by decide +kernel
theorem dX2_send_57 : decode cX2_send 57 = .ok (.isub, 1) := by decide +kernel
theorem dX2_send_58 : decode cX2_send 58 = .ok (.putfield 34, 3) := by decide +kernel
theorem dX2_send_61 : decode cX2_send 61 = .ok (.aload_n 0, 1) := by decide +kernel
theorem dX2_send_62 : decode cX2_send 62 = .ok (.getfield 23, 3) := by decide +kernel
theorem dX2_send_65 : decode cX2_send 65 = .ok (.aload_n 0, 1) := by decide +kernel
theorem dX2_send_66 : decode cX2_send 66 = .ok (.getfield 34, 3) := by decide +kernel
theorem dX2_send_69 : decode cX2_send 69 = .ok (.aaload, 1) := by decide +kernel
theorem dX2_send_70 : decode cX2_send 70 = .ok (.astore 8, 2) := by decide +kernel
theorem dX2_send_72 : decode cX2_send 72 = .ok (.aload 8, 2) := by decide +kernel
theorem dX2_send_74 : decode cX2_send 74 = .ok (.ifnonnull 12, 3) := by decide +kernel
theorem dX2_send_77 : decode cX2_send 77 = .ok (.new 21, 3) := by decide +kernel
theorem dX2_send_80 : decode cX2_send 80 = .ok (.dup, 1) := by decide +kernel
theorem dX2_send_81 : decode cX2_send 81 = .ok (.invokespecial 37, 3) := by decide +kernel
theorem dX2_send_84 : decode cX2_send 84 = .ok (.astore 8, 2) := by decide +kernel
theorem dX2_send_86 : decode cX2_send 86 = .ok (.aload 8, 2) := by decide +kernel
theorem dX2_send_88 : decode cX2_send 88 = .ok (.iload_n 1, 1) := by decide +kernel
theorem dX2_send_89 : decode cX2_send 89 = .ok (.iload_n 2, 1) := by decide +kernel
theorem dX2_send_90 : decode cX2_send 90 = .ok (.iload_n 3, 1) := by decide +kernel
theorem dX2_send_91 : decode cX2_send 91 = .ok (.iload 4, 2) := by decide +kernel
theorem dX2_send_93 : decode cX2_send 93 = .ok (.iload 5, 2) := by decide +kernel
theorem dX2_send_95 : decode cX2_send 95 = .ok (.iload 6, 2) := by decide +kernel
theorem dX2_send_97 : decode cX2_send 97 = .ok (.invokevirtual 38, 3) := by decide +kernel
theorem dX2_send_100 : decode cX2_send 100 = .ok (.aload 7, 2) := by decide +kernel
theorem dX2_send_102 : decode cX2_send 102 = .ok (.aload 8, 2) := by decide +kernel
theorem dX2_send_104 : decode cX2_send 104 = .ok (.invokevirtual 42, 3) := by decide +kernel
theorem dX2_send_107 : decode cX2_send 107 = .ok (.aload 8, 2) := by decide +kernel
theorem dX2_send_109 : decode cX2_send 109 = .ok (.areturn, 1) := by decide +kernel
theorem dX2_sendAgain_0 : decode cX2_sendAgain 0 = .ok (.aload_n 1, 1) := by decide +kernel
theorem dX2_sendAgain_1 : decode cX2_sendAgain 1 = .ok (.ifnonnull 4, 3) := by decide +kernel
theorem dX2_sendAgain_4 : decode cX2_sendAgain 4 = .ok (.return_, 1) := by decide +kernel
theorem dX2_sendAgain_5 : decode cX2_sendAgain 5 = .ok (.aload_n 0, 1) := by decide +kernel
theorem dX2_sendAgain_6 : decode cX2_sendAgain 6 = .ok (.aload_n 1, 1) := by decide +kernel
theorem dX2_sendAgain_7 : decode cX2_sendAgain 7 = .ok (.getfield 46, 3) := by decide +kernel
theorem dX2_sendAgain_10 : decode cX2_sendAgain 10 = .ok (.aload_n 1, 1) := by decide +kernel
theorem dX2_sendAgain_11 : decode cX2_sendAgain 11 = .ok (.getfield 49, 3) := by decide +kernel
theorem dX2_sendAgain_14 : decode cX2_sendAgain 14 = .ok (.aload_n 1, 1) := by decide +kernel
theorem dX2_sendAgain_15 : decode cX2_sendAgain 15 = .ok (.getfield 52, 3) := by decide +kernel
theorem dX2_sendAgain_18 : decode cX2_sendAgain 18 = .ok (.aload_n 1, 1) := by decide +kernel
theorem dX2_sendAgain_19 : decode cX2_sendAgain 19 = .ok (.getfield 55, 3) := by decide +kernel
theorem dX2_sendAgain_22 : decode cX2_sendAgain 22 = .ok (.aload_n 1, 1) := by decide +kernel
theorem dX2_sendAgain_23 : decode cX2_sendAgain 23 = .ok (.getfield 58, 3) := by decide +kernel
theorem dX2_sendAgain_26 : decode cX2_sendAgain 26 = .ok (.aload_n 1, 1) := by decide +kernel
theorem dX2_sendAgain_27 : decode cX2_sendAgain 27 = .ok (.getfield 61, 3) := by decide +kernel
theorem dX2_sendAgain_30 : decode cX2_sendAgain 30 = .ok (.invokevirtual 64, 3) := by decide +kernel
theorem dX2_sendAgain_33 : decode cX2_sendAgain 33 = .ok (.astore_n 2, 1) := by decide +kernel
theorem dX2_sendAgain_34 : decode cX2_sendAgain 34 = .ok (.aload_n 2, 1) := by decide +kernel
theorem dX2_sendAgain_35 : decode cX2_sendAgain 35 = .ok (.ifnull 22, 3) := by decide +kernel
theorem dX2_sendAgain_38 : decode cX2_sendAgain 38 = .ok (.aload_n 1, 1) := by decide +kernel
theorem dX2_sendAgain_39 : decode cX2_sendAgain 39 = .ok (.getfield 52, 3) := by decide +kernel
theorem dX2_sendAgain_42 : decode cX2_sendAgain 42 = .ok (.iconst 2, 1) := by decide +kernel
theorem dX2_sendAgain_43 : decode cX2_sendAgain 43 = .ok (.if_icmp .ne 14, 3) := by decide +kernel
theorem dX2_sendAgain_46 : decode cX2_sendAgain 46 = .ok (.aload_n 2, 1) := by decide +kernel
theorem dX2_sendAgain_47 : decode cX2_sendAgain 47 = .ok (.invokevirtual 68, 3) := by decide +kernel
theorem dX2_sendAgain_50 : decode cX2_sendAgain 50 = .ok (.aload_n 1, 1) := by decide +kernel
theorem dX2_sendAgain_51 : decode cX2_sendAgain 51 = .ok (.invokevirtual 68, 3) := by decide +kernel
theorem dX2_sendAgain_54 : decode cX2_sendAgain 54 = .ok (.invokevirtual 72, 3) := by decide +kernel
theorem dX2_sendAgain_57 : decode cX2_sendAgain 57 = .ok (.return_, 1) := by decide +kernel
theorem dX2_release_0 : decode cX2_release 0 = .ok (.aload_n 1, 1) := by decide +kernel
theorem dX2_release_1 : decode cX2_release 1 = .ok (.ifnull 35, 3) := by decide +kernel
theorem dX2_release_4 : decode cX2_release 4 = .ok (.aload_n 0, 1) := by decide +kernel
theorem dX2_release_5 : decode cX2_release 5 = .ok (.getfield 34, 3) := by decide +kernel
theorem dX2_release_8 : decode cX2_release 8 = .ok (.aload_n 0, 1) := by decide +kernel
theorem dX2_release_9 : decode cX2_release 9 = .ok (.getfield 23, 3) := by decide +kernel
theorem dX2_release_12 : decode cX2_release 12 = .ok (.arraylength, 1) := by decide +kernel
theorem dX2_release_13 : decode cX2_release 13 = .ok (.if_icmp .ge 23, 3) := by decide +kernel
theorem dX2_release_16 : decode cX2_release 16 = .ok (.aload_n 0, 1) := by decide +kernel
theorem dX2_release_17 : decode cX2_release 17 = .ok (.getfield 23, 3) := by decide +kernel
theorem dX2_release_20 : decode cX2_release 20 = .ok (.aload_n 0, 1) := by decide +kernel
theorem dX2_release_21 : decode cX2_release 21 = .ok (.getfield 34, 3) := by decide +kernel
theorem dX2_release_24 : decode cX2_release 24 = .ok (.aload_n 1, 1) := by decide +kernel
theorem dX2_release_25 : decode cX2_release 25 = .ok (.aastore, 1) := by decide +kernel
theorem dX2_release_26 : decode cX2_release 26 = .ok (.aload_n 0, 1) := by decide +kernel
theorem dX2_release_27 : decode cX2_release 27 = .ok (.dup, 1) := by decide +kernel
theorem dX2_release_28 : decode cX2_release 28 = .ok (.getfield 34, 3) := by decide +kernel
theorem dX2_release_31 : decode cX2_release 31 = .ok (.iconst 1, 1) := by decide +kernel
theorem dX2_release_32 : decode cX2_release 32 = .ok (.iadd, 1) := by decide +kernel
theorem dX2_release_33 : decode cX2_release 33 = .ok (.putfield 34, 3) := by decide +kernel
theorem dX2_release_36 : decode cX2_release 36 = .ok (.return_, 1) := by decide +kernel
theorem dX3_init_0 : decode cX3_init 0 = .ok (.aload_n 0, 1) := by decide +kernel
theorem dX3_init_1 : decode cX3_init 1 = .ok (.invokespecial 1, 3) := by decide +kernel
theorem dX3_init_4 : decode cX3_init 4 = .ok (.aload_n 0, 1) := by decide +kernel
theorem dX3_init_5 : decode cX3_init 5 = .ok (.new 7, 3) := by decide +kernel
theorem dX3_init_8 : decode cX3_init 8 = .ok (.dup, 1) := by decide +kernel
theorem dX3_init_9 : decode cX3_init 9 = .ok (.iload_n 1, 1) := by decide +kernel
theorem dX3_init_10 : decode cX3_init 10 = .ok (.invokespecial 9, 3) := by decide +kernel
theorem dX3_init_13 : decode cX3_init 13 = .ok (.putfield 12, 3) := by decide +kernel
theorem dX3_init_16 : decode cX3_init 16 = .ok (.aload_n 0, 1) := by decide +kernel
theorem dX3_init_17 : decode cX3_init 17 = .ok (.new 18, 3) := by decide +kernel
theorem dX3_init_20 : decode cX3_init 20 = .ok (.dup, 1) := by decide +kernel
theorem dX3_init_21 : decode cX3_init 21 = .ok (.invokespecial 20, 3) := by decide +kernel
theorem dX3_init_24 : decode cX3_init 24 = .ok (.putfield 21, 3) := by decide +kernel
theorem dX3_init_27 : decode cX3_init 27 = .ok (.aload_n 0, 1) := by decide +kernel
theorem dX3_init_28 : decode cX3_init 28 = .ok (.new 25, 3) := by decide +kernel
theorem dX3_init_31 : decode cX3_init 31 = .ok (.dup, 1) := by decide +kernel
theorem dX3_init_32 : decode cX3_init 32 = .ok (.iload_n 2, 1) := by decide +kernel
theorem dX3_init_33 : decode cX3_init 33 = .ok (.invokespecial 27, 3) := by decide +kernel
theorem dX3_init_36 : decode cX3_init 36 = .ok (.putfield 28, 3) := by decide +kernel
theorem dX3_init_39 : decode cX3_init 39 = .ok (.return_, 1) := by decide +kernel
theorem dX3_isOpen_0 : decode cX3_isOpen 0 = .ok (.aload_n 0, 1) := by decide +kernel
theorem dX3_isOpen_1 : decode cX3_isOpen 1 = .ok (.getfield 28, 3) := by decide +kernel
theorem dX3_isOpen_4 : decode cX3_isOpen 4 = .ok (.iload_n 1, 1) := by decide +kernel
theorem dX3_isOpen_5 : decode cX3_isOpen 5 = .ok (.invokevirtual 32, 3) := by decide +kernel
theorem dX3_isOpen_8 : decode cX3_isOpen 8 = .ok (.ifCond .eq 18, 3) := by decide +kernel
theorem dX3_isOpen_11 : decode cX3_isOpen 11 = .ok (.aload_n 0, 1) := by decide +kernel
theorem dX3_isOpen_12 : decode cX3_isOpen 12 = .ok (.getfield 12, 3) := by decide +kernel
theorem dX3_isOpen_15 : decode cX3_isOpen 15 = .ok (.iload_n 1, 1) := by decide +kernel
theorem dX3_isOpen_16 : decode cX3_isOpen 16 = .ok (.invokevirtual 36, 3) := by decide +kernel
theorem dX3_isOpen_19 : decode cX3_isOpen 19 = .ok (.ifCond .ne 7, 3) := by decide +kernel
theorem dX3_isOpen_22 : decode cX3_isOpen 22 = .ok (.iconst 1, 1) := by decide +kernel
theorem dX3_isOpen_23 : decode cX3_isOpen 23 = .ok (.goto 4, 3) := by decide +kernel
theorem dX3_isOpen_26 : decode cX3_isOpen 26 = .ok (.iconst 0, 1) := by decide +kernel
theorem dX3_isOpen_27 : decode cX3_isOpen 27 = .ok (.ireturn, 1) := by decide +kernel
theorem dX4_init_0 : decode cX4_init 0 = .ok (.aload_n 0, 1) := by decide +kernel
theorem dX4_init_1 : decode cX4_init 1 = .ok (.invokespecial 1, 3) := by decide +kernel
theorem dX4_init_4 : decode cX4_init 4 = .ok (.return_, 1) := by decide +kernel
theorem dX4_set_0 : decode cX4_set 0 = .ok (.aload_n 0, 1) := by decide +kernel
theorem dX4_set_1 : decode cX4_set 1 = .ok (.iload_n 1, 1) := by decide +kernel
theorem dX4_set_2 : decode cX4_set 2 = .ok (.putfield 7, 3) := by decide +kernel
theorem dX4_set_5 : decode cX4_set 5 = .ok (.aload_n 0, 1) := by decide +kernel
theorem dX4_set_6 : decode cX4_set 6 = .ok (.iload_n 2, 1) := by decide +kernel
theorem dX4_set_7 : decode cX4_set 7 = .ok (.putfield 13, 3) := by decide +kernel
theorem dX4_set_10 : decode cX4_set 10 = .ok (.aload_n 0, 1) := by decide +kernel
theorem dX4_set_11 : decode cX4_set 11 = .ok (.iload_n 3, 1) := by decide +kernel
theorem dX4_set_12 : decode cX4_set 12 = .ok (.putfield 16, 3) := by decide +kernel
theorem dX4_set_15 : decode cX4_set 15 = .ok (.aload_n 0, 1) := by decide +kernel
theorem dX4_set_16 : decode cX4_set 16 = .ok (.iload 4, 2) := by decide +kernel
theorem dX4_set_18 : decode cX4_set 18 = .ok (.putfield 19, 3) := by decide +kernel
theorem dX4_set_21 : decode cX4_set 21 = .ok (.aload_n 0, 1) := by decide +kernel
theorem dX4_set_22 : decode cX4_set 22 = .ok (.iload 5, 2) := by decide +kernel
theorem dX4_set_24 : decode cX4_set 24 = .ok (.putfield 22, 3) := by decide +kernel
theorem dX4_set_27 : decode cX4_set 27 = .ok (.aload_n 0, 1) := by decide +kernel
theorem dX4_set_28 : decode cX4_set 28 = .ok (.iload 6, 2) := by decide +kernel
theorem dX4_set_30 : decode cX4_set 30 = .ok (.putfield 25, 3) := by decide +kernel
theorem dX4_set_33 : decode cX4_set 33 = .ok (.return_, 1) := by decide +kernel
theorem dX4_room_0 : decode cX4_room 0 = .ok (.aload_n 0, 1) := by decide +kernel
theorem dX4_room_1 : decode cX4_room 1 = .ok (.getfield 28, 3) := by decide +kernel
theorem dX4_room_4 : decode cX4_room 4 = .ok (.ifnonnull 14, 3) := by decide +kernel
theorem dX4_room_7 : decode cX4_room 7 = .ok (.aload_n 0, 1) := by decide +kernel
theorem dX4_room_8 : decode cX4_room 8 = .ok (.new 32, 3) := by decide +kernel
theorem dX4_room_11 : decode cX4_room 11 = .ok (.dup, 1) := by decide +kernel
theorem dX4_room_12 : decode cX4_room 12 = .ok (.invokespecial 34, 3) := by decide +kernel
theorem dX4_room_15 : decode cX4_room 15 = .ok (.putfield 28, 3) := by decide +kernel
theorem dX4_room_18 : decode cX4_room 18 = .ok (.aload_n 0, 1) := by decide +kernel
theorem dX4_room_19 : decode cX4_room 19 = .ok (.getfield 28, 3) := by decide +kernel
theorem dX4_room_22 : decode cX4_room 22 = .ok (.areturn, 1) := by decide +kernel
theorem dX5_init_0 : decode cX5_init 0 = .ok (.aload_n 0, 1) := by decide +kernel
theorem dX5_init_1 : decode cX5_init 1 = .ok (.invokespecial 1, 3) := by decide +kernel
theorem dX5_init_4 : decode cX5_init 4 = .ok (.aload_n 0, 1) := by decide +kernel
theorem dX5_init_5 : decode cX5_init 5 = .ok (.new 7, 3) := by decide +kernel
theorem dX5_init_8 : decode cX5_init 8 = .ok (.dup, 1) := by decide +kernel
theorem dX5_init_9 : decode cX5_init 9 = .ok (.invokespecial 9, 3) := by decide +kernel
theorem dX5_init_12 : decode cX5_init 12 = .ok (.putfield 10, 3) := by decide +kernel
theorem dX5_init_15 : decode cX5_init 15 = .ok (.return_, 1) := by decide +kernel
theorem dX6_init_0 : decode cX6_init 0 = .ok (.aload_n 0, 1) := by decide +kernel
theorem dX6_init_1 : decode cX6_init 1 = .ok (.invokespecial 3, 3) := by decide +kernel
theorem dX6_init_4 : decode cX6_init 4 = .ok (.aload_n 0, 1) := by decide +kernel
theorem dX6_init_5 : decode cX6_init 5 = .ok (.sipush 300, 3) := by decide +kernel
theorem dX6_init_8 : decode cX6_init 8 = .ok (.anewarray 9, 3) := by decide +kernel
theorem dX6_init_11 : decode cX6_init 11 = .ok (.putfield 11, 3) := by decide +kernel
theorem dX6_init_14 : decode cX6_init 14 = .ok (.return_, 1) := by decide +kernel
theorem dX6_place_0 : decode cX6_place 0 = .ok (.aload_n 0, 1) := by decide +kernel
theorem dX6_place_1 : decode cX6_place 1 = .ok (.getfield 17, 3) := by decide +kernel
theorem dX6_place_4 : decode cX6_place 4 = .ok (.iload_n 1, 1) := by decide +kernel
theorem dX6_place_5 : decode cX6_place 5 = .ok (.iadd, 1) := by decide +kernel
theorem dX6_place_6 : decode cX6_place 6 = .ok (.istore_n 2, 1) := by decide +kernel
theorem dX6_place_7 : decode cX6_place 7 = .ok (.iload_n 2, 1) := by decide +kernel
theorem dX6_place_8 : decode cX6_place 8 = .ok (.sipush 300, 3) := by decide +kernel
theorem dX6_place_11 : decode cX6_place 11 = .ok (.if_icmp .lt 11, 3) := by decide +kernel
theorem dX6_place_14 : decode cX6_place 14 = .ok (.iload_n 2, 1) := by decide +kernel
theorem dX6_place_15 : decode cX6_place 15 = .ok (.sipush 300, 3) := by decide +kernel
theorem dX6_place_18 : decode cX6_place 18 = .ok (.isub, 1) := by decide +kernel
theorem dX6_place_19 : decode cX6_place 19 = .ok (.goto 4, 3) := by decide +kernel
theorem dX6_place_22 : decode cX6_place 22 = .ok (.iload_n 2, 1) := by decide +kernel
theorem dX6_place_23 : decode cX6_place 23 = .ok (.ireturn, 1) := by decide +kernel
theorem dX6_at_0 : decode cX6_at 0 = .ok (.iload_n 1, 1) := by decide +kernel
theorem dX6_at_1 : decode cX6_at 1 = .ok (.ifCond .lt 24, 3) := by decide +kernel
theorem dX6_at_4 : decode cX6_at 4 = .ok (.iload_n 1, 1) := by decide +kernel
theorem dX6_at_5 : decode cX6_at 5 = .ok (.aload_n 0, 1) := by decide +kernel
theorem dX6_at_6 : decode cX6_at 6 = .ok (.getfield 21, 3) := by decide +kernel
theorem dX6_at_9 : decode cX6_at 9 = .ok (.if_icmp .ge 16, 3) := by decide +kernel
theorem dX6_at_12 : decode cX6_at 12 = .ok (.aload_n 0, 1) := by decide +kernel
theorem dX6_at_13 : decode cX6_at 13 = .ok (.getfield 11, 3) := by decide +kernel
theorem dX6_at_16 : decode cX6_at 16 = .ok (.aload_n 0, 1) := by decide +kernel
theorem dX6_at_17 : decode cX6_at 17 = .ok (.iload_n 1, 1) := by decide +kernel
theorem dX6_at_18 : decode cX6_at 18 = .ok (.invokevirtual 24, 3) := by decide +kernel
theorem dX6_at_21 : decode cX6_at 21 = .ok (.aaload, 1) := by decide +kernel
theorem dX6_at_22 : decode cX6_at 22 = .ok (.goto 4, 3) := by decide +kernel
theorem dX6_at_25 : decode cX6_at 25 = .ok (.aconst_null, 1) := by decide +kernel
theorem dX6_at_26 : decode cX6_at 26 = .ok (.areturn, 1) := by decide +kernel
theorem dX6_add_0 : decode cX6_add 0 = .ok (.aload_n 0, 1) := by decide +kernel
theorem dX6_add_1 : decode cX6_add 1 = .ok (.getfield 21, 3) := by decide +kernel
theorem dX6_add_4 : decode cX6_add 4 = .ok (.sipush 300, 3) := by decide +kernel
theorem dX6_add_7 : decode cX6_add 7 = .ok (.if_icmp .ge 27, 3) := by decide +kernel
theorem dX6_add_10 : decode cX6_add 10 = .ok (.aload_n 0, 1) := by decide +kernel
theorem dX6_add_11 : decode cX6_add 11 = .ok (.getfield 11, 3) := by decide +kernel
theorem dX6_add_14 : decode cX6_add 14 = .ok (.aload_n 0, 1) := by decide +kernel
theorem dX6_add_15 : decode cX6_add 15 = .ok (.aload_n 0, 1) := by decide +kernel
theorem dX6_add_16 : decode cX6_add 16 = .ok (.getfield 21, 3) := by decide +kernel
theorem dX6_add_19 : decode cX6_add 19 = .ok (.invokevirtual 24, 3) := by decide +kernel
theorem dX6_add_22 : decode cX6_add 22 = .ok (.aload_n 1, 1) := by decide +kernel
theorem dX6_add_23 : decode cX6_add 23 = .ok (.aastore, 1) := by decide +kernel
theorem dX6_add_24 : decode cX6_add 24 = .ok (.aload_n 0, 1) := by decide +kernel
theorem dX6_add_25 : decode cX6_add 25 = .ok (.dup, 1) := by decide +kernel
theorem dX6_add_26 : decode cX6_add 26 = .ok (.getfield 21, 3) := by decide +kernel
theorem dX6_add_29 : decode cX6_add 29 = .ok (.iconst 1, 1) := by decide +kernel
theorem dX6_add_30 : decode cX6_add 30 = .ok (.iadd, 1) := by decide +kernel
theorem dX6_add_31 : decode cX6_add 31 = .ok (.putfield 21, 3) := by decide +kernel
theorem dX6_add_34 : decode cX6_add 34 = .ok (.return_, 1) := by decide +kernel
theorem dX6_take_0 : decode cX6_take 0 = .ok (.aload_n 0, 1) := by decide +kernel
theorem dX6_take_1 : decode cX6_take 1 = .ok (.iload_n 1, 1) := by decide +kernel
theorem dX6_take_2 : decode cX6_take 2 = .ok (.invokevirtual 28, 3) := by decide +kernel
theorem dX6_take_5 : decode cX6_take 5 = .ok (.astore_n 2, 1) := by decide +kernel
theorem dX6_take_6 : decode cX6_take 6 = .ok (.aload_n 2, 1) := by decide +kernel
theorem dX6_take_7 : decode cX6_take 7 = .ok (.ifnonnull 5, 3) := by decide +kernel
theorem dX6_take_10 : decode cX6_take 10 = .ok (.aconst_null, 1) := by decide +kernel
theorem dX6_take_11 : decode cX6_take 11 = .ok (.areturn, 1) := by decide +kernel
theorem dX6_take_12 : decode cX6_take 12 = .ok (.iload_n 1, 1) := by decide +kernel
theorem dX6_take_13 : decode cX6_take 13 = .ok (.istore_n 3, 1) := by decide +kernel
theorem dX6_take_14 : decode cX6_take 14 = .ok (.iload_n 3, 1) := by decide +kernel
theorem dX6_take_15 : decode cX6_take 15 = .ok (.ifCond .le 31, 3) := by decide +kernel
theorem dX6_take_18 : decode cX6_take 18 = .ok (.aload_n 0, 1) := by decide +kernel
theorem dX6_take_19 : decode cX6_take 19 = .ok (.getfield 11, 3) := by decide +kernel
theorem dX6_take_22 : decode cX6_take 22 = .ok (.aload_n 0, 1) := by decide +kernel
theorem dX6_take_23 : decode cX6_take 23 = .ok (.iload_n 3, 1) := by decide +kernel
theorem dX6_take_24 : decode cX6_take 24 = .ok (.invokevirtual 24, 3) := by decide +kernel
theorem dX6_take_27 : decode cX6_take 27 = .ok (.aload_n 0, 1) := by decide +kernel
theorem dX6_take_28 : decode cX6_take 28 = .ok (.getfield 11, 3) := by decide +kernel
theorem dX6_take_31 : decode cX6_take 31 = .ok (.aload_n 0, 1) := by decide +kernel
theorem dX6_take_32 : decode cX6_take 32 = .ok (.iload_n 3, 1) := by decide +kernel
theorem dX6_take_33 : decode cX6_take 33 = .ok (.iconst 1, 1) := by decide +kernel
theorem dX6_take_34 : decode cX6_take 34 = .ok (.isub, 1) := by decide +kernel
theorem dX6_take_35 : decode cX6_take 35 = .ok (.invokevirtual 24, 3) := by decide +kernel
theorem dX6_take_38 : decode cX6_take 38 = .ok (.aaload, 1) := by decide +kernel
theorem dX6_take_39 : decode cX6_take 39 = .ok (.aastore, 1) := by decide +kernel
theorem dX6_take_40 : decode cX6_take 40 = .ok (.iinc 3 (-1), 3) := by decide +kernel
theorem dX6_take_43 : decode cX6_take 43 = .ok (.goto (-29), 3) := by decide +kernel
theorem dX6_take_46 : decode cX6_take 46 = .ok (.aload_n 0, 1) := by decide +kernel
theorem dX6_take_47 : decode cX6_take 47 = .ok (.getfield 11, 3) := by decide +kernel
theorem dX6_take_50 : decode cX6_take 50 = .ok (.aload_n 0, 1) := by decide +kernel
theorem dX6_take_51 : decode cX6_take 51 = .ok (.getfield 17, 3) := by decide +kernel
theorem dX6_take_54 : decode cX6_take 54 = .ok (.aconst_null, 1) := by decide +kernel
theorem dX6_take_55 : decode cX6_take 55 = .ok (.aastore, 1) := by decide +kernel
theorem dX6_take_56 : decode cX6_take 56 = .ok (.aload_n 0, 1) := by decide +kernel
theorem dX6_take_57 : decode cX6_take 57 = .ok (.aload_n 0, 1) := by decide +kernel
theorem dX6_take_58 : decode cX6_take 58 = .ok (.iconst 1, 1) := by decide +kernel
theorem dX6_take_59 : decode cX6_take 59 = .ok (.invokevirtual 24, 3) := by decide +kernel
theorem dX6_take_62 : decode cX6_take 62 = .ok (.putfield 17, 3) := by decide +kernel
theorem dX6_take_65 : decode cX6_take 65 = .ok (.aload_n 0, 1) := by decide +kernel
theorem dX6_take_66 : decode cX6_take 66 = .ok (.dup, 1) := by decide +kernel
theorem dX6_take_67 : decode cX6_take 67 = .ok (.getfield 21, 3) := by decide +kernel
theorem dX6_take_70 : decode cX6_take 70 = .ok (.iconst 1, 1) := by decide +kernel
theorem dX6_take_71 : decode cX6_take 71 = .ok (.isub, 1) := by decide +kernel
theorem dX6_take_72 : decode cX6_take 72 = .ok (.putfield 21, 3) := by decide +kernel
theorem dX6_take_75 : decode cX6_take 75 = .ok (.aload_n 2, 1) := by decide +kernel
theorem dX6_take_76 : decode cX6_take 76 = .ok (.areturn, 1) := by decide +kernel
theorem dX7_init_0 : decode cX7_init 0 = .ok (.aload_n 0, 1) := by decide +kernel
theorem dX7_init_1 : decode cX7_init 1 = .ok (.invokespecial 3, 3) := by decide +kernel
theorem dX7_init_4 : decode cX7_init 4 = .ok (.aload_n 0, 1) := by decide +kernel
theorem dX7_init_5 : decode cX7_init 5 = .ok (.bipush 100, 2) := by decide +kernel
theorem dX7_init_7 : decode cX7_init 7 = .ok (.newarray .int, 2) := by decide +kernel
theorem dX7_init_9 : decode cX7_init 9 = .ok (.putfield 9, 3) := by decide +kernel
theorem dX7_init_12 : decode cX7_init 12 = .ok (.aload_n 0, 1) := by decide +kernel
theorem dX7_init_13 : decode cX7_init 13 = .ok (.bipush 100, 2) := by decide +kernel
theorem dX7_init_15 : decode cX7_init 15 = .ok (.newarray .int, 2) := by decide +kernel
theorem dX7_init_17 : decode cX7_init 17 = .ok (.putfield 15, 3) := by decide +kernel
theorem dX7_init_20 : decode cX7_init 20 = .ok (.return_, 1) := by decide +kernel
theorem dX7_put_0 : decode cX7_put 0 = .ok (.iload_n 1, 1) := by decide +kernel
theorem dX7_put_1 : decode cX7_put 1 = .ok (.invokestatic 18, 3) := by decide +kernel
theorem dX7_put_4 : decode cX7_put 4 = .ok (.ifCond .ne 4, 3) := by decide +kernel
theorem dX7_put_7 : decode cX7_put 7 = .ok (.return_, 1) := by decide +kernel
theorem dX7_put_8 : decode cX7_put 8 = .ok (.aload_n 0, 1) := by decide +kernel
theorem dX7_put_9 : decode cX7_put 9 = .ok (.getfield 9, 3) := by decide +kernel
theorem dX7_put_12 : decode cX7_put 12 = .ok (.iload_n 1, 1) := by decide +kernel
theorem dX7_put_13 : decode cX7_put 13 = .ok (.iload_n 2, 1) := by decide +kernel
theorem dX7_put_14 : decode cX7_put 14 = .ok (.iastore, 1) := by decide +kernel
theorem dX7_put_15 : decode cX7_put 15 = .ok (.aload_n 0, 1) := by decide +kernel
theorem dX7_put_16 : decode cX7_put 16 = .ok (.getfield 15, 3) := by decide +kernel
theorem dX7_put_19 : decode cX7_put 19 = .ok (.iload_n 1, 1) := by decide +kernel
theorem dX7_put_20 : decode cX7_put 20 = .ok (.iload_n 3, 1) := by decide +kernel
theorem dX7_put_21 : decode cX7_put 21 = .ok (.iastore, 1) := by decide +kernel
theorem dX7_put_22 : decode cX7_put 22 = .ok (.aload_n 0, 1) := by decide +kernel
theorem dX7_put_23 : decode cX7_put 23 = .ok (.aload_n 0, 1) := by decide +kernel
theorem dX7_put_24 : decode cX7_put 24 = .ok (.getfield 22, 3) := by decide +kernel
theorem dX7_put_27 : decode cX7_put 27 = .ok (.iload_n 1, 1) := by decide +kernel
theorem dX7_put_28 : decode cX7_put 28 = .ok (.iconst 1, 1) := by decide +kernel
theorem dX7_put_29 : decode cX7_put 29 = .ok (.iadd, 1) := by decide +kernel
theorem dX7_put_30 : decode cX7_put 30 = .ok (.invokestatic 26, 3) := by decide +kernel
theorem dX7_put_33 : decode cX7_put 33 = .ok (.putfield 22, 3) := by decide +kernel
theorem dX7_put_36 : decode cX7_put 36 = .ok (.return_, 1) := by decide +kernel
theorem dX7_forget_0 : decode cX7_forget 0 = .ok (.iload_n 1, 1) := by decide +kernel
theorem dX7_forget_1 : decode cX7_forget 1 = .ok (.aload_n 0, 1) := by decide +kernel
theorem dX7_forget_2 : decode cX7_forget 2 = .ok (.getfield 32, 3) := by decide +kernel
theorem dX7_forget_5 : decode cX7_forget 5 = .ok (.if_icmp .gt 4, 3) := by decide +kernel
theorem dX7_forget_8 : decode cX7_forget 8 = .ok (.return_, 1) := by decide +kernel
theorem dX7_forget_9 : decode cX7_forget 9 = .ok (.iload_n 1, 1) := by decide +kernel
theorem dX7_forget_10 : decode cX7_forget 10 = .ok (.aload_n 0, 1) := by decide +kernel
theorem dX7_forget_11 : decode cX7_forget 11 = .ok (.getfield 22, 3) := by decide +kernel
theorem dX7_forget_14 : decode cX7_forget 14 = .ok (.invokestatic 35, 3) := by decide +kernel
theorem dX7_forget_17 : decode cX7_forget 17 = .ok (.istore_n 2, 1) := by decide +kernel
theorem dX7_forget_18 : decode cX7_forget 18 = .ok (.aload_n 0, 1) := by decide +kernel
theorem dX7_forget_19 : decode cX7_forget 19 = .ok (.getfield 32, 3) := by decide +kernel
theorem dX7_forget_22 : decode cX7_forget 22 = .ok (.istore_n 3, 1) := by decide +kernel
theorem dX7_forget_23 : decode cX7_forget 23 = .ok (.iload_n 3, 1) := by decide +kernel
theorem dX7_forget_24 : decode cX7_forget 24 = .ok (.iload_n 2, 1) := by decide +kernel
theorem dX7_forget_25 : decode cX7_forget 25 = .ok (.if_icmp .ge 23, 3) := by decide +kernel
theorem dX7_forget_28 : decode cX7_forget 28 = .ok (.aload_n 0, 1) := by decide +kernel
theorem dX7_forget_29 : decode cX7_forget 29 = .ok (.getfield 9, 3) := by decide +kernel
theorem dX7_forget_32 : decode cX7_forget 32 = .ok (.iload_n 3, 1) := by decide +kernel
theorem dX7_forget_33 : decode cX7_forget 33 = .ok (.iconst 0, 1) := by decide +kernel
theorem dX7_forget_34 : decode cX7_forget 34 = .ok (.iastore, 1) := by decide +kernel
theorem dX7_forget_35 : decode cX7_forget 35 = .ok (.aload_n 0, 1) := by decide +kernel
theorem dX7_forget_36 : decode cX7_forget 36 = .ok (.getfield 15, 3) := by decide +kernel
theorem dX7_forget_39 : decode cX7_forget 39 = .ok (.iload_n 3, 1) := by decide +kernel
theorem dX7_forget_40 : decode cX7_forget 40 = .ok (.iconst 0, 1) := by decide +kernel
theorem dX7_forget_41 : decode cX7_forget 41 = .ok (.iastore, 1) := by decide +kernel
theorem dX7_forget_42 : decode cX7_forget 42 = .ok (.iinc 3 1, 3) := by decide +kernel
theorem dX7_forget_45 : decode cX7_forget 45 = .ok (.goto (-22), 3) := by decide +kernel
theorem dX7_forget_48 : decode cX7_forget 48 = .ok (.aload_n 0, 1) := by decide +kernel
theorem dX7_forget_49 : decode cX7_forget 49 = .ok (.iload_n 1, 1) := by decide +kernel
theorem dX7_forget_50 : decode cX7_forget 50 = .ok (.putfield 32, 3) := by decide +kernel
theorem dX7_forget_53 : decode cX7_forget 53 = .ok (.aload_n 0, 1) := by decide +kernel
theorem dX7_forget_54 : decode cX7_forget 54 = .ok (.getfield 22, 3) := by decide +kernel
theorem dX7_forget_57 : decode cX7_forget 57 = .ok (.iload_n 1, 1) := by decide +kernel
theorem dX7_forget_58 : decode cX7_forget 58 = .ok (.if_icmp .gt 8, 3) := by decide +kernel
theorem dX7_forget_61 : decode cX7_forget 61 = .ok (.aload_n 0, 1) := by decide +kernel
theorem dX7_forget_62 : decode cX7_forget 62 = .ok (.iconst 0, 1) := by decide +kernel
theorem dX7_forget_63 : decode cX7_forget 63 = .ok (.putfield 22, 3) := by decide +kernel
theorem dX7_forget_66 : decode cX7_forget 66 = .ok (.return_, 1) := by decide +kernel
theorem dX7_copy_0 : decode cX7_copy 0 = .ok (.aload_n 0, 1) := by decide +kernel
theorem dX7_copy_1 : decode cX7_copy 1 = .ok (.getfield 22, 3) := by decide +kernel
theorem dX7_copy_4 : decode cX7_copy 4 = .ok (.aload_n 1, 1) := by decide +kernel
theorem dX7_copy_5 : decode cX7_copy 5 = .ok (.getfield 22, 3) := by decide +kernel
theorem dX7_copy_8 : decode cX7_copy 8 = .ok (.invokestatic 26, 3) := by decide +kernel
theorem dX7_copy_11 : decode cX7_copy 11 = .ok (.istore_n 2, 1) := by decide +kernel
theorem dX7_copy_12 : decode cX7_copy 12 = .ok (.aload_n 1, 1) := by decide +kernel
theorem dX7_copy_13 : decode cX7_copy 13 = .ok (.getfield 9, 3) := by decide +kernel
theorem dX7_copy_16 : decode cX7_copy 16 = .ok (.iconst 0, 1) := by decide +kernel
theorem dX7_copy_17 : decode cX7_copy 17 = .ok (.aload_n 0, 1) := by decide +kernel
theorem dX7_copy_18 : decode cX7_copy 18 = .ok (.getfield 9, 3) := by decide +kernel
theorem dX7_copy_21 : decode cX7_copy 21 = .ok (.iconst 0, 1) := by decide +kernel
theorem dX7_copy_22 : decode cX7_copy 22 = .ok (.iload_n 2, 1) := by decide +kernel
theorem dX7_copy_23 : decode cX7_copy 23 = .ok (.invokestatic 38, 3) := by decide +kernel
theorem dX7_copy_26 : decode cX7_copy 26 = .ok (.aload_n 1, 1) := by decide +kernel
theorem dX7_copy_27 : decode cX7_copy 27 = .ok (.getfield 15, 3) := by decide +kernel
theorem dX7_copy_30 : decode cX7_copy 30 = .ok (.iconst 0, 1) := by decide +kernel
theorem dX7_copy_31 : decode cX7_copy 31 = .ok (.aload_n 0, 1) := by decide +kernel
theorem dX7_copy_32 : decode cX7_copy 32 = .ok (.getfield 15, 3) := by decide +kernel
theorem dX7_copy_35 : decode cX7_copy 35 = .ok (.iconst 0, 1) := by decide +kernel
theorem dX7_copy_36 : decode cX7_copy 36 = .ok (.iload_n 2, 1) := by decide +kernel
theorem dX7_copy_37 : decode cX7_copy 37 = .ok (.invokestatic 38, 3) := by decide +kernel
theorem dX7_copy_40 : decode cX7_copy 40 = .ok (.aload_n 0, 1) := by decide +kernel
theorem dX7_copy_41 : decode cX7_copy 41 = .ok (.aload_n 1, 1) := by decide +kernel
theorem dX7_copy_42 : decode cX7_copy 42 = .ok (.getfield 32, 3) := by decide +kernel
theorem dX7_copy_45 : decode cX7_copy 45 = .ok (.putfield 32, 3) := by decide +kernel
theorem dX7_copy_48 : decode cX7_copy 48 = .ok (.aload_n 0, 1) := by decide +kernel
theorem dX7_copy_49 : decode cX7_copy 49 = .ok (.aload_n 1, 1) := by decide +kernel
theorem dX7_copy_50 : decode cX7_copy 50 = .ok (.getfield 22, 3) := by decide +kernel
theorem dX7_copy_53 : decode cX7_copy 53 = .ok (.putfield 22, 3) := by decide +kernel
theorem dX7_copy_56 : decode cX7_copy 56 = .ok (.return_, 1) := by decide +kernel
theorem dX7_count_0 : decode cX7_count 0 = .ok (.iconst 0, 1) := by decide +kernel
theorem dX7_count_1 : decode cX7_count 1 = .ok (.istore_n 1, 1) := by decide +kernel
theorem dX7_count_2 : decode cX7_count 2 = .ok (.iconst 0, 1) := by decide +kernel
theorem dX7_count_3 : decode cX7_count 3 = .ok (.istore_n 2, 1) := by decide +kernel
theorem dX7_count_4 : decode cX7_count 4 = .ok (.iload_n 2, 1) := by decide +kernel
theorem dX7_count_5 : decode cX7_count 5 = .ok (.aload_n 0, 1) := by decide +kernel
theorem dX7_count_6 : decode cX7_count 6 = .ok (.getfield 22, 3) := by decide +kernel
theorem dX7_count_9 : decode cX7_count 9 = .ok (.if_icmp .ge 21, 3) := by decide +kernel
theorem dX7_count_12 : decode cX7_count 12 = .ok (.aload_n 0, 1) := by decide +kernel
theorem dX7_count_13 : decode cX7_count 13 = .ok (.getfield 9, 3) := by decide +kernel
theorem dX7_count_16 : decode cX7_count 16 = .ok (.iload_n 2, 1) := by decide +kernel
theorem dX7_count_17 : decode cX7_count 17 = .ok (.iaload, 1) := by decide +kernel
theorem dX7_count_18 : decode cX7_count 18 = .ok (.ifCond .eq 6, 3) := by decide +kernel
theorem dX7_count_21 : decode cX7_count 21 = .ok (.iinc 1 1, 3) := by decide +kernel
theorem dX7_count_24 : decode cX7_count 24 = .ok (.iinc 2 1, 3) := by decide +kernel
theorem dX7_count_27 : decode cX7_count 27 = .ok (.goto (-23), 3) := by decide +kernel
theorem dX7_count_30 : decode cX7_count 30 = .ok (.iload_n 1, 1) := by decide +kernel
theorem dX7_count_31 : decode cX7_count 31 = .ok (.ireturn, 1) := by decide +kernel
theorem dX8_init_0 : decode cX8_init 0 = .ok (.aload_n 0, 1) := by decide +kernel
theorem dX8_init_1 : decode cX8_init 1 = .ok (.invokespecial 3, 3) := by decide +kernel
theorem dX8_init_4 : decode cX8_init 4 = .ok (.aload_n 0, 1) := by decide +kernel
theorem dX8_init_5 : decode cX8_init 5 = .ok (.bipush 25, 2) := by decide +kernel
theorem dX8_init_7 : decode cX8_init 7 = .ok (.newarray .int, 2) := by decide +kernel
theorem dX8_init_9 : decode cX8_init 9 = .ok (.putfield 9, 3) := by decide +kernel
theorem dX8_init_12 : decode cX8_init 12 = .ok (.return_, 1) := by decide +kernel
theorem dX8_addLast_0 : decode cX8_addLast 0 = .ok (.aload_n 0, 1) := by decide +kernel
theorem dX8_addLast_1 : decode cX8_addLast 1 = .ok (.getfield 15, 3) := by decide +kernel
theorem dX8_addLast_4 : decode cX8_addLast 4 = .ok (.aload_n 0, 1) := by decide +kernel
theorem dX8_addLast_5 : decode cX8_addLast 5 = .ok (.getfield 9, 3) := by decide +kernel
theorem dX8_addLast_8 : decode cX8_addLast 8 = .ok (.arraylength, 1) := by decide +kernel
theorem dX8_addLast_9 : decode cX8_addLast 9 = .ok (.if_icmp .ge 23, 3) := by decide +kernel
theorem dX8_addLast_12 : decode cX8_addLast 12 = .ok (.aload_n 0, 1) := by decide +kernel
theorem dX8_addLast_13 : decode cX8_addLast 13 = .ok (.getfield 9, 3) := by decide +kernel
theorem dX8_addLast_16 : decode cX8_addLast 16 = .ok (.aload_n 0, 1) := by decide +kernel
theorem dX8_addLast_17 : decode cX8_addLast 17 = .ok (.getfield 15, 3) := by decide +kernel
theorem dX8_addLast_20 : decode cX8_addLast 20 = .ok (.iload_n 1, 1) := by decide +kernel
theorem dX8_addLast_21 : decode cX8_addLast 21 = .ok (.iastore, 1) := by decide +kernel
theorem dX8_addLast_22 : decode cX8_addLast 22 = .ok (.aload_n 0, 1) := by decide +kernel
theorem dX8_addLast_23 : decode cX8_addLast 23 = .ok (.dup, 1) := by decide +kernel
theorem dX8_addLast_24 : decode cX8_addLast 24 = .ok (.getfield 15, 3) := by decide +kernel
theorem dX8_addLast_27 : decode cX8_addLast 27 = .ok (.iconst 1, 1) := by decide +kernel
theorem dX8_addLast_28 : decode cX8_addLast 28 = .ok (.iadd, 1) := by decide +kernel
theorem dX8_addLast_29 : decode cX8_addLast 29 = .ok (.putfield 15, 3) := by decide +kernel
theorem dX8_addLast_32 : decode cX8_addLast 32 = .ok (.return_, 1) := by decide +kernel
theorem dX8_addGoing_0 : decode cX8_addGoing 0 = .ok (.aload_n 0, 1) := by decide +kernel
theorem dX8_addGoing_1 : decode cX8_addGoing 1 = .ok (.getfield 15, 3) := by decide +kernel
theorem dX8_addGoing_4 : decode cX8_addGoing 4 = .ok (.aload_n 0, 1) := by decide +kernel
theorem dX8_addGoing_5 : decode cX8_addGoing 5 = .ok (.getfield 9, 3) := by decide +kernel
theorem dX8_addGoing_8 : decode cX8_addGoing 8 = .ok (.arraylength, 1) := by decide +kernel
theorem dX8_addGoing_9 : decode cX8_addGoing 9 = .ok (.if_icmp .lt 4, 3) := by decide +kernel
theorem dX8_addGoing_12 : decode cX8_addGoing 12 = .ok (.return_, 1) := by decide +kernel
theorem dX8_addGoing_13 : decode cX8_addGoing 13 = .ok (.aload_n 0, 1) := by decide +kernel
theorem dX8_addGoing_14 : decode cX8_addGoing 14 = .ok (.getfield 15, 3) := by decide +kernel
theorem dX8_addGoing_17 : decode cX8_addGoing 17 = .ok (.istore_n 2, 1) := by decide +kernel
theorem dX8_addGoing_18 : decode cX8_addGoing 18 = .ok (.iload_n 2, 1) := by decide +kernel
theorem dX8_addGoing_19 : decode cX8_addGoing 19 = .ok (.aload_n 0, 1) := by decide +kernel
theorem dX8_addGoing_20 : decode cX8_addGoing 20 = .ok (.getfield 19, 3) := by decide +kernel
theorem dX8_addGoing_23 : decode cX8_addGoing 23 = .ok (.if_icmp .le 23, 3) := by decide +kernel
theorem dX8_addGoing_26 : decode cX8_addGoing 26 = .ok (.aload_n 0, 1) := by decide +kernel
theorem dX8_addGoing_27 : decode cX8_addGoing 27 = .ok (.getfield 9, 3) := by decide +kernel
theorem dX8_addGoing_30 : decode cX8_addGoing 30 = .ok (.iload_n 2, 1) := by decide +kernel
theorem dX8_addGoing_31 : decode cX8_addGoing 31 = .ok (.aload_n 0, 1) := by decide +kernel
theorem dX8_addGoing_32 : decode cX8_addGoing 32 = .ok (.getfield 9, 3) := by decide +kernel
theorem dX8_addGoing_35 : decode cX8_addGoing 35 = .ok (.iload_n 2, 1) := by decide +kernel
theorem dX8_addGoing_36 : decode cX8_addGoing 36 = .ok (.iconst 1, 1) := by decide +kernel
theorem dX8_addGoing_37 : decode cX8_addGoing 37 = .ok (.isub, 1) := by decide +kernel
theorem dX8_addGoing_38 : decode cX8_addGoing 38 = .ok (.iaload, 1) := by decide +kernel
theorem dX8_addGoing_39 : decode cX8_addGoing 39 = .ok (.iastore, 1) := by decide +kernel
theorem dX8_addGoing_40 : decode cX8_addGoing 40 = .ok (.iinc 2 (-1), 3) := by decide +kernel
theorem dX8_addGoing_43 : decode cX8_addGoing 43 = .ok (.goto (-25), 3) := by decide +kernel
theorem dX8_addGoing_46 : decode cX8_addGoing 46 = .ok (.aload_n 0, 1) := by decide +kernel
theorem dX8_addGoing_47 : decode cX8_addGoing 47 = .ok (.getfield 9, 3) := by decide +kernel
theorem dX8_addGoing_50 : decode cX8_addGoing 50 = .ok (.aload_n 0, 1) := by decide +kernel
theorem dX8_addGoing_51 : decode cX8_addGoing 51 = .ok (.getfield 19, 3) := by decide +kernel
theorem dX8_addGoing_54 : decode cX8_addGoing 54 = .ok (.iload_n 1, 1) := by decide +kernel
theorem dX8_addGoing_55 : decode cX8_addGoing 55 = .ok (.iastore, 1) := by decide +kernel
theorem dX8_addGoing_56 : decode cX8_addGoing 56 = .ok (.aload_n 0, 1) := by decide +kernel
theorem dX8_addGoing_57 : decode cX8_addGoing 57 = .ok (.dup, 1) := by decide +kernel
theorem dX8_addGoing_58 : decode cX8_addGoing 58 = .ok (.getfield 19, 3) := by decide +kernel
theorem dX8_addGoing_61 : decode cX8_addGoing 61 = .ok (.iconst 1, 1) := by decide +kernel
theorem dX8_addGoing_62 : decode cX8_addGoing 62 = .ok (.iadd, 1) := by decide +kernel
theorem dX8_addGoing_63 : decode cX8_addGoing 63 = .ok (.putfield 19, 3) := by decide +kernel
theorem dX8_addGoing_66 : decode cX8_addGoing 66 = .ok (.aload_n 0, 1) := by decide +kernel
theorem dX8_addGoing_67 : decode cX8_addGoing 67 = .ok (.dup, 1) := by decide +kernel
theorem dX8_addGoing_68 : decode cX8_addGoing 68 = .ok (.getfield 15, 3) := by decide +kernel
theorem dX8_addGoing_71 : decode cX8_addGoing 71 = .ok (.iconst 1, 1) := by decide +kernel
theorem dX8_addGoing_72 : decode cX8_addGoing 72 = .ok (.iadd, 1) := by decide +kernel
theorem dX8_addGoing_73 : decode cX8_addGoing 73 = .ok (.putfield 15, 3) := by decide +kernel
theorem dX8_addGoing_76 : decode cX8_addGoing 76 = .ok (.return_, 1) := by decide +kernel
theorem dX8_takeFirst_0 : decode cX8_takeFirst 0 = .ok (.aload_n 0, 1) := by decide +kernel
theorem dX8_takeFirst_1 : decode cX8_takeFirst 1 = .ok (.getfield 15, 3) := by decide +kernel
theorem dX8_takeFirst_4 : decode cX8_takeFirst 4 = .ok (.ifCond .ne 7, 3) := by decide +kernel
theorem dX8_takeFirst_7 : decode cX8_takeFirst 7 = .ok (.sipush (-1000), 3) := by decide +kernel
theorem dX8_takeFirst_10 : decode cX8_takeFirst 10 = .ok (.ireturn, 1) := by decide +kernel
theorem dX8_takeFirst_11 : decode cX8_takeFirst 11 = .ok (.aload_n 0, 1) := by decide +kernel
theorem dX8_takeFirst_12 : decode cX8_takeFirst 12 = .ok (.getfield 9, 3) := by decide +kernel
theorem dX8_takeFirst_15 : decode cX8_takeFirst 15 = .ok (.iconst 0, 1) := by decide +kernel
theorem dX8_takeFirst_16 : decode cX8_takeFirst 16 = .ok (.iaload, 1) := by decide +kernel
theorem dX8_takeFirst_17 : decode cX8_takeFirst 17 = .ok (.istore_n 1, 1) := by decide +kernel
theorem dX8_takeFirst_18 : decode cX8_takeFirst 18 = .ok (.aload_n 0, 1) := by decide +kernel
theorem dX8_takeFirst_19 : decode cX8_takeFirst 19 = .ok (.dup, 1) := by decide +kernel
theorem dX8_takeFirst_20 : decode cX8_takeFirst 20 = .ok (.getfield 15, 3) := by decide +kernel
theorem dX8_takeFirst_23 : decode cX8_takeFirst 23 = .ok (.iconst 1, 1) := by decide +kernel
theorem dX8_takeFirst_24 : decode cX8_takeFirst 24 = .ok (.isub, 1) := by decide +kernel
theorem dX8_takeFirst_25 : decode cX8_takeFirst 25 = .ok (.putfield 15, 3) := by decide +kernel
theorem dX8_takeFirst_28 : decode cX8_takeFirst 28 = .ok (.iconst 0, 1) := by decide +kernel
theorem dX8_takeFirst_29 : decode cX8_takeFirst 29 = .ok (.istore_n 2, 1) := by decide +kernel
theorem dX8_takeFirst_30 : decode cX8_takeFirst 30 = .ok (.iload_n 2, 1) := by decide +kernel
theorem dX8_takeFirst_31 : decode cX8_takeFirst 31 = .ok (.aload_n 0, 1) := by decide +kernel
theorem dX8_takeFirst_32 : decode cX8_takeFirst 32 = .ok (.getfield 15, 3) := by decide +kernel
theorem dX8_takeFirst_35 : decode cX8_takeFirst 35 = .ok (.if_icmp .ge 23, 3) := by decide +kernel
theorem dX8_takeFirst_38 : decode cX8_takeFirst 38 = .ok (.aload_n 0, 1) := by decide +kernel
theorem dX8_takeFirst_39 : decode cX8_takeFirst 39 = .ok (.getfield 9, 3) := by decide +kernel
theorem dX8_takeFirst_42 : decode cX8_takeFirst 42 = .ok (.iload_n 2, 1) := by decide +kernel
theorem dX8_takeFirst_43 : decode cX8_takeFirst 43 = .ok (.aload_n 0, 1) := by decide +kernel
theorem dX8_takeFirst_44 : decode cX8_takeFirst 44 = .ok (.getfield 9, 3) := by decide +kernel
theorem dX8_takeFirst_47 : decode cX8_takeFirst 47 = .ok (.iload_n 2, 1) := by decide +kernel
theorem dX8_takeFirst_48 : decode cX8_takeFirst 48 = .ok (.iconst 1, 1) := by decide +kernel
theorem dX8_takeFirst_49 : decode cX8_takeFirst 49 = .ok (.iadd, 1) := by decide +kernel
theorem dX8_takeFirst_50 : decode cX8_takeFirst 50 = .ok (.iaload, 1) := by decide +kernel
theorem dX8_takeFirst_51 : decode cX8_takeFirst 51 = .ok (.iastore, 1) := by decide +kernel
theorem dX8_takeFirst_52 : decode cX8_takeFirst 52 = .ok (.iinc 2 1, 3) := by decide +kernel
theorem dX8_takeFirst_55 : decode cX8_takeFirst 55 = .ok (.goto (-25), 3) := by decide +kernel
theorem dX8_takeFirst_58 : decode cX8_takeFirst 58 = .ok (.aload_n 0, 1) := by decide +kernel
theorem dX8_takeFirst_59 : decode cX8_takeFirst 59 = .ok (.getfield 19, 3) := by decide +kernel
theorem dX8_takeFirst_62 : decode cX8_takeFirst 62 = .ok (.ifCond .le 13, 3) := by decide +kernel
theorem dX8_takeFirst_65 : decode cX8_takeFirst 65 = .ok (.aload_n 0, 1) := by decide +kernel
theorem dX8_takeFirst_66 : decode cX8_takeFirst 66 = .ok (.dup, 1) := by decide +kernel
theorem dX8_takeFirst_67 : decode cX8_takeFirst 67 = .ok (.getfield 19, 3) := by decide +kernel
theorem dX8_takeFirst_70 : decode cX8_takeFirst 70 = .ok (.iconst 1, 1) := by decide +kernel
theorem dX8_takeFirst_71 : decode cX8_takeFirst 71 = .ok (.isub, 1) := by decide +kernel
theorem dX8_takeFirst_72 : decode cX8_takeFirst 72 = .ok (.putfield 19, 3) := by decide +kernel
theorem dX8_takeFirst_75 : decode cX8_takeFirst 75 = .ok (.iload_n 1, 1) := by decide +kernel
theorem dX8_takeFirst_76 : decode cX8_takeFirst 76 = .ok (.ireturn, 1) := by decide +kernel
theorem dX8_goingBits_0 : decode cX8_goingBits 0 = .ok (.iconst 0, 1) := by decide +kernel
theorem dX8_goingBits_1 : decode cX8_goingBits 1 = .ok (.istore_n 1, 1) := by decide +kernel
theorem dX8_goingBits_2 : decode cX8_goingBits 2 = .ok (.iconst 0, 1) := by decide +kernel
theorem dX8_goingBits_3 : decode cX8_goingBits 3 = .ok (.istore_n 2, 1) := by decide +kernel
theorem dX8_goingBits_4 : decode cX8_goingBits 4 = .ok (.iload_n 2, 1) := by decide +kernel
theorem dX8_goingBits_5 : decode cX8_goingBits 5 = .ok (.aload_n 0, 1) := by decide +kernel
theorem dX8_goingBits_6 : decode cX8_goingBits 6 = .ok (.getfield 19, 3) := by decide +kernel
theorem dX8_goingBits_9 : decode cX8_goingBits 9 = .ok (.if_icmp .ge 21, 3) := by decide +kernel
theorem dX8_goingBits_12 : decode cX8_goingBits 12 = .ok (.iload_n 1, 1) := by decide +kernel
theorem dX8_goingBits_13 : decode cX8_goingBits 13 = .ok (.aload_n 0, 1) := by decide +kernel
theorem dX8_goingBits_14 : decode cX8_goingBits 14 = .ok (.getfield 9, 3) := by decide +kernel
theorem dX8_goingBits_17 : decode cX8_goingBits 17 = .ok (.iload_n 2, 1) := by decide +kernel
theorem dX8_goingBits_18 : decode cX8_goingBits 18 = .ok (.iaload, 1) := by decide +kernel
theorem dX8_goingBits_19 : decode cX8_goingBits 19 = .ok (.invokestatic 22, 3) := by decide +kernel
theorem dX8_goingBits_22 : decode cX8_goingBits 22 = .ok (.ior, 1) := by decide +kernel
theorem dX8_goingBits_23 : decode cX8_goingBits 23 = .ok (.istore_n 1, 1) := by decide +kernel
theorem dX8_goingBits_24 : decode cX8_goingBits 24 = .ok (.iinc 2 1, 3) := by decide +kernel
theorem dX8_goingBits_27 : decode cX8_goingBits 27 = .ok (.goto (-23), 3) := by decide +kernel
theorem dX8_goingBits_30 : decode cX8_goingBits 30 = .ok (.iload_n 1, 1) := by decide +kernel
theorem dX8_goingBits_31 : decode cX8_goingBits 31 = .ok (.ireturn, 1) := by decide +kernel
theorem dJ6_bitCount_0f7a4_0 : decode cJ6_bitCount_0f7a4 0 = .ok (.iload_n 0, 1) := by decide +kernel
theorem dJ6_bitCount_0f7a4_1 : decode cJ6_bitCount_0f7a4 1 = .ok (.iload_n 0, 1) := by decide +kernel
theorem dJ6_bitCount_0f7a4_2 : decode cJ6_bitCount_0f7a4 2 = .ok (.iconst 1, 1) := by decide +kernel
theorem dJ6_bitCount_0f7a4_3 : decode cJ6_bitCount_0f7a4 3 = .ok (.iushr, 1) := by decide +kernel
theorem dJ6_bitCount_0f7a4_4 : decode cJ6_bitCount_0f7a4 4 = .ok (.ldc_w 265, 3) := by decide +kernel
theorem dJ6_bitCount_0f7a4_7 : decode cJ6_bitCount_0f7a4 7 = .ok (.iand, 1) := by decide +kernel
theorem dJ6_bitCount_0f7a4_8 : decode cJ6_bitCount_0f7a4 8 = .ok (.isub, 1) := by decide +kernel
theorem dJ6_bitCount_0f7a4_9 : decode cJ6_bitCount_0f7a4 9 = .ok (.istore_n 0, 1) := by decide +kernel
theorem dJ6_bitCount_0f7a4_10 : decode cJ6_bitCount_0f7a4 10 = .ok (.iload_n 0, 1) := by decide +kernel
theorem dJ6_bitCount_0f7a4_11 : decode cJ6_bitCount_0f7a4 11 = .ok (.ldc_w 266, 3) := by decide +kernel
theorem dJ6_bitCount_0f7a4_14 : decode cJ6_bitCount_0f7a4 14 = .ok (.iand, 1) := by decide +kernel
theorem dJ6_bitCount_0f7a4_15 : decode cJ6_bitCount_0f7a4 15 = .ok (.iload_n 0, 1) := by decide +kernel
theorem dJ6_bitCount_0f7a4_16 : decode cJ6_bitCount_0f7a4 16 = .ok (.iconst 2, 1) := by decide +kernel
theorem dJ6_bitCount_0f7a4_17 : decode cJ6_bitCount_0f7a4 17 = .ok (.iushr, 1) := by decide +kernel
theorem dJ6_bitCount_0f7a4_18 : decode cJ6_bitCount_0f7a4 18 = .ok (.ldc_w 266, 3) := by decide +kernel
theorem dJ6_bitCount_0f7a4_21 : decode cJ6_bitCount_0f7a4 21 = .ok (.iand, 1) := by decide +kernel
theorem dJ6_bitCount_0f7a4_22 : decode cJ6_bitCount_0f7a4 22 = .ok (.iadd, 1) := by decide +kernel
theorem dJ6_bitCount_0f7a4_23 : decode cJ6_bitCount_0f7a4 23 = .ok (.istore_n 0, 1) := by decide +kernel
theorem dJ6_bitCount_0f7a4_24 : decode cJ6_bitCount_0f7a4 24 = .ok (.iload_n 0, 1) := by decide +kernel
theorem dJ6_bitCount_0f7a4_25 : decode cJ6_bitCount_0f7a4 25 = .ok (.iload_n 0, 1) := by decide +kernel
theorem dJ6_bitCount_0f7a4_26 : decode cJ6_bitCount_0f7a4 26 = .ok (.iconst 4, 1) := by decide +kernel
theorem dJ6_bitCount_0f7a4_27 : decode cJ6_bitCount_0f7a4 27 = .ok (.iushr, 1) := by decide +kernel
theorem dJ6_bitCount_0f7a4_28 : decode cJ6_bitCount_0f7a4 28 = .ok (.iadd, 1) := by decide +kernel
theorem dJ6_bitCount_0f7a4_29 : decode cJ6_bitCount_0f7a4 29 = .ok (.ldc_w 267, 3) := by decide +kernel
theorem dJ6_bitCount_0f7a4_32 : decode cJ6_bitCount_0f7a4 32 = .ok (.iand, 1) := by decide +kernel
theorem dJ6_bitCount_0f7a4_33 : decode cJ6_bitCount_0f7a4 33 = .ok (.istore_n 0, 1) := by decide +kernel
theorem dJ6_bitCount_0f7a4_34 : decode cJ6_bitCount_0f7a4 34 = .ok (.iload_n 0, 1) := by decide +kernel
theorem dJ6_bitCount_0f7a4_35 : decode cJ6_bitCount_0f7a4 35 = .ok (.iload_n 0, 1) := by decide +kernel
theorem dJ6_bitCount_0f7a4_36 : decode cJ6_bitCount_0f7a4 36 = .ok (.bipush 8, 2) := by decide +kernel
theorem dJ6_bitCount_0f7a4_38 : decode cJ6_bitCount_0f7a4 38 = .ok (.iushr, 1) := by decide +kernel
theorem dJ6_bitCount_0f7a4_39 : decode cJ6_bitCount_0f7a4 39 = .ok (.iadd, 1) := by decide +kernel
theorem dJ6_bitCount_0f7a4_40 : decode cJ6_bitCount_0f7a4 40 = .ok (.istore_n 0, 1) := by decide +kernel
theorem dJ6_bitCount_0f7a4_41 : decode cJ6_bitCount_0f7a4 41 = .ok (.iload_n 0, 1) := by decide +kernel
theorem dJ6_bitCount_0f7a4_42 : decode cJ6_bitCount_0f7a4 42 = .ok (.iload_n 0, 1) := by decide +kernel
theorem dJ6_bitCount_0f7a4_43 : decode cJ6_bitCount_0f7a4 43 = .ok (.bipush 16, 2) := by decide +kernel
theorem dJ6_bitCount_0f7a4_45 : decode cJ6_bitCount_0f7a4 45 = .ok (.iushr, 1) := by decide +kernel
theorem dJ6_bitCount_0f7a4_46 : decode cJ6_bitCount_0f7a4 46 = .ok (.iadd, 1) := by decide +kernel
theorem dJ6_bitCount_0f7a4_47 : decode cJ6_bitCount_0f7a4 47 = .ok (.istore_n 0, 1) := by decide +kernel
theorem dJ6_bitCount_0f7a4_48 : decode cJ6_bitCount_0f7a4 48 = .ok (.iload_n 0, 1) := by decide +kernel
theorem dJ6_bitCount_0f7a4_49 : decode cJ6_bitCount_0f7a4 49 = .ok (.bipush 63, 2) := by decide +kernel
theorem dJ6_bitCount_0f7a4_51 : decode cJ6_bitCount_0f7a4 51 = .ok (.iand, 1) := by decide +kernel
theorem dJ6_bitCount_0f7a4_52 : decode cJ6_bitCount_0f7a4 52 = .ok (.ireturn, 1) := by decide +kernel
theorem dJ9_max_7cf53_0 : decode cJ9_max_7cf53 0 = .ok (.iload_n 0, 1) := by decide +kernel
theorem dJ9_max_7cf53_1 : decode cJ9_max_7cf53 1 = .ok (.iload_n 1, 1) := by decide +kernel
theorem dJ9_max_7cf53_2 : decode cJ9_max_7cf53 2 = .ok (.if_icmp .lt 7, 3) := by decide +kernel
theorem dJ9_max_7cf53_5 : decode cJ9_max_7cf53 5 = .ok (.iload_n 0, 1) := by decide +kernel
theorem dJ9_max_7cf53_6 : decode cJ9_max_7cf53 6 = .ok (.goto 4, 3) := by decide +kernel
theorem dJ9_max_7cf53_9 : decode cJ9_max_7cf53 9 = .ok (.iload_n 1, 1) := by decide +kernel
theorem dJ9_max_7cf53_10 : decode cJ9_max_7cf53 10 = .ok (.ireturn, 1) := by decide +kernel
theorem dJ9_min_7cf53_0 : decode cJ9_min_7cf53 0 = .ok (.iload_n 0, 1) := by decide +kernel
theorem dJ9_min_7cf53_1 : decode cJ9_min_7cf53 1 = .ok (.iload_n 1, 1) := by decide +kernel
theorem dJ9_min_7cf53_2 : decode cJ9_min_7cf53 2 = .ok (.if_icmp .gt 7, 3) := by decide +kernel
theorem dJ9_min_7cf53_5 : decode cJ9_min_7cf53 5 = .ok (.iload_n 0, 1) := by decide +kernel
theorem dJ9_min_7cf53_6 : decode cJ9_min_7cf53 6 = .ok (.goto 4, 3) := by decide +kernel
theorem dJ9_min_7cf53_9 : decode cJ9_min_7cf53 9 = .ok (.iload_n 1, 1) := by decide +kernel
theorem dJ9_min_7cf53_10 : decode cJ9_min_7cf53 10 = .ok (.ireturn, 1) := by decide +kernel
theorem dJ7_fill_53178_0 : decode cJ7_fill_53178 0 = .ok (.iconst 0, 1) := by decide +kernel
theorem dJ7_fill_53178_1 : decode cJ7_fill_53178 1 = .ok (.istore_n 2, 1) := by decide +kernel
theorem dJ7_fill_53178_2 : decode cJ7_fill_53178 2 = .ok (.aload_n 0, 1) := by decide +kernel
theorem dJ7_fill_53178_3 : decode cJ7_fill_53178 3 = .ok (.arraylength, 1) := by decide +kernel
theorem dJ7_fill_53178_4 : decode cJ7_fill_53178 4 = .ok (.istore_n 3, 1) := by decide +kernel
theorem dJ7_fill_53178_5 : decode cJ7_fill_53178 5 = .ok (.iload_n 2, 1) := by decide +kernel
theorem dJ7_fill_53178_6 : decode cJ7_fill_53178 6 = .ok (.iload_n 3, 1) := by decide +kernel
theorem dJ7_fill_53178_7 : decode cJ7_fill_53178 7 = .ok (.if_icmp .ge 13, 3) := by decide +kernel
theorem dJ7_fill_53178_10 : decode cJ7_fill_53178 10 = .ok (.aload_n 0, 1) := by decide +kernel
theorem dJ7_fill_53178_11 : decode cJ7_fill_53178 11 = .ok (.iload_n 2, 1) := by decide +kernel
theorem dJ7_fill_53178_12 : decode cJ7_fill_53178 12 = .ok (.iload_n 1, 1) := by decide +kernel
theorem dJ7_fill_53178_13 : decode cJ7_fill_53178 13 = .ok (.iastore, 1) := by decide +kernel
theorem dJ7_fill_53178_14 : decode cJ7_fill_53178 14 = .ok (.iinc 2 1, 3) := by decide +kernel
theorem dJ7_fill_53178_17 : decode cJ7_fill_53178 17 = .ok (.goto (-12), 3) := by decide +kernel
theorem dJ7_fill_53178_20 : decode cJ7_fill_53178 20 = .ok (.return_, 1) := by decide +kernel
