theorem dX9_init_0 : decode cX9_init 0 = .ok (.aload_n 0, 1) := by decide +kernel
theorem dX9_init_1 : decode cX9_init 1 = .ok (.invokespecial 3, 3) := by decide +kernel
theorem dX9_init_4 : decode cX9_init 4 = .ok (.iload_n 1, 1) := by decide +kernel
theorem dX9_init_5 : decode cX9_init 5 = .ok (.iconst 2, 1) := by decide +kernel
theorem dX9_init_6 : decode cX9_init 6 = .ok (.if_icmp .lt 12, 3) := by decide +kernel
theorem dX9_init_9 : decode cX9_init 9 = .ok (.iload_n 1, 1) := by decide +kernel
theorem dX9_init_10 : decode cX9_init 10 = .ok (.iconst 5, 1) := by decide +kernel
theorem dX9_init_11 : decode cX9_init 11 = .ok (.if_icmp .gt 7, 3) := by decide +kernel
theorem dX9_init_14 : decode cX9_init 14 = .ok (.iconst 1, 1) := by decide +kernel
theorem dX9_init_15 : decode cX9_init 15 = .ok (.goto 4, 3) := by decide +kernel
theorem dX9_init_18 : decode cX9_init 18 = .ok (.iconst 0, 1) := by decide +kernel
theorem dX9_init_19 : decode cX9_init 19 = .ok (.istore_n 2, 1) := by decide +kernel
theorem dX9_init_20 : decode cX9_init 20 = .ok (.aload_n 0, 1) := by decide +kernel
theorem dX9_init_21 : decode cX9_init 21 = .ok (.iload_n 2, 1) := by decide +kernel
theorem dX9_init_22 : decode cX9_init 22 = .ok (.ifCond .eq 7, 3) := by decide +kernel
theorem dX9_init_25 : decode cX9_init 25 = .ok (.iload_n 1, 1) := by decide +kernel
theorem dX9_init_26 : decode cX9_init 26 = .ok (.goto 4, 3) := by decide +kernel
theorem dX9_init_29 : decode cX9_init 29 = .ok (.iconst 3, 1) := by decide +kernel
theorem dX9_init_30 : decode cX9_init 30 = .ok (.putfield 9, 3) := by decide +kernel
theorem dX9_init_33 : decode cX9_init 33 = .ok (.aload_n 0, 1) := by decide +kernel
theorem dX9_init_34 : decode cX9_init 34 = .ok (.iconst 2, 1) := by decide +kernel
theorem dX9_init_35 : decode cX9_init 35 = .ok (.aload_n 0, 1) := by decide +kernel
theorem dX9_init_36 : decode cX9_init 36 = .ok (.getfield 9, 3) := by decide +kernel
theorem dX9_init_39 : decode cX9_init 39 = .ok (.imul, 1) := by decide +kernel
theorem dX9_init_40 : decode cX9_init 40 = .ok (.iconst 1, 1) := by decide +kernel
theorem dX9_init_41 : decode cX9_init 41 = .ok (.isub, 1) := by decide +kernel
theorem dX9_init_42 : decode cX9_init 42 = .ok (.putfield 13, 3) := by decide +kernel
theorem dX9_init_45 : decode cX9_init 45 = .ok (.aload_n 0, 1) := by decide +kernel
theorem dX9_init_46 : decode cX9_init 46 = .ok (.iconst 1, 1) := by decide +kernel
theorem dX9_init_47 : decode cX9_init 47 = .ok (.aload_n 0, 1) := by decide +kernel
theorem dX9_init_48 : decode cX9_init 48 = .ok (.getfield 13, 3) := by decide +kernel
theorem dX9_init_51 : decode cX9_init 51 = .ok (.ishl, 1) := by decide +kernel
theorem dX9_init_52 : decode cX9_init 52 = .ok (.iconst 1, 1) := by decide +kernel
theorem dX9_init_53 : decode cX9_init 53 = .ok (.aload_n 0, 1) := by decide +kernel
theorem dX9_init_54 : decode cX9_init 54 = .ok (.getfield 9, 3) := by decide +kernel
theorem dX9_init_57 : decode cX9_init 57 = .ok (.ishl, 1) := by decide +kernel
theorem dX9_init_58 : decode cX9_init 58 = .ok (.isub, 1) := by decide +kernel
theorem dX9_init_59 : decode cX9_init 59 = .ok (.putfield 16, 3) := by decide +kernel
theorem dX9_init_62 : decode cX9_init 62 = .ok (.aload_n 0, 1) := by decide +kernel
theorem dX9_init_63 : decode cX9_init 63 = .ok (.aload_n 0, 1) := by decide +kernel
theorem dX9_init_64 : decode cX9_init 64 = .ok (.getfield 13, 3) := by decide +kernel
theorem dX9_init_67 : decode cX9_init 67 = .ok (.anewarray 19, 3) := by decide +kernel
theorem dX9_init_70 : decode cX9_init 70 = .ok (.putfield 21, 3) := by decide +kernel
theorem dX9_init_73 : decode cX9_init 73 = .ok (.iconst 0, 1) := by decide +kernel
theorem dX9_init_74 : decode cX9_init 74 = .ok (.istore_n 3, 1) := by decide +kernel
theorem dX9_init_75 : decode cX9_init 75 = .ok (.iload_n 3, 1) := by decide +kernel
theorem dX9_init_76 : decode cX9_init 76 = .ok (.aload_n 0, 1) := by decide +kernel
theorem dX9_init_77 : decode cX9_init 77 = .ok (.getfield 13, 3) := by decide +kernel
theorem dX9_init_80 : decode cX9_init 80 = .ok (.if_icmp .ge 22, 3) := by decide +kernel
theorem dX9_init_83 : decode cX9_init 83 = .ok (.aload_n 0, 1) := by decide +kernel
theorem dX9_init_84 : decode cX9_init 84 = .ok (.getfield 21, 3) := by decide +kernel
theorem dX9_init_87 : decode cX9_init 87 = .ok (.iload_n 3, 1) := by decide +kernel
theorem dX9_init_88 : decode cX9_init 88 = .ok (.new 19, 3) := by decide +kernel
theorem dX9_init_91 : decode cX9_init 91 = .ok (.dup, 1) := by decide +kernel
theorem dX9_init_92 : decode cX9_init 92 = .ok (.invokespecial 25, 3) := by decide +kernel
theorem dX9_init_95 : decode cX9_init 95 = .ok (.aastore, 1) := by decide +kernel
theorem dX9_init_96 : decode cX9_init 96 = .ok (.iinc 3 1, 3) := by decide +kernel
theorem dX9_init_99 : decode cX9_init 99 = .ok (.goto (-24), 3) := by decide +kernel
theorem dX9_init_102 : decode cX9_init 102 = .ok (.aload_n 0, 1) := by decide +kernel
theorem dX9_init_103 : decode cX9_init 103 = .ok (.aload_n 0, 1) := by decide +kernel
theorem dX9_init_104 : decode cX9_init 104 = .ok (.getfield 9, 3) := by decide +kernel
theorem dX9_init_107 : decode cX9_init 107 = .ok (.anewarray 26, 3) := by decide +kernel
theorem dX9_init_110 : decode cX9_init 110 = .ok (.putfield 28, 3) := by decide +kernel
theorem dX9_init_113 : decode cX9_init 113 = .ok (.iconst 0, 1) := by decide +kernel
theorem dX9_init_114 : decode cX9_init 114 = .ok (.istore_n 3, 1) := by decide +kernel
theorem dX9_init_115 : decode cX9_init 115 = .ok (.iload_n 3, 1) := by decide +kernel
theorem dX9_init_116 : decode cX9_init 116 = .ok (.aload_n 0, 1) := by decide +kernel
theorem dX9_init_117 : decode cX9_init 117 = .ok (.getfield 9, 3) := by decide +kernel
theorem dX9_init_120 : decode cX9_init 120 = .ok (.if_icmp .ge 30, 3) := by decide +kernel
theorem dX9_init_123 : decode cX9_init 123 = .ok (.aload_n 0, 1) := by decide +kernel
theorem dX9_init_124 : decode cX9_init 124 = .ok (.getfield 28, 3) := by decide +kernel
theorem dX9_init_127 : decode cX9_init 127 = .ok (.iload_n 3, 1) := by decide +kernel
theorem dX9_init_128 : decode cX9_init 128 = .ok (.new 26, 3) := by decide +kernel
theorem dX9_init_131 : decode cX9_init 131 = .ok (.dup, 1) := by decide +kernel
theorem dX9_init_132 : decode cX9_init 132 = .ok (.aload_n 0, 1) := by decide +kernel
theorem dX9_init_133 : decode cX9_init 133 = .ok (.getfield 9, 3) := by decide +kernel
theorem dX9_init_136 : decode cX9_init 136 = .ok (.aload_n 0, 1) := by decide +kernel
theorem dX9_init_137 : decode cX9_init 137 = .ok (.getfield 13, 3) := by decide +kernel
theorem dX9_init_140 : decode cX9_init 140 = .ok (.invokespecial 32, 3) := by decide +kernel
theorem dX9_init_143 : decode cX9_init 143 = .ok (.aastore, 1) := by decide +kernel
theorem dX9_init_144 : decode cX9_init 144 = .ok (.iinc 3 1, 3) := by decide +kernel
theorem dX9_init_147 : decode cX9_init 147 = .ok (.goto (-32), 3) := by decide +kernel
theorem dX9_init_150 : decode cX9_init 150 = .ok (.aload_n 0, 1) := by decide +kernel
theorem dX9_init_151 : decode cX9_init 151 = .ok (.new 35, 3) := by decide +kernel
theorem dX9_init_154 : decode cX9_init 154 = .ok (.dup, 1) := by decide +kernel
theorem dX9_init_155 : decode cX9_init 155 = .ok (.invokespecial 37, 3) := by decide +kernel
theorem dX9_init_158 : decode cX9_init 158 = .ok (.putfield 38, 3) := by decide +kernel
theorem dX9_init_161 : decode cX9_init 161 = .ok (.return_, 1) := by decide +kernel
theorem dX9_submit_0 : decode cX9_submit 0 = .ok (.aload_n 0, 1) := by decide +kernel
theorem dX9_submit_1 : decode cX9_submit 1 = .ok (.iload_n 1, 1) := by decide +kernel
theorem dX9_submit_2 : decode cX9_submit 2 = .ok (.invokevirtual 42, 3) := by decide +kernel
theorem dX9_submit_5 : decode cX9_submit 5 = .ok (.iload_n 2, 1) := by decide +kernel
theorem dX9_submit_6 : decode cX9_submit 6 = .ok (.iconst 1, 1) := by decide +kernel
theorem dX9_submit_7 : decode cX9_submit 7 = .ok (.if_icmp .ge 13, 3) := by decide +kernel
theorem dX9_submit_10 : decode cX9_submit 10 = .ok (.new 46, 3) := by decide +kernel
theorem dX9_submit_13 : decode cX9_submit 13 = .ok (.dup, 1) := by decide +kernel
theorem dX9_submit_14 : decode cX9_submit 14 = .ok (.ldc 48, 2) := by decide +kernel
theorem dX9_submit_16 : decode cX9_submit 16 = .ok (.invokespecial 50, 3) := by decide +kernel
theorem dX9_submit_19 : decode cX9_submit 19 = .ok (.athrow, 1) := by decide +kernel
theorem dX9_submit_20 : decode cX9_submit 20 = .ok (.aload_n 0, 1) := by decide +kernel
theorem dX9_submit_21 : decode cX9_submit 21 = .ok (.getfield 28, 3) := by decide +kernel
theorem dX9_submit_24 : decode cX9_submit 24 = .ok (.iload_n 1, 1) := by decide +kernel
theorem dX9_submit_25 : decode cX9_submit 25 = .ok (.aaload, 1) := by decide +kernel
theorem dX9_submit_26 : decode cX9_submit 26 = .ok (.getfield 53, 3) := by decide +kernel
theorem dX9_submit_29 : decode cX9_submit 29 = .ok (.astore_n 3, 1) := by decide +kernel
theorem dX9_submit_30 : decode cX9_submit 30 = .ok (.aload_n 0, 1) := by decide +kernel
theorem dX9_submit_31 : decode cX9_submit 31 = .ok (.getfield 21, 3) := by decide +kernel
theorem dX9_submit_34 : decode cX9_submit 34 = .ok (.iload_n 1, 1) := by decide +kernel
theorem dX9_submit_35 : decode cX9_submit 35 = .ok (.aaload, 1) := by decide +kernel
theorem dX9_submit_36 : decode cX9_submit 36 = .ok (.getfield 57, 3) := by decide +kernel
theorem dX9_submit_39 : decode cX9_submit 39 = .ok (.ifCond .ne 12, 3) := by decide +kernel
theorem dX9_submit_42 : decode cX9_submit 42 = .ok (.aload_n 3, 1) := by decide +kernel
theorem dX9_submit_43 : decode cX9_submit 43 = .ok (.getfield 61, 3) := by decide +kernel
theorem dX9_submit_46 : decode cX9_submit 46 = .ok (.bipush 20, 2) := by decide +kernel
theorem dX9_submit_48 : decode cX9_submit 48 = .ok (.if_icmp .lt 13, 3) := by decide +kernel
theorem dX9_submit_51 : decode cX9_submit 51 = .ok (.new 66, 3) := by decide +kernel
theorem dX9_submit_54 : decode cX9_submit 54 = .ok (.dup, 1) := by decide +kernel
theorem dX9_submit_55 : decode cX9_submit 55 = .ok (.ldc 68, 2) := by decide +kernel
theorem dX9_submit_57 : decode cX9_submit 57 = .ok (.invokespecial 70, 3) := by decide +kernel
theorem dX9_submit_60 : decode cX9_submit 60 = .ok (.athrow, 1) := by decide +kernel
theorem dX9_submit_61 : decode cX9_submit 61 = .ok (.aload_n 3, 1) := by decide +kernel
theorem dX9_submit_62 : decode cX9_submit 62 = .ok (.iload_n 2, 1) := by decide +kernel
theorem dX9_submit_63 : decode cX9_submit 63 = .ok (.invokevirtual 71, 3) := by decide +kernel
theorem dX9_submit_66 : decode cX9_submit 66 = .ok (.aload_n 0, 1) := by decide +kernel
theorem dX9_submit_67 : decode cX9_submit 67 = .ok (.iload_n 1, 1) := by decide +kernel
theorem dX9_submit_68 : decode cX9_submit 68 = .ok (.invokevirtual 74, 3) := by decide +kernel
theorem dX9_submit_71 : decode cX9_submit 71 = .ok (.aload_n 3, 1) := by decide +kernel
theorem dX9_submit_72 : decode cX9_submit 72 = .ok (.getfield 61, 3) := by decide +kernel
theorem dX9_submit_75 : decode cX9_submit 75 = .ok (.ireturn, 1) := by decide +kernel
theorem dX9_campaign_0 : decode cX9_campaign 0 = .ok (.aload_n 0, 1) := by decide +kernel
theorem dX9_campaign_1 : decode cX9_campaign 1 = .ok (.iload_n 1, 1) := by decide +kernel
theorem dX9_campaign_2 : decode cX9_campaign 2 = .ok (.invokevirtual 42, 3) := by decide +kernel
theorem dX9_campaign_5 : decode cX9_campaign 5 = .ok (.aload_n 0, 1) := by decide +kernel
theorem dX9_campaign_6 : decode cX9_campaign 6 = .ok (.getfield 28, 3) := by decide +kernel
theorem dX9_campaign_9 : decode cX9_campaign 9 = .ok (.iload_n 1, 1) := by decide +kernel
theorem dX9_campaign_10 : decode cX9_campaign 10 = .ok (.aaload, 1) := by decide +kernel
theorem dX9_campaign_11 : decode cX9_campaign 11 = .ok (.getfield 77, 3) := by decide +kernel
theorem dX9_campaign_14 : decode cX9_campaign 14 = .ok (.astore_n 2, 1) := by decide +kernel
theorem dX9_campaign_15 : decode cX9_campaign 15 = .ok (.aload_n 0, 1) := by decide +kernel
theorem dX9_campaign_16 : decode cX9_campaign 16 = .ok (.getfield 28, 3) := by decide +kernel
theorem dX9_campaign_19 : decode cX9_campaign 19 = .ok (.iload_n 1, 1) := by decide +kernel
theorem dX9_campaign_20 : decode cX9_campaign 20 = .ok (.aaload, 1) := by decide +kernel
theorem dX9_campaign_21 : decode cX9_campaign 21 = .ok (.getfield 81, 3) := by decide +kernel
theorem dX9_campaign_24 : decode cX9_campaign 24 = .ok (.astore_n 3, 1) := by decide +kernel
theorem dX9_campaign_25 : decode cX9_campaign 25 = .ok (.aload_n 0, 1) := by decide +kernel
theorem dX9_campaign_26 : decode cX9_campaign 26 = .ok (.getfield 21, 3) := by decide +kernel
theorem dX9_campaign_29 : decode cX9_campaign 29 = .ok (.iload_n 1, 1) := by decide +kernel
theorem dX9_campaign_30 : decode cX9_campaign 30 = .ok (.aaload, 1) := by decide +kernel
theorem dX9_campaign_31 : decode cX9_campaign 31 = .ok (.getfield 85, 3) := by decide +kernel
theorem dX9_campaign_34 : decode cX9_campaign 34 = .ok (.aload_n 3, 1) := by decide +kernel
theorem dX9_campaign_35 : decode cX9_campaign 35 = .ok (.getfield 88, 3) := by decide +kernel
theorem dX9_campaign_38 : decode cX9_campaign 38 = .ok (.invokestatic 93, 3) := by decide +kernel
theorem dX9_campaign_41 : decode cX9_campaign 41 = .ok (.istore 4, 2) := by decide +kernel
theorem dX9_campaign_43 : decode cX9_campaign 43 = .ok (.iload 4, 2) := by decide +kernel
theorem dX9_campaign_45 : decode cX9_campaign 45 = .ok (.iload_n 1, 1) := by decide +kernel
theorem dX9_campaign_46 : decode cX9_campaign 46 = .ok (.invokestatic 99, 3) := by decide +kernel
theorem dX9_campaign_49 : decode cX9_campaign 49 = .ok (.istore 5, 2) := by decide +kernel
theorem dX9_campaign_51 : decode cX9_campaign 51 = .ok (.aload_n 0, 1) := by decide +kernel
theorem dX9_campaign_52 : decode cX9_campaign 52 = .ok (.getfield 21, 3) := by decide +kernel
theorem dX9_campaign_55 : decode cX9_campaign 55 = .ok (.iload_n 1, 1) := by decide +kernel
theorem dX9_campaign_56 : decode cX9_campaign 56 = .ok (.aaload, 1) := by decide +kernel
theorem dX9_campaign_57 : decode cX9_campaign 57 = .ok (.getfield 57, 3) := by decide +kernel
theorem dX9_campaign_60 : decode cX9_campaign 60 = .ok (.ifCond .ne 31, 3) := by decide +kernel
theorem dX9_campaign_63 : decode cX9_campaign 63 = .ok (.aload_n 2, 1) := by decide +kernel
theorem dX9_campaign_64 : decode cX9_campaign 64 = .ok (.getfield 102, 3) := by decide +kernel
theorem dX9_campaign_67 : decode cX9_campaign 67 = .ok (.bipush 100, 2) := by decide +kernel
theorem dX9_campaign_69 : decode cX9_campaign 69 = .ok (.if_icmp .ge 22, 3) := by decide +kernel
theorem dX9_campaign_72 : decode cX9_campaign 72 = .ok (.aload_n 2, 1) := by decide +kernel
theorem dX9_campaign_73 : decode cX9_campaign 73 = .ok (.iload_n 1, 1) := by decide +kernel
theorem dX9_campaign_74 : decode cX9_campaign 74 = .ok (.invokevirtual 107, 3) := by decide +kernel
theorem dX9_campaign_77 : decode cX9_campaign 77 = .ok (.ifCond .eq 14, 3) := by decide +kernel
theorem dX9_campaign_80 : decode cX9_campaign 80 = .ok (.iload 5, 2) := by decide +kernel
theorem dX9_campaign_82 : decode cX9_campaign 82 = .ok (.bipush 8, 2) := by decide +kernel
theorem dX9_campaign_84 : decode cX9_campaign 84 = .ok (.idiv, 1) := by decide +kernel
theorem dX9_campaign_85 : decode cX9_campaign 85 = .ok (.sipush 1000, 3) := by decide +kernel
theorem dX9_campaign_88 : decode cX9_campaign 88 = .ok (.if_icmp .le 13, 3) := by decide +kernel
theorem dX9_campaign_91 : decode cX9_campaign 91 = .ok (.new 66, 3) := by decide +kernel
theorem dX9_campaign_94 : decode cX9_campaign 94 = .ok (.dup, 1) := by decide +kernel
theorem dX9_campaign_95 : decode cX9_campaign 95 = .ok (.ldc 111, 2) := by decide +kernel
theorem dX9_campaign_97 : decode cX9_campaign 97 = .ok (.invokespecial 70, 3) := by decide +kernel
theorem dX9_campaign_100 : decode cX9_campaign 100 = .ok (.athrow, 1) := by decide +kernel
theorem dX9_campaign_101 : decode cX9_campaign 101 = .ok (.aload_n 3, 1) := by decide +kernel
theorem dX9_campaign_102 : decode cX9_campaign 102 = .ok (.iload 5, 2) := by decide +kernel
theorem dX9_campaign_104 : decode cX9_campaign 104 = .ok (.invokevirtual 113, 3) := by decide +kernel
theorem dX9_campaign_107 : decode cX9_campaign 107 = .ok (.aload_n 0, 1) := by decide +kernel
theorem dX9_campaign_108 : decode cX9_campaign 108 = .ok (.iload_n 1, 1) := by decide +kernel
theorem dX9_campaign_109 : decode cX9_campaign 109 = .ok (.aload_n 2, 1) := by decide +kernel
theorem dX9_campaign_110 : decode cX9_campaign 110 = .ok (.aload_n 2, 1) := by decide +kernel
theorem dX9_campaign_111 : decode cX9_campaign 111 = .ok (.getfield 102, 3) := by decide +kernel
theorem dX9_campaign_114 : decode cX9_campaign 114 = .ok (.invokevirtual 116, 3) := by decide +kernel
theorem dX9_campaign_117 : decode cX9_campaign 117 = .ok (.invokevirtual 120, 3) := by decide +kernel
theorem dX9_campaign_120 : decode cX9_campaign 120 = .ok (.aload_n 0, 1) := by decide +kernel
theorem dX9_campaign_121 : decode cX9_campaign 121 = .ok (.iload_n 1, 1) := by decide +kernel
theorem dX9_campaign_122 : decode cX9_campaign 122 = .ok (.invokevirtual 74, 3) := by decide +kernel
theorem dX9_campaign_125 : decode cX9_campaign 125 = .ok (.iload 5, 2) := by decide +kernel
theorem dX9_campaign_127 : decode cX9_campaign 127 = .ok (.ireturn, 1) := by decide +kernel
theorem dX9_deliver_0 : decode cX9_deliver 0 = .ok (.aload_n 0, 1) := by decide +kernel
theorem dX9_deliver_1 : decode cX9_deliver 1 = .ok (.iload_n 1, 1) := by decide +kernel
theorem dX9_deliver_2 : decode cX9_deliver 2 = .ok (.invokevirtual 123, 3) := by decide +kernel
theorem dX9_deliver_5 : decode cX9_deliver 5 = .ok (.aload_n 0, 1) := by decide +kernel
theorem dX9_deliver_6 : decode cX9_deliver 6 = .ok (.aload_n 0, 1) := by decide +kernel
theorem dX9_deliver_7 : decode cX9_deliver 7 = .ok (.getfield 38, 3) := by decide +kernel
theorem dX9_deliver_10 : decode cX9_deliver 10 = .ok (.getfield 126, 3) := by decide +kernel
theorem dX9_deliver_13 : decode cX9_deliver 13 = .ok (.iload_n 1, 1) := by decide +kernel
theorem dX9_deliver_14 : decode cX9_deliver 14 = .ok (.invokevirtual 130, 3) := by decide +kernel
theorem dX9_deliver_17 : decode cX9_deliver 17 = .ok (.invokevirtual 136, 3) := by decide +kernel
theorem dX9_deliver_20 : decode cX9_deliver 20 = .ok (.ireturn, 1) := by decide +kernel
theorem dX9_lose_0 : decode cX9_lose 0 = .ok (.aload_n 0, 1) := by decide +kernel
theorem dX9_lose_1 : decode cX9_lose 1 = .ok (.iload_n 1, 1) := by decide +kernel
theorem dX9_lose_2 : decode cX9_lose 2 = .ok (.invokevirtual 123, 3) := by decide +kernel
theorem dX9_lose_5 : decode cX9_lose 5 = .ok (.aload_n 0, 1) := by decide +kernel
theorem dX9_lose_6 : decode cX9_lose 6 = .ok (.getfield 38, 3) := by decide +kernel
theorem dX9_lose_9 : decode cX9_lose 9 = .ok (.aload_n 0, 1) := by decide +kernel
theorem dX9_lose_10 : decode cX9_lose 10 = .ok (.getfield 38, 3) := by decide +kernel
theorem dX9_lose_13 : decode cX9_lose 13 = .ok (.getfield 126, 3) := by decide +kernel
theorem dX9_lose_16 : decode cX9_lose 16 = .ok (.iload_n 1, 1) := by decide +kernel
theorem dX9_lose_17 : decode cX9_lose 17 = .ok (.invokevirtual 130, 3) := by decide +kernel
theorem dX9_lose_20 : decode cX9_lose 20 = .ok (.invokevirtual 140, 3) := by decide +kernel
theorem dX9_lose_23 : decode cX9_lose 23 = .ok (.aload_n 0, 1) := by decide +kernel
theorem dX9_lose_24 : decode cX9_lose 24 = .ok (.getfield 38, 3) := by decide +kernel
theorem dX9_lose_27 : decode cX9_lose 27 = .ok (.getfield 126, 3) := by decide +kernel
theorem dX9_lose_30 : decode cX9_lose 30 = .ok (.getfield 144, 3) := by decide +kernel
theorem dX9_lose_33 : decode cX9_lose 33 = .ok (.ireturn, 1) := by decide +kernel
theorem dX9_repeat_0 : decode cX9_repeat 0 = .ok (.aload_n 0, 1) := by decide +kernel
theorem dX9_repeat_1 : decode cX9_repeat 1 = .ok (.iload_n 1, 1) := by decide +kernel
theorem dX9_repeat_2 : decode cX9_repeat 2 = .ok (.invokevirtual 123, 3) := by decide +kernel
theorem dX9_repeat_5 : decode cX9_repeat 5 = .ok (.aload_n 0, 1) := by decide +kernel
theorem dX9_repeat_6 : decode cX9_repeat 6 = .ok (.getfield 38, 3) := by decide +kernel
theorem dX9_repeat_9 : decode cX9_repeat 9 = .ok (.getfield 126, 3) := by decide +kernel
theorem dX9_repeat_12 : decode cX9_repeat 12 = .ok (.getfield 144, 3) := by decide +kernel
theorem dX9_repeat_15 : decode cX9_repeat 15 = .ok (.sipush 300, 3) := by decide +kernel
theorem dX9_repeat_18 : decode cX9_repeat 18 = .ok (.if_icmp .lt 13, 3) := by decide +kernel
theorem dX9_repeat_21 : decode cX9_repeat 21 = .ok (.new 66, 3) := by decide +kernel
theorem dX9_repeat_24 : decode cX9_repeat 24 = .ok (.dup, 1) := by decide +kernel
theorem dX9_repeat_25 : decode cX9_repeat 25 = .ok (.ldc 145, 2) := by decide +kernel
theorem dX9_repeat_27 : decode cX9_repeat 27 = .ok (.invokespecial 70, 3) := by decide +kernel
theorem dX9_repeat_30 : decode cX9_repeat 30 = .ok (.athrow, 1) := by decide +kernel
theorem dX9_repeat_31 : decode cX9_repeat 31 = .ok (.aload_n 0, 1) := by decide +kernel
theorem dX9_repeat_32 : decode cX9_repeat 32 = .ok (.getfield 38, 3) := by decide +kernel
theorem dX9_repeat_35 : decode cX9_repeat 35 = .ok (.aload_n 0, 1) := by decide +kernel
theorem dX9_repeat_36 : decode cX9_repeat 36 = .ok (.getfield 38, 3) := by decide +kernel
theorem dX9_repeat_39 : decode cX9_repeat 39 = .ok (.getfield 126, 3) := by decide +kernel
theorem dX9_repeat_42 : decode cX9_repeat 42 = .ok (.iload_n 1, 1) := by decide +kernel
theorem dX9_repeat_43 : decode cX9_repeat 43 = .ok (.invokevirtual 147, 3) := by decide +kernel
theorem dX9_repeat_46 : decode cX9_repeat 46 = .ok (.invokevirtual 150, 3) := by decide +kernel
theorem dX9_repeat_49 : decode cX9_repeat 49 = .ok (.aload_n 0, 1) := by decide +kernel
theorem dX9_repeat_50 : decode cX9_repeat 50 = .ok (.getfield 38, 3) := by decide +kernel
theorem dX9_repeat_53 : decode cX9_repeat 53 = .ok (.getfield 126, 3) := by decide +kernel
theorem dX9_repeat_56 : decode cX9_repeat 56 = .ok (.getfield 144, 3) := by decide +kernel
theorem dX9_repeat_59 : decode cX9_repeat 59 = .ok (.ireturn, 1) := by decide +kernel
theorem dX9_tick_0 : decode cX9_tick 0 = .ok (.iconst 0, 1) := by decide +kernel
theorem dX9_tick_1 : decode cX9_tick 1 = .ok (.istore_n 1, 1) := by decide +kernel
theorem dX9_tick_2 : decode cX9_tick 2 = .ok (.iload_n 1, 1) := by decide +kernel
theorem dX9_tick_3 : decode cX9_tick 3 = .ok (.aload_n 0, 1) := by decide +kernel
theorem dX9_tick_4 : decode cX9_tick 4 = .ok (.getfield 9, 3) := by decide +kernel
theorem dX9_tick_7 : decode cX9_tick 7 = .ok (.if_icmp .ge 14, 3) := by decide +kernel
theorem dX9_tick_10 : decode cX9_tick 10 = .ok (.aload_n 0, 1) := by decide +kernel
theorem dX9_tick_11 : decode cX9_tick 11 = .ok (.iload_n 1, 1) := by decide +kernel
theorem dX9_tick_12 : decode cX9_tick 12 = .ok (.invokevirtual 153, 3) := by decide +kernel
theorem dX9_tick_15 : decode cX9_tick 15 = .ok (.iinc 1 1, 3) := by decide +kernel
theorem dX9_tick_18 : decode cX9_tick 18 = .ok (.goto (-16), 3) := by decide +kernel
theorem dX9_tick_21 : decode cX9_tick 21 = .ok (.return_, 1) := by decide +kernel
theorem dX9_run_0 : decode cX9_run 0 = .ok (.iload_n 1, 1) := by decide +kernel
theorem dX9_run_1 : decode cX9_run 1 = .ok (.iconst 1, 1) := by decide +kernel
theorem dX9_run_2 : decode cX9_run 2 = .ok (.if_icmp .lt 9, 3) := by decide +kernel
theorem dX9_run_5 : decode cX9_run 5 = .ok (.iload_n 1, 1) := by decide +kernel
theorem dX9_run_6 : decode cX9_run 6 = .ok (.bipush 50, 2) := by decide +kernel
theorem dX9_run_8 : decode cX9_run 8 = .ok (.if_icmp .le 13, 3) := by decide +kernel
theorem dX9_run_11 : decode cX9_run 11 = .ok (.new 46, 3) := by decide +kernel
theorem dX9_run_14 : decode cX9_run 14 = .ok (.dup, 1) := by decide +kernel
theorem dX9_run_15 : decode cX9_run 15 = .ok (.ldc 156, 2) := by decide +kernel
theorem dX9_run_17 : decode cX9_run 17 = .ok (.invokespecial 50, 3) := by decide +kernel
theorem dX9_run_20 : decode cX9_run 20 = .ok (.athrow, 1) := by decide +kernel
theorem dX9_run_21 : decode cX9_run 21 = .ok (.iconst 0, 1) := by decide +kernel
theorem dX9_run_22 : decode cX9_run 22 = .ok (.istore_n 2, 1) := by decide +kernel
theorem dX9_run_23 : decode cX9_run 23 = .ok (.iload_n 2, 1) := by decide +kernel
theorem dX9_run_24 : decode cX9_run 24 = .ok (.iload_n 1, 1) := by decide +kernel
theorem dX9_run_25 : decode cX9_run 25 = .ok (.if_icmp .ge 75, 3) := by decide +kernel
theorem dX9_run_28 : decode cX9_run 28 = .ok (.aload_n 0, 1) := by decide +kernel
theorem dX9_run_29 : decode cX9_run 29 = .ok (.getfield 38, 3) := by decide +kernel
theorem dX9_run_32 : decode cX9_run 32 = .ok (.getfield 126, 3) := by decide +kernel
theorem dX9_run_35 : decode cX9_run 35 = .ok (.getfield 144, 3) := by decide +kernel
theorem dX9_run_38 : decode cX9_run 38 = .ok (.istore_n 3, 1) := by decide +kernel
theorem dX9_run_39 : decode cX9_run 39 = .ok (.iconst 0, 1) := by decide +kernel
theorem dX9_run_40 : decode cX9_run 40 = .ok (.istore 4, 2) := by decide +kernel
theorem dX9_run_42 : decode cX9_run 42 = .ok (.iload 4, 2) := by decide +kernel
theorem dX9_run_44 : decode cX9_run 44 = .ok (.iload_n 3, 1) := by decide +kernel
theorem dX9_run_45 : decode cX9_run 45 = .ok (.if_icmp .ge 25, 3) := by decide +kernel
theorem dX9_run_48 : decode cX9_run 48 = .ok (.aload_n 0, 1) := by decide +kernel
theorem dX9_run_49 : decode cX9_run 49 = .ok (.aload_n 0, 1) := by decide +kernel
theorem dX9_run_50 : decode cX9_run 50 = .ok (.getfield 38, 3) := by decide +kernel
theorem dX9_run_53 : decode cX9_run 53 = .ok (.getfield 126, 3) := by decide +kernel
theorem dX9_run_56 : decode cX9_run 56 = .ok (.iconst 0, 1) := by decide +kernel
theorem dX9_run_57 : decode cX9_run 57 = .ok (.invokevirtual 130, 3) := by decide +kernel
theorem dX9_run_60 : decode cX9_run 60 = .ok (.invokevirtual 136, 3) := by decide +kernel
theorem dX9_run_63 : decode cX9_run 63 = .ok (.pop, 1) := by decide +kernel
theorem dX9_run_64 : decode cX9_run 64 = .ok (.iinc 4 1, 3) := by decide +kernel
theorem dX9_run_67 : decode cX9_run 67 = .ok (.goto (-25), 3) := by decide +kernel
theorem dX9_run_70 : decode cX9_run 70 = .ok (.iconst 0, 1) := by decide +kernel
theorem dX9_run_71 : decode cX9_run 71 = .ok (.istore 4, 2) := by decide +kernel
theorem dX9_run_73 : decode cX9_run 73 = .ok (.iload 4, 2) := by decide +kernel
theorem dX9_run_75 : decode cX9_run 75 = .ok (.aload_n 0, 1) := by decide +kernel
theorem dX9_run_76 : decode cX9_run 76 = .ok (.getfield 9, 3) := by decide +kernel
theorem dX9_run_79 : decode cX9_run 79 = .ok (.if_icmp .ge 15, 3) := by decide +kernel
theorem dX9_run_82 : decode cX9_run 82 = .ok (.aload_n 0, 1) := by decide +kernel
theorem dX9_run_83 : decode cX9_run 83 = .ok (.iload 4, 2) := by decide +kernel
theorem dX9_run_85 : decode cX9_run 85 = .ok (.invokevirtual 153, 3) := by decide +kernel
theorem dX9_run_88 : decode cX9_run 88 = .ok (.iinc 4 1, 3) := by decide +kernel
theorem dX9_run_91 : decode cX9_run 91 = .ok (.goto (-18), 3) := by decide +kernel
theorem dX9_run_94 : decode cX9_run 94 = .ok (.iinc 2 1, 3) := by decide +kernel
theorem dX9_run_97 : decode cX9_run 97 = .ok (.goto (-74), 3) := by decide +kernel
theorem dX9_run_100 : decode cX9_run 100 = .ok (.aload_n 0, 1) := by decide +kernel
theorem dX9_run_101 : decode cX9_run 101 = .ok (.getfield 38, 3) := by decide +kernel
theorem dX9_run_104 : decode cX9_run 104 = .ok (.getfield 126, 3) := by decide +kernel
theorem dX9_run_107 : decode cX9_run 107 = .ok (.getfield 144, 3) := by decide +kernel
theorem dX9_run_110 : decode cX9_run 110 = .ok (.ireturn, 1) := by decide +kernel
theorem dX9_crash_0 : decode cX9_crash 0 = .ok (.aload_n 0, 1) := by decide +kernel
theorem dX9_crash_1 : decode cX9_crash 1 = .ok (.iload_n 1, 1) := by decide +kernel
theorem dX9_crash_2 : decode cX9_crash 2 = .ok (.invokevirtual 158, 3) := by decide +kernel
theorem dX9_crash_5 : decode cX9_crash 5 = .ok (.aload_n 0, 1) := by decide +kernel
theorem dX9_crash_6 : decode cX9_crash 6 = .ok (.getfield 21, 3) := by decide +kernel
theorem dX9_crash_9 : decode cX9_crash 9 = .ok (.iload_n 1, 1) := by decide +kernel
theorem dX9_crash_10 : decode cX9_crash 10 = .ok (.aaload, 1) := by decide +kernel
theorem dX9_crash_11 : decode cX9_crash 11 = .ok (.getfield 57, 3) := by decide +kernel
theorem dX9_crash_14 : decode cX9_crash 14 = .ok (.ifCond .eq 7, 3) := by decide +kernel
theorem dX9_crash_17 : decode cX9_crash 17 = .ok (.iconst 1, 1) := by decide +kernel
theorem dX9_crash_18 : decode cX9_crash 18 = .ok (.goto 4, 3) := by decide +kernel
theorem dX9_crash_21 : decode cX9_crash 21 = .ok (.iconst 0, 1) := by decide +kernel
theorem dX9_crash_22 : decode cX9_crash 22 = .ok (.istore_n 3, 1) := by decide +kernel
theorem dX9_crash_23 : decode cX9_crash 23 = .ok (.aload_n 0, 1) := by decide +kernel
theorem dX9_crash_24 : decode cX9_crash 24 = .ok (.getfield 21, 3) := by decide +kernel
theorem dX9_crash_27 : decode cX9_crash 27 = .ok (.iload_n 1, 1) := by decide +kernel
theorem dX9_crash_28 : decode cX9_crash 28 = .ok (.aaload, 1) := by decide +kernel
theorem dX9_crash_29 : decode cX9_crash 29 = .ok (.iload_n 2, 1) := by decide +kernel
theorem dX9_crash_30 : decode cX9_crash 30 = .ok (.putfield 57, 3) := by decide +kernel
theorem dX9_crash_33 : decode cX9_crash 33 = .ok (.iload_n 1, 1) := by decide +kernel
theorem dX9_crash_34 : decode cX9_crash 34 = .ok (.aload_n 0, 1) := by decide +kernel
theorem dX9_crash_35 : decode cX9_crash 35 = .ok (.getfield 9, 3) := by decide +kernel
theorem dX9_crash_38 : decode cX9_crash 38 = .ok (.if_icmp .ge 15, 3) := by decide +kernel
theorem dX9_crash_41 : decode cX9_crash 41 = .ok (.aload_n 0, 1) := by decide +kernel
theorem dX9_crash_42 : decode cX9_crash 42 = .ok (.getfield 28, 3) := by decide +kernel
theorem dX9_crash_45 : decode cX9_crash 45 = .ok (.iload_n 1, 1) := by decide +kernel
theorem dX9_crash_46 : decode cX9_crash 46 = .ok (.aaload, 1) := by decide +kernel
theorem dX9_crash_47 : decode cX9_crash 47 = .ok (.getfield 81, 3) := by decide +kernel
theorem dX9_crash_50 : decode cX9_crash 50 = .ok (.invokevirtual 161, 3) := by decide +kernel
theorem dX9_crash_53 : decode cX9_crash 53 = .ok (.iload_n 3, 1) := by decide +kernel
theorem dX9_crash_54 : decode cX9_crash 54 = .ok (.ireturn, 1) := by decide +kernel
theorem dX9_way_0 : decode cX9_way 0 = .ok (.aload_n 0, 1) := by decide +kernel
theorem dX9_way_1 : decode cX9_way 1 = .ok (.getfield 38, 3) := by decide +kernel
theorem dX9_way_4 : decode cX9_way 4 = .ok (.getfield 126, 3) := by decide +kernel
theorem dX9_way_7 : decode cX9_way 7 = .ok (.getfield 144, 3) := by decide +kernel
theorem dX9_way_10 : decode cX9_way 10 = .ok (.ireturn, 1) := by decide +kernel
theorem dX9_message_0 : decode cX9_message 0 = .ok (.aload_n 0, 1) := by decide +kernel
theorem dX9_message_1 : decode cX9_message 1 = .ok (.iload_n 1, 1) := by decide +kernel
theorem dX9_message_2 : decode cX9_message 2 = .ok (.invokevirtual 123, 3) := by decide +kernel
theorem dX9_message_5 : decode cX9_message 5 = .ok (.aload_n 0, 1) := by decide +kernel
theorem dX9_message_6 : decode cX9_message 6 = .ok (.getfield 38, 3) := by decide +kernel
theorem dX9_message_9 : decode cX9_message 9 = .ok (.getfield 126, 3) := by decide +kernel
theorem dX9_message_12 : decode cX9_message 12 = .ok (.iload_n 1, 1) := by decide +kernel
theorem dX9_message_13 : decode cX9_message 13 = .ok (.invokevirtual 147, 3) := by decide +kernel
theorem dX9_message_16 : decode cX9_message 16 = .ok (.astore_n 3, 1) := by decide +kernel
theorem dX9_message_17 : decode cX9_message 17 = .ok (.aload_n 3, 1) := by decide +kernel
theorem dX9_message_18 : decode cX9_message 18 = .ok (.ifnonnull 13, 3) := by decide +kernel
theorem dX9_message_21 : decode cX9_message 21 = .ok (.new 164, 3) := by decide +kernel
theorem dX9_message_24 : decode cX9_message 24 = .ok (.dup, 1) := by decide +kernel
theorem dX9_message_25 : decode cX9_message 25 = .ok (.ldc 166, 2) := by decide +kernel
theorem dX9_message_27 : decode cX9_message 27 = .ok (.invokespecial 168, 3) := by decide +kernel
theorem dX9_message_30 : decode cX9_message 30 = .ok (.athrow, 1) := by decide +kernel
theorem dX9_message_31 : decode cX9_message 31 = .ok (.iload_n 2, 1) := by decide +kernel
theorem dX9_message_32 : decode cX9_message 32 = .ok (.tableswitch 70 0 5 #[40, 45, 50, 55, 60, 65], 40) := by decide +kernel
theorem dX9_message_72 : decode cX9_message 72 = .ok (.aload_n 3, 1) := by decide +kernel
theorem dX9_message_73 : decode cX9_message 73 = .ok (.getfield 169, 3) := by decide +kernel
theorem dX9_message_76 : decode cX9_message 76 = .ok (.ireturn, 1) := by decide +kernel
theorem dX9_message_77 : decode cX9_message 77 = .ok (.aload_n 3, 1) := by decide +kernel
theorem dX9_message_78 : decode cX9_message 78 = .ok (.getfield 174, 3) := by decide +kernel
theorem dX9_message_81 : decode cX9_message 81 = .ok (.ireturn, 1) := by decide +kernel
theorem dX9_message_82 : decode cX9_message 82 = .ok (.aload_n 3, 1) := by decide +kernel
theorem dX9_message_83 : decode cX9_message 83 = .ok (.getfield 177, 3) := by decide +kernel
theorem dX9_message_86 : decode cX9_message 86 = .ok (.ireturn, 1) := by decide +kernel
theorem dX9_message_87 : decode cX9_message 87 = .ok (.aload_n 3, 1) := by decide +kernel
theorem dX9_message_88 : decode cX9_message 88 = .ok (.getfield 180, 3) := by decide +kernel
theorem dX9_message_91 : decode cX9_message 91 = .ok (.ireturn, 1) := by decide +kernel
theorem dX9_message_92 : decode cX9_message 92 = .ok (.aload_n 3, 1) := by decide +kernel
theorem dX9_message_93 : decode cX9_message 93 = .ok (.getfield 181, 3) := by decide +kernel
theorem dX9_message_96 : decode cX9_message 96 = .ok (.ireturn, 1) := by decide +kernel
theorem dX9_message_97 : decode cX9_message 97 = .ok (.aload_n 3, 1) := by decide +kernel
theorem dX9_message_98 : decode cX9_message 98 = .ok (.getfield 184, 3) := by decide +kernel
theorem dX9_message_101 : decode cX9_message 101 = .ok (.ireturn, 1) := by decide +kernel
theorem dX9_message_102 : decode cX9_message 102 = .ok (.new 164, 3) := by decide +kernel
theorem dX9_message_105 : decode cX9_message 105 = .ok (.dup, 1) := by decide +kernel
theorem dX9_message_106 : decode cX9_message 106 = .ok (.ldc 187, 2) := by decide +kernel
theorem dX9_message_108 : decode cX9_message 108 = .ok (.invokespecial 168, 3) := by decide +kernel
theorem dX9_message_111 : decode cX9_message 111 = .ok (.athrow, 1) := by decide +kernel
theorem dX9_decided_0 : decode cX9_decided 0 = .ok (.aload_n 0, 1) := by decide +kernel
theorem dX9_decided_1 : decode cX9_decided 1 = .ok (.iload_n 1, 1) := by decide +kernel
theorem dX9_decided_2 : decode cX9_decided 2 = .ok (.invokevirtual 42, 3) := by decide +kernel
theorem dX9_decided_5 : decode cX9_decided 5 = .ok (.aload_n 0, 1) := by decide +kernel
theorem dX9_decided_6 : decode cX9_decided 6 = .ok (.getfield 28, 3) := by decide +kernel
theorem dX9_decided_9 : decode cX9_decided 9 = .ok (.iload_n 1, 1) := by decide +kernel
theorem dX9_decided_10 : decode cX9_decided 10 = .ok (.aaload, 1) := by decide +kernel
theorem dX9_decided_11 : decode cX9_decided 11 = .ok (.getfield 77, 3) := by decide +kernel
theorem dX9_decided_14 : decode cX9_decided 14 = .ok (.iload_n 2, 1) := by decide +kernel
theorem dX9_decided_15 : decode cX9_decided 15 = .ok (.invokevirtual 189, 3) := by decide +kernel
theorem dX9_decided_18 : decode cX9_decided 18 = .ok (.ifCond .ne 13, 3) := by decide +kernel
theorem dX9_decided_21 : decode cX9_decided 21 = .ok (.new 164, 3) := by decide +kernel
theorem dX9_decided_24 : decode cX9_decided 24 = .ok (.dup, 1) := by decide +kernel
theorem dX9_decided_25 : decode cX9_decided 25 = .ok (.ldc 192, 2) := by decide +kernel
theorem dX9_decided_27 : decode cX9_decided 27 = .ok (.invokespecial 168, 3) := by decide +kernel
theorem dX9_decided_30 : decode cX9_decided 30 = .ok (.athrow, 1) := by decide +kernel
theorem dX9_decided_31 : decode cX9_decided 31 = .ok (.aload_n 0, 1) := by decide +kernel
theorem dX9_decided_32 : decode cX9_decided 32 = .ok (.getfield 28, 3) := by decide +kernel
theorem dX9_decided_35 : decode cX9_decided 35 = .ok (.iload_n 1, 1) := by decide +kernel
theorem dX9_decided_36 : decode cX9_decided 36 = .ok (.aaload, 1) := by decide +kernel
theorem dX9_decided_37 : decode cX9_decided 37 = .ok (.getfield 77, 3) := by decide +kernel
theorem dX9_decided_40 : decode cX9_decided 40 = .ok (.getfield 194, 3) := by decide +kernel
theorem dX9_decided_43 : decode cX9_decided 43 = .ok (.iload_n 2, 1) := by decide +kernel
theorem dX9_decided_44 : decode cX9_decided 44 = .ok (.iaload, 1) := by decide +kernel
theorem dX9_decided_45 : decode cX9_decided 45 = .ok (.ireturn, 1) := by decide +kernel
theorem dX9_about_0 : decode cX9_about 0 = .ok (.aload_n 0, 1) := by decide +kernel
theorem dX9_about_1 : decode cX9_about 1 = .ok (.iload_n 1, 1) := by decide +kernel
theorem dX9_about_2 : decode cX9_about 2 = .ok (.invokevirtual 158, 3) := by decide +kernel
theorem dX9_about_5 : decode cX9_about 5 = .ok (.aload_n 0, 1) := by decide +kernel
theorem dX9_about_6 : decode cX9_about 6 = .ok (.iload_n 1, 1) := by decide +kernel
theorem dX9_about_7 : decode cX9_about 7 = .ok (.invokevirtual 198, 3) := by decide +kernel
theorem dX9_about_10 : decode cX9_about 10 = .ok (.astore_n 3, 1) := by decide +kernel
theorem dX9_about_11 : decode cX9_about 11 = .ok (.iload_n 2, 1) := by decide +kernel
theorem dX9_about_12 : decode cX9_about 12 = .ok (.tableswitch 178 0 8 #[52, 68, 84, 100, 110, 123, 136, 152, 168], 52) := by decide +kernel
theorem dX9_about_64 : decode cX9_about 64 = .ok (.aload_n 3, 1) := by decide +kernel
theorem dX9_about_65 : decode cX9_about 65 = .ok (.ifnonnull 7, 3) := by decide +kernel
theorem dX9_about_68 : decode cX9_about 68 = .ok (.iconst 0, 1) := by decide +kernel
theorem dX9_about_69 : decode cX9_about 69 = .ok (.goto 10, 3) := by decide +kernel
theorem dX9_about_72 : decode cX9_about 72 = .ok (.aload_n 3, 1) := by decide +kernel
theorem dX9_about_73 : decode cX9_about 73 = .ok (.getfield 77, 3) := by decide +kernel
theorem dX9_about_76 : decode cX9_about 76 = .ok (.getfield 102, 3) := by decide +kernel
theorem dX9_about_79 : decode cX9_about 79 = .ok (.ireturn, 1) := by decide +kernel
theorem dX9_about_80 : decode cX9_about 80 = .ok (.aload_n 3, 1) := by decide +kernel
theorem dX9_about_81 : decode cX9_about 81 = .ok (.ifnonnull 7, 3) := by decide +kernel
theorem dX9_about_84 : decode cX9_about 84 = .ok (.iconst 0, 1) := by decide +kernel
theorem dX9_about_85 : decode cX9_about 85 = .ok (.goto 10, 3) := by decide +kernel
theorem dX9_about_88 : decode cX9_about 88 = .ok (.aload_n 3, 1) := by decide +kernel
theorem dX9_about_89 : decode cX9_about 89 = .ok (.getfield 81, 3) := by decide +kernel
theorem dX9_about_92 : decode cX9_about 92 = .ok (.getfield 202, 3) := by decide +kernel
theorem dX9_about_95 : decode cX9_about 95 = .ok (.ireturn, 1) := by decide +kernel
theorem dX9_about_96 : decode cX9_about 96 = .ok (.aload_n 3, 1) := by decide +kernel
theorem dX9_about_97 : decode cX9_about 97 = .ok (.ifnonnull 7, 3) := by decide +kernel
theorem dX9_about_100 : decode cX9_about 100 = .ok (.iconst 0, 1) := by decide +kernel
theorem dX9_about_101 : decode cX9_about 101 = .ok (.goto 10, 3) := by decide +kernel
theorem dX9_about_104 : decode cX9_about 104 = .ok (.aload_n 3, 1) := by decide +kernel
theorem dX9_about_105 : decode cX9_about 105 = .ok (.getfield 81, 3) := by decide +kernel
theorem dX9_about_108 : decode cX9_about 108 = .ok (.getfield 88, 3) := by decide +kernel
theorem dX9_about_111 : decode cX9_about 111 = .ok (.ireturn, 1) := by decide +kernel
theorem dX9_about_112 : decode cX9_about 112 = .ok (.aload_n 0, 1) := by decide +kernel
theorem dX9_about_113 : decode cX9_about 113 = .ok (.getfield 21, 3) := by decide +kernel
theorem dX9_about_116 : decode cX9_about 116 = .ok (.iload_n 1, 1) := by decide +kernel
theorem dX9_about_117 : decode cX9_about 117 = .ok (.aaload, 1) := by decide +kernel
theorem dX9_about_118 : decode cX9_about 118 = .ok (.getfield 85, 3) := by decide +kernel
theorem dX9_about_121 : decode cX9_about 121 = .ok (.ireturn, 1) := by decide +kernel
theorem dX9_about_122 : decode cX9_about 122 = .ok (.aload_n 0, 1) := by decide +kernel
theorem dX9_about_123 : decode cX9_about 123 = .ok (.getfield 21, 3) := by decide +kernel
theorem dX9_about_126 : decode cX9_about 126 = .ok (.iload_n 1, 1) := by decide +kernel
theorem dX9_about_127 : decode cX9_about 127 = .ok (.aaload, 1) := by decide +kernel
theorem dX9_about_128 : decode cX9_about 128 = .ok (.getfield 205, 3) := by decide +kernel
theorem dX9_about_131 : decode cX9_about 131 = .ok (.getfield 209, 3) := by decide +kernel
theorem dX9_about_134 : decode cX9_about 134 = .ok (.ireturn, 1) := by decide +kernel
theorem dX9_about_135 : decode cX9_about 135 = .ok (.aload_n 0, 1) := by decide +kernel
theorem dX9_about_136 : decode cX9_about 136 = .ok (.getfield 21, 3) := by decide +kernel
theorem dX9_about_139 : decode cX9_about 139 = .ok (.iload_n 1, 1) := by decide +kernel
theorem dX9_about_140 : decode cX9_about 140 = .ok (.aaload, 1) := by decide +kernel
theorem dX9_about_141 : decode cX9_about 141 = .ok (.getfield 205, 3) := by decide +kernel
theorem dX9_about_144 : decode cX9_about 144 = .ok (.invokevirtual 214, 3) := by decide +kernel
theorem dX9_about_147 : decode cX9_about 147 = .ok (.ireturn, 1) := by decide +kernel
theorem dX9_about_148 : decode cX9_about 148 = .ok (.aload_n 3, 1) := by decide +kernel
theorem dX9_about_149 : decode cX9_about 149 = .ok (.ifnonnull 7, 3) := by decide +kernel
theorem dX9_about_152 : decode cX9_about 152 = .ok (.iconst 0, 1) := by decide +kernel
theorem dX9_about_153 : decode cX9_about 153 = .ok (.goto 10, 3) := by decide +kernel
theorem dX9_about_156 : decode cX9_about 156 = .ok (.aload_n 3, 1) := by decide +kernel
theorem dX9_about_157 : decode cX9_about 157 = .ok (.getfield 53, 3) := by decide +kernel
theorem dX9_about_160 : decode cX9_about 160 = .ok (.getfield 61, 3) := by decide +kernel
theorem dX9_about_163 : decode cX9_about 163 = .ok (.ireturn, 1) := by decide +kernel
theorem dX9_about_164 : decode cX9_about 164 = .ok (.aload_n 3, 1) := by decide +kernel
theorem dX9_about_165 : decode cX9_about 165 = .ok (.ifnonnull 7, 3) := by decide +kernel
theorem dX9_about_168 : decode cX9_about 168 = .ok (.iconst 0, 1) := by decide +kernel
theorem dX9_about_169 : decode cX9_about 169 = .ok (.goto 10, 3) := by decide +kernel
theorem dX9_about_172 : decode cX9_about 172 = .ok (.aload_n 3, 1) := by decide +kernel
theorem dX9_about_173 : decode cX9_about 173 = .ok (.getfield 77, 3) := by decide +kernel
theorem dX9_about_176 : decode cX9_about 176 = .ok (.getfield 218, 3) := by decide +kernel
theorem dX9_about_179 : decode cX9_about 179 = .ok (.ireturn, 1) := by decide +kernel
theorem dX9_about_180 : decode cX9_about 180 = .ok (.aload_n 0, 1) := by decide +kernel
theorem dX9_about_181 : decode cX9_about 181 = .ok (.getfield 21, 3) := by decide +kernel
theorem dX9_about_184 : decode cX9_about 184 = .ok (.iload_n 1, 1) := by decide +kernel
theorem dX9_about_185 : decode cX9_about 185 = .ok (.aaload, 1) := by decide +kernel
theorem dX9_about_186 : decode cX9_about 186 = .ok (.getfield 219, 3) := by decide +kernel
theorem dX9_about_189 : decode cX9_about 189 = .ok (.ireturn, 1) := by decide +kernel
theorem dX9_about_190 : decode cX9_about 190 = .ok (.new 164, 3) := by decide +kernel
theorem dX9_about_193 : decode cX9_about 193 = .ok (.dup, 1) := by decide +kernel
theorem dX9_about_194 : decode cX9_about 194 = .ok (.ldc 222, 2) := by decide +kernel
theorem dX9_about_196 : decode cX9_about 196 = .ok (.invokespecial 168, 3) := by decide +kernel
theorem dX9_about_199 : decode cX9_about 199 = .ok (.athrow, 1) := by decide +kernel
theorem dX9_accepted_0 : decode cX9_accepted 0 = .ok (.aload_n 0, 1) := by decide +kernel
theorem dX9_accepted_1 : decode cX9_accepted 1 = .ok (.iload_n 1, 1) := by decide +kernel
theorem dX9_accepted_2 : decode cX9_accepted 2 = .ok (.invokevirtual 158, 3) := by decide +kernel
theorem dX9_accepted_5 : decode cX9_accepted 5 = .ok (.iload_n 2, 1) := by decide +kernel
theorem dX9_accepted_6 : decode cX9_accepted 6 = .ok (.ifCond .lt 18, 3) := by decide +kernel
theorem dX9_accepted_9 : decode cX9_accepted 9 = .ok (.iload_n 2, 1) := by decide +kernel
theorem dX9_accepted_10 : decode cX9_accepted 10 = .ok (.bipush 100, 2) := by decide +kernel
theorem dX9_accepted_12 : decode cX9_accepted 12 = .ok (.if_icmp .ge 12, 3) := by decide +kernel
theorem dX9_accepted_15 : decode cX9_accepted 15 = .ok (.iload_n 3, 1) := by decide +kernel
theorem dX9_accepted_16 : decode cX9_accepted 16 = .ok (.ifCond .lt 8, 3) := by decide +kernel
theorem dX9_accepted_19 : decode cX9_accepted 19 = .ok (.iload_n 3, 1) := by decide +kernel
theorem dX9_accepted_20 : decode cX9_accepted 20 = .ok (.iconst 1, 1) := by decide +kernel
theorem dX9_accepted_21 : decode cX9_accepted 21 = .ok (.if_icmp .le 13, 3) := by decide +kernel
theorem dX9_accepted_24 : decode cX9_accepted 24 = .ok (.new 164, 3) := by decide +kernel
theorem dX9_accepted_27 : decode cX9_accepted 27 = .ok (.dup, 1) := by decide +kernel
theorem dX9_accepted_28 : decode cX9_accepted 28 = .ok (.ldc 224, 2) := by decide +kernel
theorem dX9_accepted_30 : decode cX9_accepted 30 = .ok (.invokespecial 168, 3) := by decide +kernel
theorem dX9_accepted_33 : decode cX9_accepted 33 = .ok (.athrow, 1) := by decide +kernel
theorem dX9_accepted_34 : decode cX9_accepted 34 = .ok (.aload_n 0, 1) := by decide +kernel
theorem dX9_accepted_35 : decode cX9_accepted 35 = .ok (.getfield 21, 3) := by decide +kernel
theorem dX9_accepted_38 : decode cX9_accepted 38 = .ok (.iload_n 1, 1) := by decide +kernel
theorem dX9_accepted_39 : decode cX9_accepted 39 = .ok (.aaload, 1) := by decide +kernel
theorem dX9_accepted_40 : decode cX9_accepted 40 = .ok (.getfield 205, 3) := by decide +kernel
theorem dX9_accepted_43 : decode cX9_accepted 43 = .ok (.astore 4, 2) := by decide +kernel
theorem dX9_accepted_45 : decode cX9_accepted 45 = .ok (.iload_n 3, 1) := by decide +kernel
theorem dX9_accepted_46 : decode cX9_accepted 46 = .ok (.ifCond .ne 13, 3) := by decide +kernel
theorem dX9_accepted_49 : decode cX9_accepted 49 = .ok (.aload 4, 2) := by decide +kernel
theorem dX9_accepted_51 : decode cX9_accepted 51 = .ok (.getfield 226, 3) := by decide +kernel
theorem dX9_accepted_54 : decode cX9_accepted 54 = .ok (.iload_n 2, 1) := by decide +kernel
theorem dX9_accepted_55 : decode cX9_accepted 55 = .ok (.iaload, 1) := by decide +kernel
theorem dX9_accepted_56 : decode cX9_accepted 56 = .ok (.goto 10, 3) := by decide +kernel
theorem dX9_accepted_59 : decode cX9_accepted 59 = .ok (.aload 4, 2) := by decide +kernel
theorem dX9_accepted_61 : decode cX9_accepted 61 = .ok (.getfield 229, 3) := by decide +kernel
theorem dX9_accepted_64 : decode cX9_accepted 64 = .ok (.iload_n 2, 1) := by decide +kernel
theorem dX9_accepted_65 : decode cX9_accepted 65 = .ok (.iaload, 1) := by decide +kernel
theorem dX9_accepted_66 : decode cX9_accepted 66 = .ok (.ireturn, 1) := by decide +kernel
theorem dX9_members_0 : decode cX9_members 0 = .ok (.aload_n 0, 1) := by decide +kernel
theorem dX9_members_1 : decode cX9_members 1 = .ok (.iload_n 1, 1) := by decide +kernel
theorem dX9_members_2 : decode cX9_members 2 = .ok (.invokevirtual 42, 3) := by decide +kernel
theorem dX9_members_5 : decode cX9_members 5 = .ok (.aload_n 0, 1) := by decide +kernel
theorem dX9_members_6 : decode cX9_members 6 = .ok (.getfield 28, 3) := by decide +kernel
theorem dX9_members_9 : decode cX9_members 9 = .ok (.iload_n 1, 1) := by decide +kernel
theorem dX9_members_10 : decode cX9_members 10 = .ok (.aaload, 1) := by decide +kernel
theorem dX9_members_11 : decode cX9_members 11 = .ok (.getfield 77, 3) := by decide +kernel
theorem dX9_members_14 : decode cX9_members 14 = .ok (.astore_n 3, 1) := by decide +kernel
theorem dX9_members_15 : decode cX9_members 15 = .ok (.iload_n 2, 1) := by decide +kernel
theorem dX9_members_16 : decode cX9_members 16 = .ok (.ifCond .lt 13, 3) := by decide +kernel
theorem dX9_members_19 : decode cX9_members 19 = .ok (.iload_n 2, 1) := by decide +kernel
theorem dX9_members_20 : decode cX9_members 20 = .ok (.aload_n 3, 1) := by decide +kernel
theorem dX9_members_21 : decode cX9_members 21 = .ok (.getfield 102, 3) := by decide +kernel
theorem dX9_members_24 : decode cX9_members 24 = .ok (.iconst 4, 1) := by decide +kernel
theorem dX9_members_25 : decode cX9_members 25 = .ok (.iadd, 1) := by decide +kernel
theorem dX9_members_26 : decode cX9_members 26 = .ok (.if_icmp .lt 13, 3) := by decide +kernel
theorem dX9_members_29 : decode cX9_members 29 = .ok (.new 164, 3) := by decide +kernel
theorem dX9_members_32 : decode cX9_members 32 = .ok (.dup, 1) := by decide +kernel
theorem dX9_members_33 : decode cX9_members 33 = .ok (.ldc 230, 2) := by decide +kernel
theorem dX9_members_35 : decode cX9_members 35 = .ok (.invokespecial 168, 3) := by decide +kernel
theorem dX9_members_38 : decode cX9_members 38 = .ok (.athrow, 1) := by decide +kernel
theorem dX9_members_39 : decode cX9_members 39 = .ok (.aload_n 3, 1) := by decide +kernel
theorem dX9_members_40 : decode cX9_members 40 = .ok (.iload_n 2, 1) := by decide +kernel
theorem dX9_members_41 : decode cX9_members 41 = .ok (.invokevirtual 116, 3) := by decide +kernel
theorem dX9_members_44 : decode cX9_members 44 = .ok (.ireturn, 1) := by decide +kernel
theorem dX9_lost_0 : decode cX9_lost 0 = .ok (.aload_n 0, 1) := by decide +kernel
theorem dX9_lost_1 : decode cX9_lost 1 = .ok (.getfield 38, 3) := by decide +kernel
theorem dX9_lost_4 : decode cX9_lost 4 = .ok (.getfield 232, 3) := by decide +kernel
theorem dX9_lost_7 : decode cX9_lost 7 = .ok (.ireturn, 1) := by decide +kernel
theorem dX9_checkNode_0 : decode cX9_checkNode 0 = .ok (.iload_n 1, 1) := by decide +kernel
theorem dX9_checkNode_1 : decode cX9_checkNode 1 = .ok (.ifCond .lt 11, 3) := by decide +kernel
theorem dX9_checkNode_4 : decode cX9_checkNode 4 = .ok (.iload_n 1, 1) := by decide +kernel
theorem dX9_checkNode_5 : decode cX9_checkNode 5 = .ok (.aload_n 0, 1) := by decide +kernel
theorem dX9_checkNode_6 : decode cX9_checkNode 6 = .ok (.getfield 13, 3) := by decide +kernel
theorem dX9_checkNode_9 : decode cX9_checkNode 9 = .ok (.if_icmp .lt 13, 3) := by decide +kernel
theorem dX9_checkNode_12 : decode cX9_checkNode 12 = .ok (.new 164, 3) := by decide +kernel
theorem dX9_checkNode_15 : decode cX9_checkNode 15 = .ok (.dup, 1) := by decide +kernel
theorem dX9_checkNode_16 : decode cX9_checkNode 16 = .ok (.ldc 235, 2) := by decide +kernel
theorem dX9_checkNode_18 : decode cX9_checkNode 18 = .ok (.invokespecial 168, 3) := by decide +kernel
theorem dX9_checkNode_21 : decode cX9_checkNode 21 = .ok (.athrow, 1) := by decide +kernel
theorem dX9_checkNode_22 : decode cX9_checkNode 22 = .ok (.return_, 1) := by decide +kernel
theorem dX9_checkMain_0 : decode cX9_checkMain 0 = .ok (.iload_n 1, 1) := by decide +kernel
theorem dX9_checkMain_1 : decode cX9_checkMain 1 = .ok (.ifCond .lt 11, 3) := by decide +kernel
theorem dX9_checkMain_4 : decode cX9_checkMain 4 = .ok (.iload_n 1, 1) := by decide +kernel
theorem dX9_checkMain_5 : decode cX9_checkMain 5 = .ok (.aload_n 0, 1) := by decide +kernel
theorem dX9_checkMain_6 : decode cX9_checkMain 6 = .ok (.getfield 9, 3) := by decide +kernel
theorem dX9_checkMain_9 : decode cX9_checkMain 9 = .ok (.if_icmp .lt 13, 3) := by decide +kernel
theorem dX9_checkMain_12 : decode cX9_checkMain 12 = .ok (.new 164, 3) := by decide +kernel
theorem dX9_checkMain_15 : decode cX9_checkMain 15 = .ok (.dup, 1) := by decide +kernel
theorem dX9_checkMain_16 : decode cX9_checkMain 16 = .ok (.ldc 237, 2) := by decide +kernel
theorem dX9_checkMain_18 : decode cX9_checkMain 18 = .ok (.invokespecial 168, 3) := by decide +kernel
theorem dX9_checkMain_21 : decode cX9_checkMain 21 = .ok (.athrow, 1) := by decide +kernel
theorem dX9_checkMain_22 : decode cX9_checkMain 22 = .ok (.return_, 1) := by decide +kernel
theorem dX9_checkMessage_0 : decode cX9_checkMessage 0 = .ok (.iload_n 1, 1) := by decide +kernel
theorem dX9_checkMessage_1 : decode cX9_checkMessage 1 = .ok (.ifCond .lt 17, 3) := by decide +kernel
theorem dX9_checkMessage_4 : decode cX9_checkMessage 4 = .ok (.iload_n 1, 1) := by decide +kernel
theorem dX9_checkMessage_5 : decode cX9_checkMessage 5 = .ok (.aload_n 0, 1) := by decide +kernel
theorem dX9_checkMessage_6 : decode cX9_checkMessage 6 = .ok (.getfield 38, 3) := by decide +kernel
theorem dX9_checkMessage_9 : decode cX9_checkMessage 9 = .ok (.getfield 126, 3) := by decide +kernel
theorem dX9_checkMessage_12 : decode cX9_checkMessage 12 = .ok (.getfield 144, 3) := by decide +kernel
theorem dX9_checkMessage_15 : decode cX9_checkMessage 15 = .ok (.if_icmp .lt 13, 3) := by decide +kernel
theorem dX9_checkMessage_18 : decode cX9_checkMessage 18 = .ok (.new 164, 3) := by decide +kernel
theorem dX9_checkMessage_21 : decode cX9_checkMessage 21 = .ok (.dup, 1) := by decide +kernel
theorem dX9_checkMessage_22 : decode cX9_checkMessage 22 = .ok (.ldc 166, 2) := by decide +kernel
theorem dX9_checkMessage_24 : decode cX9_checkMessage 24 = .ok (.invokespecial 168, 3) := by decide +kernel
theorem dX9_checkMessage_27 : decode cX9_checkMessage 27 = .ok (.athrow, 1) := by decide +kernel
theorem dX9_checkMessage_28 : decode cX9_checkMessage 28 = .ok (.return_, 1) := by decide +kernel
theorem dX9_mainOf_0 : decode cX9_mainOf 0 = .ok (.iload_n 1, 1) := by decide +kernel
theorem dX9_mainOf_1 : decode cX9_mainOf 1 = .ok (.ifCond .lt 20, 3) := by decide +kernel
theorem dX9_mainOf_4 : decode cX9_mainOf 4 = .ok (.iload_n 1, 1) := by decide +kernel
theorem dX9_mainOf_5 : decode cX9_mainOf 5 = .ok (.aload_n 0, 1) := by decide +kernel
theorem dX9_mainOf_6 : decode cX9_mainOf 6 = .ok (.getfield 9, 3) := by decide +kernel
theorem dX9_mainOf_9 : decode cX9_mainOf 9 = .ok (.if_icmp .ge 12, 3) := by decide +kernel
theorem dX9_mainOf_12 : decode cX9_mainOf 12 = .ok (.aload_n 0, 1) := by decide +kernel
theorem dX9_mainOf_13 : decode cX9_mainOf 13 = .ok (.getfield 28, 3) := by decide +kernel
theorem dX9_mainOf_16 : decode cX9_mainOf 16 = .ok (.iload_n 1, 1) := by decide +kernel
theorem dX9_mainOf_17 : decode cX9_mainOf 17 = .ok (.aaload, 1) := by decide +kernel
theorem dX9_mainOf_18 : decode cX9_mainOf 18 = .ok (.goto 4, 3) := by decide +kernel
theorem dX9_mainOf_21 : decode cX9_mainOf 21 = .ok (.aconst_null, 1) := by decide +kernel
theorem dX9_mainOf_22 : decode cX9_mainOf 22 = .ok (.areturn, 1) := by decide +kernel
theorem dX9_nextBallot_0 : decode cX9_nextBallot 0 = .ok (.iload_n 0, 1) := by decide +kernel
theorem dX9_nextBallot_1 : decode cX9_nextBallot 1 = .ok (.iload_n 0, 1) := by decide +kernel
theorem dX9_nextBallot_2 : decode cX9_nextBallot 2 = .ok (.bipush 8, 2) := by decide +kernel
theorem dX9_nextBallot_4 : decode cX9_nextBallot 4 = .ok (.irem, 1) := by decide +kernel
theorem dX9_nextBallot_5 : decode cX9_nextBallot 5 = .ok (.isub, 1) := by decide +kernel
theorem dX9_nextBallot_6 : decode cX9_nextBallot 6 = .ok (.iload_n 1, 1) := by decide +kernel
theorem dX9_nextBallot_7 : decode cX9_nextBallot 7 = .ok (.iadd, 1) := by decide +kernel
theorem dX9_nextBallot_8 : decode cX9_nextBallot 8 = .ok (.istore_n 2, 1) := by decide +kernel
theorem dX9_nextBallot_9 : decode cX9_nextBallot 9 = .ok (.iload_n 2, 1) := by decide +kernel
theorem dX9_nextBallot_10 : decode cX9_nextBallot 10 = .ok (.iload_n 0, 1) := by decide +kernel
theorem dX9_nextBallot_11 : decode cX9_nextBallot 11 = .ok (.if_icmp .le 9, 3) := by decide +kernel
theorem dX9_nextBallot_14 : decode cX9_nextBallot 14 = .ok (.iload_n 2, 1) := by decide +kernel
theorem dX9_nextBallot_15 : decode cX9_nextBallot 15 = .ok (.bipush 8, 2) := by decide +kernel
theorem dX9_nextBallot_17 : decode cX9_nextBallot 17 = .ok (.if_icmp .ge 6, 3) := by decide +kernel
theorem dX9_nextBallot_20 : decode cX9_nextBallot 20 = .ok (.iinc 2 8, 3) := by decide +kernel
theorem dX9_nextBallot_23 : decode cX9_nextBallot 23 = .ok (.iload_n 2, 1) := by decide +kernel
theorem dX9_nextBallot_24 : decode cX9_nextBallot 24 = .ok (.ireturn, 1) := by decide +kernel
theorem dX9_isQuorum_0 : decode cX9_isQuorum 0 = .ok (.iload_n 1, 1) := by decide +kernel
theorem dX9_isQuorum_1 : decode cX9_isQuorum 1 = .ok (.iload_n 2, 1) := by decide +kernel
theorem dX9_isQuorum_2 : decode cX9_isQuorum 2 = .ok (.iand, 1) := by decide +kernel
theorem dX9_isQuorum_3 : decode cX9_isQuorum 3 = .ok (.istore_n 3, 1) := by decide +kernel
theorem dX9_isQuorum_4 : decode cX9_isQuorum 4 = .ok (.iload_n 3, 1) := by decide +kernel
theorem dX9_isQuorum_5 : decode cX9_isQuorum 5 = .ok (.ifCond .ne 5, 3) := by decide +kernel
theorem dX9_isQuorum_8 : decode cX9_isQuorum 8 = .ok (.iconst 0, 1) := by decide +kernel
theorem dX9_isQuorum_9 : decode cX9_isQuorum 9 = .ok (.ireturn, 1) := by decide +kernel
theorem dX9_isQuorum_10 : decode cX9_isQuorum 10 = .ok (.iload_n 2, 1) := by decide +kernel
theorem dX9_isQuorum_11 : decode cX9_isQuorum 11 = .ok (.aload_n 0, 1) := by decide +kernel
theorem dX9_isQuorum_12 : decode cX9_isQuorum 12 = .ok (.getfield 16, 3) := by decide +kernel
theorem dX9_isQuorum_15 : decode cX9_isQuorum 15 = .ok (.ior, 1) := by decide +kernel
theorem dX9_isQuorum_16 : decode cX9_isQuorum 16 = .ok (.istore 4, 2) := by decide +kernel
theorem dX9_isQuorum_18 : decode cX9_isQuorum 18 = .ok (.iload_n 3, 1) := by decide +kernel
theorem dX9_isQuorum_19 : decode cX9_isQuorum 19 = .ok (.iload_n 2, 1) := by decide +kernel
theorem dX9_isQuorum_20 : decode cX9_isQuorum 20 = .ok (.if_icmp .eq 20, 3) := by decide +kernel
theorem dX9_isQuorum_23 : decode cX9_isQuorum 23 = .ok (.iconst 2, 1) := by decide +kernel
theorem dX9_isQuorum_24 : decode cX9_isQuorum 24 = .ok (.iload_n 1, 1) := by decide +kernel
theorem dX9_isQuorum_25 : decode cX9_isQuorum 25 = .ok (.iload 4, 2) := by decide +kernel
theorem dX9_isQuorum_27 : decode cX9_isQuorum 27 = .ok (.iand, 1) := by decide +kernel
theorem dX9_isQuorum_28 : decode cX9_isQuorum 28 = .ok (.invokestatic 239, 3) := by decide +kernel
theorem dX9_isQuorum_31 : decode cX9_isQuorum 31 = .ok (.imul, 1) := by decide +kernel
theorem dX9_isQuorum_32 : decode cX9_isQuorum 32 = .ok (.iload 4, 2) := by decide +kernel
theorem dX9_isQuorum_34 : decode cX9_isQuorum 34 = .ok (.invokestatic 239, 3) := by decide +kernel
theorem dX9_isQuorum_37 : decode cX9_isQuorum 37 = .ok (.if_icmp .le 7, 3) := by decide +kernel
theorem dX9_isQuorum_40 : decode cX9_isQuorum 40 = .ok (.iconst 1, 1) := by decide +kernel
theorem dX9_isQuorum_41 : decode cX9_isQuorum 41 = .ok (.goto 4, 3) := by decide +kernel
theorem dX9_isQuorum_44 : decode cX9_isQuorum 44 = .ok (.iconst 0, 1) := by decide +kernel
theorem dX9_isQuorum_45 : decode cX9_isQuorum 45 = .ok (.ireturn, 1) := by decide +kernel
theorem dX9_arrive_0 : decode cX9_arrive 0 = .ok (.aload_n 1, 1) := by decide +kernel
theorem dX9_arrive_1 : decode cX9_arrive 1 = .ok (.ifnonnull 5, 3) := by decide +kernel
theorem dX9_arrive_4 : decode cX9_arrive 4 = .ok (.iconst 0, 1) := by decide +kernel
theorem dX9_arrive_5 : decode cX9_arrive 5 = .ok (.ireturn, 1) := by decide +kernel
theorem dX9_arrive_6 : decode cX9_arrive 6 = .ok (.aload_n 1, 1) := by decide +kernel
theorem dX9_arrive_7 : decode cX9_arrive 7 = .ok (.getfield 177, 3) := by decide +kernel
theorem dX9_arrive_10 : decode cX9_arrive 10 = .ok (.istore_n 2, 1) := by decide +kernel
theorem dX9_arrive_11 : decode cX9_arrive 11 = .ok (.aload_n 0, 1) := by decide +kernel
theorem dX9_arrive_12 : decode cX9_arrive 12 = .ok (.getfield 21, 3) := by decide +kernel
theorem dX9_arrive_15 : decode cX9_arrive 15 = .ok (.aload_n 1, 1) := by decide +kernel
theorem dX9_arrive_16 : decode cX9_arrive 16 = .ok (.getfield 174, 3) := by decide +kernel
theorem dX9_arrive_19 : decode cX9_arrive 19 = .ok (.aaload, 1) := by decide +kernel
theorem dX9_arrive_20 : decode cX9_arrive 20 = .ok (.getfield 57, 3) := by decide +kernel
theorem dX9_arrive_23 : decode cX9_arrive 23 = .ok (.ifCond .ne 16, 3) := by decide +kernel
theorem dX9_arrive_26 : decode cX9_arrive 26 = .ok (.aload_n 0, 1) := by decide +kernel
theorem dX9_arrive_27 : decode cX9_arrive 27 = .ok (.aload_n 1, 1) := by decide +kernel
theorem dX9_arrive_28 : decode cX9_arrive 28 = .ok (.invokevirtual 244, 3) := by decide +kernel
theorem dX9_arrive_31 : decode cX9_arrive 31 = .ok (.aload_n 0, 1) := by decide +kernel
theorem dX9_arrive_32 : decode cX9_arrive 32 = .ok (.aload_n 1, 1) := by decide +kernel
theorem dX9_arrive_33 : decode cX9_arrive 33 = .ok (.getfield 174, 3) := by decide +kernel
theorem dX9_arrive_36 : decode cX9_arrive 36 = .ok (.invokevirtual 74, 3) := by decide +kernel
theorem dX9_arrive_39 : decode cX9_arrive 39 = .ok (.aload_n 0, 1) := by decide +kernel
theorem dX9_arrive_40 : decode cX9_arrive 40 = .ok (.getfield 38, 3) := by decide +kernel
theorem dX9_arrive_43 : decode cX9_arrive 43 = .ok (.aload_n 1, 1) := by decide +kernel
theorem dX9_arrive_44 : decode cX9_arrive 44 = .ok (.invokevirtual 140, 3) := by decide +kernel
theorem dX9_arrive_47 : decode cX9_arrive 47 = .ok (.iload_n 2, 1) := by decide +kernel
theorem dX9_arrive_48 : decode cX9_arrive 48 = .ok (.ireturn, 1) := by decide +kernel
theorem dX9_settle_0 : decode cX9_settle 0 = .ok (.aload_n 0, 1) := by decide +kernel
theorem dX9_settle_1 : decode cX9_settle 1 = .ok (.iload_n 1, 1) := by decide +kernel
theorem dX9_settle_2 : decode cX9_settle 2 = .ok (.invokevirtual 198, 3) := by decide +kernel
theorem dX9_settle_5 : decode cX9_settle 5 = .ok (.astore_n 2, 1) := by decide +kernel
theorem dX9_settle_6 : decode cX9_settle 6 = .ok (.aload_n 2, 1) := by decide +kernel
theorem dX9_settle_7 : decode cX9_settle 7 = .ok (.ifnonnull 4, 3) := by decide +kernel
theorem dX9_settle_10 : decode cX9_settle 10 = .ok (.return_, 1) := by decide +kernel
theorem dX9_settle_11 : decode cX9_settle 11 = .ok (.iconst 0, 1) := by decide +kernel
theorem dX9_settle_12 : decode cX9_settle 12 = .ok (.istore_n 3, 1) := by decide +kernel
theorem dX9_settle_13 : decode cX9_settle 13 = .ok (.iload_n 3, 1) := by decide +kernel
theorem dX9_settle_14 : decode cX9_settle 14 = .ok (.ldc 247, 2) := by decide +kernel
theorem dX9_settle_16 : decode cX9_settle 16 = .ok (.if_icmp .ge 55, 3) := by decide +kernel
theorem dX9_settle_19 : decode cX9_settle 19 = .ok (.aload_n 0, 1) := by decide +kernel
theorem dX9_settle_20 : decode cX9_settle 20 = .ok (.getfield 38, 3) := by decide +kernel
theorem dX9_settle_23 : decode cX9_settle 23 = .ok (.getfield 248, 3) := by decide +kernel
theorem dX9_settle_26 : decode cX9_settle 26 = .ok (.iconst 0, 1) := by decide +kernel
theorem dX9_settle_27 : decode cX9_settle 27 = .ok (.invokevirtual 130, 3) := by decide +kernel
theorem dX9_settle_30 : decode cX9_settle 30 = .ok (.astore 4, 2) := by decide +kernel
theorem dX9_settle_32 : decode cX9_settle 32 = .ok (.aload 4, 2) := by decide +kernel
theorem dX9_settle_34 : decode cX9_settle 34 = .ok (.ifnull 21, 3) := by decide +kernel
theorem dX9_settle_37 : decode cX9_settle 37 = .ok (.aload_n 0, 1) := by decide +kernel
theorem dX9_settle_38 : decode cX9_settle 38 = .ok (.aload 4, 2) := by decide +kernel
theorem dX9_settle_40 : decode cX9_settle 40 = .ok (.invokevirtual 244, 3) := by decide +kernel
theorem dX9_settle_43 : decode cX9_settle 43 = .ok (.aload_n 0, 1) := by decide +kernel
theorem dX9_settle_44 : decode cX9_settle 44 = .ok (.getfield 38, 3) := by decide +kernel
theorem dX9_settle_47 : decode cX9_settle 47 = .ok (.aload 4, 2) := by decide +kernel
theorem dX9_settle_49 : decode cX9_settle 49 = .ok (.invokevirtual 140, 3) := by decide +kernel
theorem dX9_settle_52 : decode cX9_settle 52 = .ok (.goto 13, 3) := by decide +kernel
theorem dX9_settle_55 : decode cX9_settle 55 = .ok (.aload_n 0, 1) := by decide +kernel
theorem dX9_settle_56 : decode cX9_settle 56 = .ok (.iload_n 1, 1) := by decide +kernel
theorem dX9_settle_57 : decode cX9_settle 57 = .ok (.aload_n 2, 1) := by decide +kernel
theorem dX9_settle_58 : decode cX9_settle 58 = .ok (.invokevirtual 251, 3) := by decide +kernel
theorem dX9_settle_61 : decode cX9_settle 61 = .ok (.ifCond .ne 4, 3) := by decide +kernel
theorem dX9_settle_64 : decode cX9_settle 64 = .ok (.return_, 1) := by decide +kernel
theorem dX9_settle_65 : decode cX9_settle 65 = .ok (.iinc 3 1, 3) := by decide +kernel
theorem dX9_settle_68 : decode cX9_settle 68 = .ok (.goto (-55), 3) := by decide +kernel
theorem dX9_settle_71 : decode cX9_settle 71 = .ok (.return_, 1) := by decide +kernel
theorem dX9_handle_0 : decode cX9_handle 0 = .ok (.aload_n 0, 1) := by decide +kernel
theorem dX9_handle_1 : decode cX9_handle 1 = .ok (.getfield 21, 3) := by decide +kernel
theorem dX9_handle_4 : decode cX9_handle 4 = .ok (.aload_n 1, 1) := by decide +kernel
theorem dX9_handle_5 : decode cX9_handle 5 = .ok (.getfield 174, 3) := by decide +kernel
theorem dX9_handle_8 : decode cX9_handle 8 = .ok (.aaload, 1) := by decide +kernel
theorem dX9_handle_9 : decode cX9_handle 9 = .ok (.astore_n 2, 1) := by decide +kernel
theorem dX9_handle_10 : decode cX9_handle 10 = .ok (.aload_n 0, 1) := by decide +kernel
theorem dX9_handle_11 : decode cX9_handle 11 = .ok (.aload_n 1, 1) := by decide +kernel
theorem dX9_handle_12 : decode cX9_handle 12 = .ok (.getfield 174, 3) := by decide +kernel
theorem dX9_handle_15 : decode cX9_handle 15 = .ok (.invokevirtual 198, 3) := by decide +kernel
theorem dX9_handle_18 : decode cX9_handle 18 = .ok (.astore_n 3, 1) := by decide +kernel
theorem dX9_handle_19 : decode cX9_handle 19 = .ok (.aload_n 2, 1) := by decide +kernel
theorem dX9_handle_20 : decode cX9_handle 20 = .ok (.dup, 1) := by decide +kernel
theorem dX9_handle_21 : decode cX9_handle 21 = .ok (.getfield 219, 3) := by decide +kernel
theorem dX9_handle_24 : decode cX9_handle 24 = .ok (.iconst 1, 1) := by decide +kernel
theorem dX9_handle_25 : decode cX9_handle 25 = .ok (.iadd, 1) := by decide +kernel
theorem dX9_handle_26 : decode cX9_handle 26 = .ok (.putfield 219, 3) := by decide +kernel
theorem dX9_handle_29 : decode cX9_handle 29 = .ok (.aload_n 3, 1) := by decide +kernel
theorem dX9_handle_30 : decode cX9_handle 30 = .ok (.ifnull 34, 3) := by decide +kernel
theorem dX9_handle_33 : decode cX9_handle 33 = .ok (.aload_n 3, 1) := by decide +kernel
theorem dX9_handle_34 : decode cX9_handle 34 = .ok (.getfield 81, 3) := by decide +kernel
theorem dX9_handle_37 : decode cX9_handle 37 = .ok (.getfield 202, 3) := by decide +kernel
theorem dX9_handle_40 : decode cX9_handle 40 = .ok (.ifCond .eq 24, 3) := by decide +kernel
theorem dX9_handle_43 : decode cX9_handle 43 = .ok (.aload_n 1, 1) := by decide +kernel
theorem dX9_handle_44 : decode cX9_handle 44 = .ok (.getfield 180, 3) := by decide +kernel
theorem dX9_handle_47 : decode cX9_handle 47 = .ok (.aload_n 3, 1) := by decide +kernel
theorem dX9_handle_48 : decode cX9_handle 48 = .ok (.getfield 81, 3) := by decide +kernel
theorem dX9_handle_51 : decode cX9_handle 51 = .ok (.getfield 88, 3) := by decide +kernel
theorem dX9_handle_54 : decode cX9_handle 54 = .ok (.if_icmp .le 10, 3) := by decide +kernel
theorem dX9_handle_57 : decode cX9_handle 57 = .ok (.aload_n 3, 1) := by decide +kernel
theorem dX9_handle_58 : decode cX9_handle 58 = .ok (.getfield 81, 3) := by decide +kernel
theorem dX9_handle_61 : decode cX9_handle 61 = .ok (.invokevirtual 161, 3) := by decide +kernel
theorem dX9_handle_64 : decode cX9_handle 64 = .ok (.aload_n 1, 1) := by decide +kernel
theorem dX9_handle_65 : decode cX9_handle 65 = .ok (.getfield 177, 3) := by decide +kernel
theorem dX9_handle_68 : decode cX9_handle 68 = .ok (.tableswitch 113 1 7 #[44, 54, 63, 72, 81, 90, 99], 44) := by decide +kernel
theorem dX9_handle_112 : decode cX9_handle 112 = .ok (.aload_n 0, 1) := by decide +kernel
theorem dX9_handle_113 : decode cX9_handle 113 = .ok (.aload_n 2, 1) := by decide +kernel
theorem dX9_handle_114 : decode cX9_handle 114 = .ok (.aload_n 3, 1) := by decide +kernel
theorem dX9_handle_115 : decode cX9_handle 115 = .ok (.aload_n 1, 1) := by decide +kernel
theorem dX9_handle_116 : decode cX9_handle 116 = .ok (.invokevirtual 255, 3) := by decide +kernel
theorem dX9_handle_119 : decode cX9_handle 119 = .ok (.goto 62, 3) := by decide +kernel
theorem dX9_handle_122 : decode cX9_handle 122 = .ok (.aload_n 0, 1) := by decide +kernel
theorem dX9_handle_123 : decode cX9_handle 123 = .ok (.aload_n 3, 1) := by decide +kernel
theorem dX9_handle_124 : decode cX9_handle 124 = .ok (.aload_n 1, 1) := by decide +kernel
theorem dX9_handle_125 : decode cX9_handle 125 = .ok (.invokevirtual 259, 3) := by decide +kernel
theorem dX9_handle_128 : decode cX9_handle 128 = .ok (.goto 53, 3) := by decide +kernel
theorem dX9_handle_131 : decode cX9_handle 131 = .ok (.aload_n 0, 1) := by decide +kernel
theorem dX9_handle_132 : decode cX9_handle 132 = .ok (.aload_n 2, 1) := by decide +kernel
theorem dX9_handle_133 : decode cX9_handle 133 = .ok (.aload_n 1, 1) := by decide +kernel
theorem dX9_handle_134 : decode cX9_handle 134 = .ok (.invokevirtual 263, 3) := by decide +kernel
theorem dX9_handle_137 : decode cX9_handle 137 = .ok (.goto 44, 3) := by decide +kernel
theorem dX9_handle_140 : decode cX9_handle 140 = .ok (.aload_n 0, 1) := by decide +kernel
theorem dX9_handle_141 : decode cX9_handle 141 = .ok (.aload_n 3, 1) := by decide +kernel
theorem dX9_handle_142 : decode cX9_handle 142 = .ok (.aload_n 1, 1) := by decide +kernel
theorem dX9_handle_143 : decode cX9_handle 143 = .ok (.invokevirtual 267, 3) := by decide +kernel
theorem dX9_handle_146 : decode cX9_handle 146 = .ok (.goto 35, 3) := by decide +kernel
theorem dX9_handle_149 : decode cX9_handle 149 = .ok (.aload_n 0, 1) := by decide +kernel
theorem dX9_handle_150 : decode cX9_handle 150 = .ok (.aload_n 3, 1) := by decide +kernel
theorem dX9_handle_151 : decode cX9_handle 151 = .ok (.aload_n 1, 1) := by decide +kernel
theorem dX9_handle_152 : decode cX9_handle 152 = .ok (.invokevirtual 270, 3) := by decide +kernel
theorem dX9_handle_155 : decode cX9_handle 155 = .ok (.goto 26, 3) := by decide +kernel
theorem dX9_handle_158 : decode cX9_handle 158 = .ok (.aload_n 0, 1) := by decide +kernel
theorem dX9_handle_159 : decode cX9_handle 159 = .ok (.aload_n 3, 1) := by decide +kernel
theorem dX9_handle_160 : decode cX9_handle 160 = .ok (.aload_n 1, 1) := by decide +kernel
theorem dX9_handle_161 : decode cX9_handle 161 = .ok (.invokevirtual 273, 3) := by decide +kernel
theorem dX9_handle_164 : decode cX9_handle 164 = .ok (.goto 17, 3) := by decide +kernel
theorem dX9_handle_167 : decode cX9_handle 167 = .ok (.aload_n 2, 1) := by decide +kernel
theorem dX9_handle_168 : decode cX9_handle 168 = .ok (.getfield 205, 3) := by decide +kernel
theorem dX9_handle_171 : decode cX9_handle 171 = .ok (.aload_n 1, 1) := by decide +kernel
theorem dX9_handle_172 : decode cX9_handle 172 = .ok (.getfield 181, 3) := by decide +kernel
theorem dX9_handle_175 : decode cX9_handle 175 = .ok (.invokevirtual 276, 3) := by decide +kernel
theorem dX9_handle_178 : decode cX9_handle 178 = .ok (.goto 3, 3) := by decide +kernel
theorem dX9_handle_181 : decode cX9_handle 181 = .ok (.return_, 1) := by decide +kernel
theorem dX9_onPrepare_0 : decode cX9_onPrepare 0 = .ok (.aload_n 3, 1) := by decide +kernel
theorem dX9_onPrepare_1 : decode cX9_onPrepare 1 = .ok (.getfield 180, 3) := by decide +kernel
theorem dX9_onPrepare_4 : decode cX9_onPrepare 4 = .ok (.aload_n 1, 1) := by decide +kernel
theorem dX9_onPrepare_5 : decode cX9_onPrepare 5 = .ok (.getfield 85, 3) := by decide +kernel
theorem dX9_onPrepare_8 : decode cX9_onPrepare 8 = .ok (.if_icmp .ge 28, 3) := by decide +kernel
theorem dX9_onPrepare_11 : decode cX9_onPrepare 11 = .ok (.aload_n 0, 1) := by decide +kernel
theorem dX9_onPrepare_12 : decode cX9_onPrepare 12 = .ok (.getfield 38, 3) := by decide +kernel
theorem dX9_onPrepare_15 : decode cX9_onPrepare 15 = .ok (.aload_n 3, 1) := by decide +kernel
theorem dX9_onPrepare_16 : decode cX9_onPrepare 16 = .ok (.getfield 174, 3) := by decide +kernel
theorem dX9_onPrepare_19 : decode cX9_onPrepare 19 = .ok (.aload_n 3, 1) := by decide +kernel
theorem dX9_onPrepare_20 : decode cX9_onPrepare 20 = .ok (.getfield 169, 3) := by decide +kernel
theorem dX9_onPrepare_23 : decode cX9_onPrepare 23 = .ok (.bipush 8, 2) := by decide +kernel
theorem dX9_onPrepare_25 : decode cX9_onPrepare 25 = .ok (.aload_n 1, 1) := by decide +kernel
theorem dX9_onPrepare_26 : decode cX9_onPrepare 26 = .ok (.getfield 85, 3) := by decide +kernel
theorem dX9_onPrepare_29 : decode cX9_onPrepare 29 = .ok (.iconst 0, 1) := by decide +kernel
theorem dX9_onPrepare_30 : decode cX9_onPrepare 30 = .ok (.iconst 0, 1) := by decide +kernel
theorem dX9_onPrepare_31 : decode cX9_onPrepare 31 = .ok (.invokevirtual 279, 3) := by decide +kernel
theorem dX9_onPrepare_34 : decode cX9_onPrepare 34 = .ok (.pop, 1) := by decide +kernel
theorem dX9_onPrepare_35 : decode cX9_onPrepare 35 = .ok (.return_, 1) := by decide +kernel
theorem dX9_onPrepare_36 : decode cX9_onPrepare 36 = .ok (.aload_n 1, 1) := by decide +kernel
theorem dX9_onPrepare_37 : decode cX9_onPrepare 37 = .ok (.aload_n 3, 1) := by decide +kernel
theorem dX9_onPrepare_38 : decode cX9_onPrepare 38 = .ok (.getfield 180, 3) := by decide +kernel
theorem dX9_onPrepare_41 : decode cX9_onPrepare 41 = .ok (.putfield 85, 3) := by decide +kernel
theorem dX9_onPrepare_44 : decode cX9_onPrepare 44 = .ok (.aload_n 2, 1) := by decide +kernel
theorem dX9_onPrepare_45 : decode cX9_onPrepare 45 = .ok (.ifnull 73, 3) := by decide +kernel
theorem dX9_onPrepare_48 : decode cX9_onPrepare 48 = .ok (.iconst 0, 1) := by decide +kernel
theorem dX9_onPrepare_49 : decode cX9_onPrepare 49 = .ok (.aload_n 3, 1) := by decide +kernel
theorem dX9_onPrepare_50 : decode cX9_onPrepare 50 = .ok (.getfield 181, 3) := by decide +kernel
theorem dX9_onPrepare_53 : decode cX9_onPrepare 53 = .ok (.invokestatic 93, 3) := by decide +kernel
theorem dX9_onPrepare_56 : decode cX9_onPrepare 56 = .ok (.istore 4, 2) := by decide +kernel
theorem dX9_onPrepare_58 : decode cX9_onPrepare 58 = .ok (.iload 4, 2) := by decide +kernel
theorem dX9_onPrepare_60 : decode cX9_onPrepare 60 = .ok (.aload_n 2, 1) := by decide +kernel
theorem dX9_onPrepare_61 : decode cX9_onPrepare 61 = .ok (.getfield 77, 3) := by decide +kernel
theorem dX9_onPrepare_64 : decode cX9_onPrepare 64 = .ok (.getfield 283, 3) := by decide +kernel
theorem dX9_onPrepare_67 : decode cX9_onPrepare 67 = .ok (.if_icmp .ge 51, 3) := by decide +kernel
theorem dX9_onPrepare_70 : decode cX9_onPrepare 70 = .ok (.aload_n 2, 1) := by decide +kernel
theorem dX9_onPrepare_71 : decode cX9_onPrepare 71 = .ok (.getfield 77, 3) := by decide +kernel
theorem dX9_onPrepare_74 : decode cX9_onPrepare 74 = .ok (.iload 4, 2) := by decide +kernel
theorem dX9_onPrepare_76 : decode cX9_onPrepare 76 = .ok (.invokevirtual 189, 3) := by decide +kernel
theorem dX9_onPrepare_79 : decode cX9_onPrepare 79 = .ok (.ifCond .eq 33, 3) := by decide +kernel
theorem dX9_onPrepare_82 : decode cX9_onPrepare 82 = .ok (.aload_n 0, 1) := by decide +kernel
theorem dX9_onPrepare_83 : decode cX9_onPrepare 83 = .ok (.getfield 38, 3) := by decide +kernel
theorem dX9_onPrepare_86 : decode cX9_onPrepare 86 = .ok (.aload_n 3, 1) := by decide +kernel
theorem dX9_onPrepare_87 : decode cX9_onPrepare 87 = .ok (.getfield 174, 3) := by decide +kernel
theorem dX9_onPrepare_90 : decode cX9_onPrepare 90 = .ok (.aload_n 3, 1) := by decide +kernel
theorem dX9_onPrepare_91 : decode cX9_onPrepare 91 = .ok (.getfield 169, 3) := by decide +kernel
theorem dX9_onPrepare_94 : decode cX9_onPrepare 94 = .ok (.iconst 5, 1) := by decide +kernel
theorem dX9_onPrepare_95 : decode cX9_onPrepare 95 = .ok (.iconst 0, 1) := by decide +kernel
theorem dX9_onPrepare_96 : decode cX9_onPrepare 96 = .ok (.iload 4, 2) := by decide +kernel
theorem dX9_onPrepare_98 : decode cX9_onPrepare 98 = .ok (.aload_n 2, 1) := by decide +kernel
theorem dX9_onPrepare_99 : decode cX9_onPrepare 99 = .ok (.getfield 77, 3) := by decide +kernel
theorem dX9_onPrepare_102 : decode cX9_onPrepare 102 = .ok (.getfield 194, 3) := by decide +kernel
theorem dX9_onPrepare_105 : decode cX9_onPrepare 105 = .ok (.iload 4, 2) := by decide +kernel
theorem dX9_onPrepare_107 : decode cX9_onPrepare 107 = .ok (.iaload, 1) := by decide +kernel
theorem dX9_onPrepare_108 : decode cX9_onPrepare 108 = .ok (.invokevirtual 279, 3) := by decide +kernel
theorem dX9_onPrepare_111 : decode cX9_onPrepare 111 = .ok (.pop, 1) := by decide +kernel
theorem dX9_onPrepare_112 : decode cX9_onPrepare 112 = .ok (.iinc 4 1, 3) := by decide +kernel
theorem dX9_onPrepare_115 : decode cX9_onPrepare 115 = .ok (.goto (-57), 3) := by decide +kernel
theorem dX9_onPrepare_118 : decode cX9_onPrepare 118 = .ok (.aload_n 0, 1) := by decide +kernel
theorem dX9_onPrepare_119 : decode cX9_onPrepare 119 = .ok (.getfield 38, 3) := by decide +kernel
theorem dX9_onPrepare_122 : decode cX9_onPrepare 122 = .ok (.aload_n 3, 1) := by decide +kernel
theorem dX9_onPrepare_123 : decode cX9_onPrepare 123 = .ok (.getfield 174, 3) := by decide +kernel
theorem dX9_onPrepare_126 : decode cX9_onPrepare 126 = .ok (.aload_n 3, 1) := by decide +kernel
theorem dX9_onPrepare_127 : decode cX9_onPrepare 127 = .ok (.getfield 169, 3) := by decide +kernel
theorem dX9_onPrepare_130 : decode cX9_onPrepare 130 = .ok (.iconst 2, 1) := by decide +kernel
theorem dX9_onPrepare_131 : decode cX9_onPrepare 131 = .ok (.aload_n 3, 1) := by decide +kernel
theorem dX9_onPrepare_132 : decode cX9_onPrepare 132 = .ok (.getfield 180, 3) := by decide +kernel
theorem dX9_onPrepare_135 : decode cX9_onPrepare 135 = .ok (.aload_n 1, 1) := by decide +kernel
theorem dX9_onPrepare_136 : decode cX9_onPrepare 136 = .ok (.getfield 205, 3) := by decide +kernel
theorem dX9_onPrepare_139 : decode cX9_onPrepare 139 = .ok (.getfield 209, 3) := by decide +kernel
theorem dX9_onPrepare_142 : decode cX9_onPrepare 142 = .ok (.iconst 0, 1) := by decide +kernel
theorem dX9_onPrepare_143 : decode cX9_onPrepare 143 = .ok (.invokevirtual 279, 3) := by decide +kernel
theorem dX9_onPrepare_146 : decode cX9_onPrepare 146 = .ok (.astore 4, 2) := by decide +kernel
theorem dX9_onPrepare_148 : decode cX9_onPrepare 148 = .ok (.aload 4, 2) := by decide +kernel
theorem dX9_onPrepare_150 : decode cX9_onPrepare 150 = .ok (.ifnonnull 4, 3) := by decide +kernel
theorem dX9_onPrepare_153 : decode cX9_onPrepare 153 = .ok (.return_, 1) := by decide +kernel
theorem dX9_onPrepare_154 : decode cX9_onPrepare 154 = .ok (.aload 4, 2) := by decide +kernel
theorem dX9_onPrepare_156 : decode cX9_onPrepare 156 = .ok (.invokevirtual 285, 3) := by decide +kernel
theorem dX9_onPrepare_159 : decode cX9_onPrepare 159 = .ok (.astore 5, 2) := by decide +kernel
theorem dX9_onPrepare_161 : decode cX9_onPrepare 161 = .ok (.aload 5, 2) := by decide +kernel
theorem dX9_onPrepare_163 : decode cX9_onPrepare 163 = .ok (.aload_n 1, 1) := by decide +kernel
theorem dX9_onPrepare_164 : decode cX9_onPrepare 164 = .ok (.getfield 205, 3) := by decide +kernel
theorem dX9_onPrepare_167 : decode cX9_onPrepare 167 = .ok (.invokevirtual 289, 3) := by decide +kernel
theorem dX9_onPrepare_170 : decode cX9_onPrepare 170 = .ok (.aload_n 2, 1) := by decide +kernel
theorem dX9_onPrepare_171 : decode cX9_onPrepare 171 = .ok (.ifnull 12, 3) := by decide +kernel
theorem dX9_onPrepare_174 : decode cX9_onPrepare 174 = .ok (.aload_n 2, 1) := by decide +kernel
theorem dX9_onPrepare_175 : decode cX9_onPrepare 175 = .ok (.getfield 77, 3) := by decide +kernel
theorem dX9_onPrepare_178 : decode cX9_onPrepare 178 = .ok (.aload 5, 2) := by decide +kernel
theorem dX9_onPrepare_180 : decode cX9_onPrepare 180 = .ok (.invokevirtual 293, 3) := by decide +kernel
theorem dX9_onPrepare_183 : decode cX9_onPrepare 183 = .ok (.return_, 1) := by decide +kernel
theorem dX9_onPromise_0 : decode cX9_onPromise 0 = .ok (.aload_n 1, 1) := by decide +kernel
theorem dX9_onPromise_1 : decode cX9_onPromise 1 = .ok (.ifnull 27, 3) := by decide +kernel
theorem dX9_onPromise_4 : decode cX9_onPromise 4 = .ok (.aload_n 1, 1) := by decide +kernel
theorem dX9_onPromise_5 : decode cX9_onPromise 5 = .ok (.getfield 81, 3) := by decide +kernel
theorem dX9_onPromise_8 : decode cX9_onPromise 8 = .ok (.getfield 202, 3) := by decide +kernel
theorem dX9_onPromise_11 : decode cX9_onPromise 11 = .ok (.ifCond .eq 17, 3) := by decide +kernel
theorem dX9_onPromise_14 : decode cX9_onPromise 14 = .ok (.aload_n 1, 1) := by decide +kernel
theorem dX9_onPromise_15 : decode cX9_onPromise 15 = .ok (.getfield 81, 3) := by decide +kernel
theorem dX9_onPromise_18 : decode cX9_onPromise 18 = .ok (.getfield 88, 3) := by decide +kernel
theorem dX9_onPromise_21 : decode cX9_onPromise 21 = .ok (.aload_n 2, 1) := by decide +kernel
theorem dX9_onPromise_22 : decode cX9_onPromise 22 = .ok (.getfield 180, 3) := by decide +kernel
theorem dX9_onPromise_25 : decode cX9_onPromise 25 = .ok (.if_icmp .eq 4, 3) := by decide +kernel
theorem dX9_onPromise_28 : decode cX9_onPromise 28 = .ok (.return_, 1) := by decide +kernel
theorem dX9_onPromise_29 : decode cX9_onPromise 29 = .ok (.aload_n 1, 1) := by decide +kernel
theorem dX9_onPromise_30 : decode cX9_onPromise 30 = .ok (.getfield 81, 3) := by decide +kernel
theorem dX9_onPromise_33 : decode cX9_onPromise 33 = .ok (.aload_n 2, 1) := by decide +kernel
theorem dX9_onPromise_34 : decode cX9_onPromise 34 = .ok (.getfield 169, 3) := by decide +kernel
theorem dX9_onPromise_37 : decode cX9_onPromise 37 = .ok (.aload_n 2, 1) := by decide +kernel
theorem dX9_onPromise_38 : decode cX9_onPromise 38 = .ok (.invokevirtual 285, 3) := by decide +kernel
theorem dX9_onPromise_41 : decode cX9_onPromise 41 = .ok (.invokevirtual 296, 3) := by decide +kernel
theorem dX9_onPromise_44 : decode cX9_onPromise 44 = .ok (.aload_n 1, 1) := by decide +kernel
theorem dX9_onPromise_45 : decode cX9_onPromise 45 = .ok (.getfield 77, 3) := by decide +kernel
theorem dX9_onPromise_48 : decode cX9_onPromise 48 = .ok (.getfield 102, 3) := by decide +kernel
theorem dX9_onPromise_51 : decode cX9_onPromise 51 = .ok (.istore_n 3, 1) := by decide +kernel
theorem dX9_onPromise_52 : decode cX9_onPromise 52 = .ok (.aload_n 1, 1) := by decide +kernel
theorem dX9_onPromise_53 : decode cX9_onPromise 53 = .ok (.getfield 81, 3) := by decide +kernel
theorem dX9_onPromise_56 : decode cX9_onPromise 56 = .ok (.getfield 202, 3) := by decide +kernel
theorem dX9_onPromise_59 : decode cX9_onPromise 59 = .ok (.iconst 1, 1) := by decide +kernel
theorem dX9_onPromise_60 : decode cX9_onPromise 60 = .ok (.if_icmp .ne 34, 3) := by decide +kernel
theorem dX9_onPromise_63 : decode cX9_onPromise 63 = .ok (.aload_n 0, 1) := by decide +kernel
theorem dX9_onPromise_64 : decode cX9_onPromise 64 = .ok (.aload_n 1, 1) := by decide +kernel
theorem dX9_onPromise_65 : decode cX9_onPromise 65 = .ok (.getfield 81, 3) := by decide +kernel
theorem dX9_onPromise_68 : decode cX9_onPromise 68 = .ok (.iload_n 3, 1) := by decide +kernel
theorem dX9_onPromise_69 : decode cX9_onPromise 69 = .ok (.invokevirtual 300, 3) := by decide +kernel
theorem dX9_onPromise_72 : decode cX9_onPromise 72 = .ok (.aload_n 1, 1) := by decide +kernel
theorem dX9_onPromise_73 : decode cX9_onPromise 73 = .ok (.getfield 77, 3) := by decide +kernel
theorem dX9_onPromise_76 : decode cX9_onPromise 76 = .ok (.iload_n 3, 1) := by decide +kernel
theorem dX9_onPromise_77 : decode cX9_onPromise 77 = .ok (.invokevirtual 116, 3) := by decide +kernel
theorem dX9_onPromise_80 : decode cX9_onPromise 80 = .ok (.invokevirtual 303, 3) := by decide +kernel
theorem dX9_onPromise_83 : decode cX9_onPromise 83 = .ok (.ifCond .eq 11, 3) := by decide +kernel
theorem dX9_onPromise_86 : decode cX9_onPromise 86 = .ok (.aload_n 1, 1) := by decide +kernel
theorem dX9_onPromise_87 : decode cX9_onPromise 87 = .ok (.getfield 81, 3) := by decide +kernel
theorem dX9_onPromise_90 : decode cX9_onPromise 90 = .ok (.iconst 2, 1) := by decide +kernel
theorem dX9_onPromise_91 : decode cX9_onPromise 91 = .ok (.putfield 202, 3) := by decide +kernel
theorem dX9_onPromise_94 : decode cX9_onPromise 94 = .ok (.return_, 1) := by decide +kernel
theorem dX9_onAccept_0 : decode cX9_onAccept 0 = .ok (.aload_n 2, 1) := by decide +kernel
theorem dX9_onAccept_1 : decode cX9_onAccept 1 = .ok (.getfield 180, 3) := by decide +kernel
theorem dX9_onAccept_4 : decode cX9_onAccept 4 = .ok (.aload_n 1, 1) := by decide +kernel
theorem dX9_onAccept_5 : decode cX9_onAccept 5 = .ok (.getfield 85, 3) := by decide +kernel
theorem dX9_onAccept_8 : decode cX9_onAccept 8 = .ok (.if_icmp .ge 28, 3) := by decide +kernel
theorem dX9_onAccept_11 : decode cX9_onAccept 11 = .ok (.aload_n 0, 1) := by decide +kernel
theorem dX9_onAccept_12 : decode cX9_onAccept 12 = .ok (.getfield 38, 3) := by decide +kernel
theorem dX9_onAccept_15 : decode cX9_onAccept 15 = .ok (.aload_n 2, 1) := by decide +kernel
theorem dX9_onAccept_16 : decode cX9_onAccept 16 = .ok (.getfield 174, 3) := by decide +kernel
theorem dX9_onAccept_19 : decode cX9_onAccept 19 = .ok (.aload_n 2, 1) := by decide +kernel
theorem dX9_onAccept_20 : decode cX9_onAccept 20 = .ok (.getfield 169, 3) := by decide +kernel
theorem dX9_onAccept_23 : decode cX9_onAccept 23 = .ok (.bipush 8, 2) := by decide +kernel
theorem dX9_onAccept_25 : decode cX9_onAccept 25 = .ok (.aload_n 1, 1) := by decide +kernel
theorem dX9_onAccept_26 : decode cX9_onAccept 26 = .ok (.getfield 85, 3) := by decide +kernel
theorem dX9_onAccept_29 : decode cX9_onAccept 29 = .ok (.iconst 0, 1) := by decide +kernel
theorem dX9_onAccept_30 : decode cX9_onAccept 30 = .ok (.iconst 0, 1) := by decide +kernel
theorem dX9_onAccept_31 : decode cX9_onAccept 31 = .ok (.invokevirtual 279, 3) := by decide +kernel
theorem dX9_onAccept_34 : decode cX9_onAccept 34 = .ok (.pop, 1) := by decide +kernel
theorem dX9_onAccept_35 : decode cX9_onAccept 35 = .ok (.return_, 1) := by decide +kernel
theorem dX9_onAccept_36 : decode cX9_onAccept 36 = .ok (.aload_n 1, 1) := by decide +kernel
theorem dX9_onAccept_37 : decode cX9_onAccept 37 = .ok (.aload_n 2, 1) := by decide +kernel
theorem dX9_onAccept_38 : decode cX9_onAccept 38 = .ok (.getfield 180, 3) := by decide +kernel
theorem dX9_onAccept_41 : decode cX9_onAccept 41 = .ok (.putfield 85, 3) := by decide +kernel
theorem dX9_onAccept_44 : decode cX9_onAccept 44 = .ok (.aload_n 2, 1) := by decide +kernel
theorem dX9_onAccept_45 : decode cX9_onAccept 45 = .ok (.getfield 181, 3) := by decide +kernel
theorem dX9_onAccept_48 : decode cX9_onAccept 48 = .ok (.aload_n 1, 1) := by decide +kernel
theorem dX9_onAccept_49 : decode cX9_onAccept 49 = .ok (.getfield 205, 3) := by decide +kernel
theorem dX9_onAccept_52 : decode cX9_onAccept 52 = .ok (.getfield 209, 3) := by decide +kernel
theorem dX9_onAccept_55 : decode cX9_onAccept 55 = .ok (.if_icmp .lt 48, 3) := by decide +kernel
theorem dX9_onAccept_58 : decode cX9_onAccept 58 = .ok (.aload_n 1, 1) := by decide +kernel
theorem dX9_onAccept_59 : decode cX9_onAccept 59 = .ok (.getfield 205, 3) := by decide +kernel
theorem dX9_onAccept_62 : decode cX9_onAccept 62 = .ok (.aload_n 2, 1) := by decide +kernel
theorem dX9_onAccept_63 : decode cX9_onAccept 63 = .ok (.getfield 181, 3) := by decide +kernel
theorem dX9_onAccept_66 : decode cX9_onAccept 66 = .ok (.aload_n 2, 1) := by decide +kernel
theorem dX9_onAccept_67 : decode cX9_onAccept 67 = .ok (.getfield 180, 3) := by decide +kernel
theorem dX9_onAccept_70 : decode cX9_onAccept 70 = .ok (.aload_n 2, 1) := by decide +kernel
theorem dX9_onAccept_71 : decode cX9_onAccept 71 = .ok (.getfield 184, 3) := by decide +kernel
theorem dX9_onAccept_74 : decode cX9_onAccept 74 = .ok (.invokevirtual 307, 3) := by decide +kernel
theorem dX9_onAccept_77 : decode cX9_onAccept 77 = .ok (.aload_n 0, 1) := by decide +kernel
theorem dX9_onAccept_78 : decode cX9_onAccept 78 = .ok (.getfield 38, 3) := by decide +kernel
theorem dX9_onAccept_81 : decode cX9_onAccept 81 = .ok (.aload_n 2, 1) := by decide +kernel
theorem dX9_onAccept_82 : decode cX9_onAccept 82 = .ok (.getfield 174, 3) := by decide +kernel
theorem dX9_onAccept_85 : decode cX9_onAccept 85 = .ok (.aload_n 2, 1) := by decide +kernel
theorem dX9_onAccept_86 : decode cX9_onAccept 86 = .ok (.getfield 169, 3) := by decide +kernel
theorem dX9_onAccept_89 : decode cX9_onAccept 89 = .ok (.iconst 4, 1) := by decide +kernel
theorem dX9_onAccept_90 : decode cX9_onAccept 90 = .ok (.aload_n 2, 1) := by decide +kernel
theorem dX9_onAccept_91 : decode cX9_onAccept 91 = .ok (.getfield 180, 3) := by decide +kernel
theorem dX9_onAccept_94 : decode cX9_onAccept 94 = .ok (.aload_n 2, 1) := by decide +kernel
theorem dX9_onAccept_95 : decode cX9_onAccept 95 = .ok (.getfield 181, 3) := by decide +kernel
theorem dX9_onAccept_98 : decode cX9_onAccept 98 = .ok (.iconst 0, 1) := by decide +kernel
theorem dX9_onAccept_99 : decode cX9_onAccept 99 = .ok (.invokevirtual 279, 3) := by decide +kernel
theorem dX9_onAccept_102 : decode cX9_onAccept 102 = .ok (.pop, 1) := by decide +kernel
theorem dX9_onAccept_103 : decode cX9_onAccept 103 = .ok (.return_, 1) := by decide +kernel
theorem dX9_onTaken_0 : decode cX9_onTaken 0 = .ok (.aload_n 1, 1) := by decide +kernel
theorem dX9_onTaken_1 : decode cX9_onTaken 1 = .ok (.ifnull 42, 3) := by decide +kernel
theorem dX9_onTaken_4 : decode cX9_onTaken 4 = .ok (.aload_n 1, 1) := by decide +kernel
theorem dX9_onTaken_5 : decode cX9_onTaken 5 = .ok (.getfield 81, 3) := by decide +kernel
theorem dX9_onTaken_8 : decode cX9_onTaken 8 = .ok (.getfield 202, 3) := by decide +kernel
theorem dX9_onTaken_11 : decode cX9_onTaken 11 = .ok (.iconst 2, 1) := by decide +kernel
theorem dX9_onTaken_12 : decode cX9_onTaken 12 = .ok (.if_icmp .ne 31, 3) := by decide +kernel
theorem dX9_onTaken_15 : decode cX9_onTaken 15 = .ok (.aload_n 1, 1) := by decide +kernel
theorem dX9_onTaken_16 : decode cX9_onTaken 16 = .ok (.getfield 81, 3) := by decide +kernel
theorem dX9_onTaken_19 : decode cX9_onTaken 19 = .ok (.getfield 88, 3) := by decide +kernel
theorem dX9_onTaken_22 : decode cX9_onTaken 22 = .ok (.aload_n 2, 1) := by decide +kernel
theorem dX9_onTaken_23 : decode cX9_onTaken 23 = .ok (.getfield 180, 3) := by decide +kernel
theorem dX9_onTaken_26 : decode cX9_onTaken 26 = .ok (.if_icmp .ne 17, 3) := by decide +kernel
theorem dX9_onTaken_29 : decode cX9_onTaken 29 = .ok (.aload_n 1, 1) := by decide +kernel
theorem dX9_onTaken_30 : decode cX9_onTaken 30 = .ok (.getfield 81, 3) := by decide +kernel
theorem dX9_onTaken_33 : decode cX9_onTaken 33 = .ok (.aload_n 2, 1) := by decide +kernel
theorem dX9_onTaken_34 : decode cX9_onTaken 34 = .ok (.getfield 181, 3) := by decide +kernel
theorem dX9_onTaken_37 : decode cX9_onTaken 37 = .ok (.invokevirtual 311, 3) := by decide +kernel
theorem dX9_onTaken_40 : decode cX9_onTaken 40 = .ok (.ifCond .ne 4, 3) := by decide +kernel
theorem dX9_onTaken_43 : decode cX9_onTaken 43 = .ok (.return_, 1) := by decide +kernel
theorem dX9_onTaken_44 : decode cX9_onTaken 44 = .ok (.aload_n 1, 1) := by decide +kernel
theorem dX9_onTaken_45 : decode cX9_onTaken 45 = .ok (.getfield 81, 3) := by decide +kernel
theorem dX9_onTaken_48 : decode cX9_onTaken 48 = .ok (.getfield 314, 3) := by decide +kernel
theorem dX9_onTaken_51 : decode cX9_onTaken 51 = .ok (.aload_n 2, 1) := by decide +kernel
theorem dX9_onTaken_52 : decode cX9_onTaken 52 = .ok (.getfield 181, 3) := by decide +kernel
theorem dX9_onTaken_55 : decode cX9_onTaken 55 = .ok (.dup2, 1) := by decide +kernel
theorem dX9_onTaken_56 : decode cX9_onTaken 56 = .ok (.iaload, 1) := by decide +kernel
theorem dX9_onTaken_57 : decode cX9_onTaken 57 = .ok (.iconst 1, 1) := by decide +kernel
theorem dX9_onTaken_58 : decode cX9_onTaken 58 = .ok (.aload_n 2, 1) := by decide +kernel
theorem dX9_onTaken_59 : decode cX9_onTaken 59 = .ok (.getfield 169, 3) := by decide +kernel
theorem dX9_onTaken_62 : decode cX9_onTaken 62 = .ok (.ishl, 1) := by decide +kernel
theorem dX9_onTaken_63 : decode cX9_onTaken 63 = .ok (.ior, 1) := by decide +kernel
theorem dX9_onTaken_64 : decode cX9_onTaken 64 = .ok (.iastore, 1) := by decide +kernel
theorem dX9_onTaken_65 : decode cX9_onTaken 65 = .ok (.aload_n 1, 1) := by decide +kernel
theorem dX9_onTaken_66 : decode cX9_onTaken 66 = .ok (.getfield 77, 3) := by decide +kernel
theorem dX9_onTaken_69 : decode cX9_onTaken 69 = .ok (.aload_n 2, 1) := by decide +kernel
theorem dX9_onTaken_70 : decode cX9_onTaken 70 = .ok (.getfield 181, 3) := by decide +kernel
theorem dX9_onTaken_73 : decode cX9_onTaken 73 = .ok (.invokevirtual 189, 3) := by decide +kernel
theorem dX9_onTaken_76 : decode cX9_onTaken 76 = .ok (.ifCond .ne 33, 3) := by decide +kernel
theorem dX9_onTaken_79 : decode cX9_onTaken 79 = .ok (.aload_n 0, 1) := by decide +kernel
theorem dX9_onTaken_80 : decode cX9_onTaken 80 = .ok (.aload_n 1, 1) := by decide +kernel
theorem dX9_onTaken_81 : decode cX9_onTaken 81 = .ok (.getfield 81, 3) := by decide +kernel
theorem dX9_onTaken_84 : decode cX9_onTaken 84 = .ok (.getfield 314, 3) := by decide +kernel
theorem dX9_onTaken_87 : decode cX9_onTaken 87 = .ok (.aload_n 2, 1) := by decide +kernel
theorem dX9_onTaken_88 : decode cX9_onTaken 88 = .ok (.getfield 181, 3) := by decide +kernel
theorem dX9_onTaken_91 : decode cX9_onTaken 91 = .ok (.iaload, 1) := by decide +kernel
theorem dX9_onTaken_92 : decode cX9_onTaken 92 = .ok (.aload_n 1, 1) := by decide +kernel
theorem dX9_onTaken_93 : decode cX9_onTaken 93 = .ok (.getfield 77, 3) := by decide +kernel
theorem dX9_onTaken_96 : decode cX9_onTaken 96 = .ok (.aload_n 2, 1) := by decide +kernel
theorem dX9_onTaken_97 : decode cX9_onTaken 97 = .ok (.getfield 181, 3) := by decide +kernel
theorem dX9_onTaken_100 : decode cX9_onTaken 100 = .ok (.invokevirtual 116, 3) := by decide +kernel
theorem dX9_onTaken_103 : decode cX9_onTaken 103 = .ok (.invokevirtual 303, 3) := by decide +kernel
theorem dX9_onTaken_106 : decode cX9_onTaken 106 = .ok (.ifCond .ne 4, 3) := by decide +kernel
theorem dX9_onTaken_109 : decode cX9_onTaken 109 = .ok (.return_, 1) := by decide +kernel
theorem dX9_onTaken_110 : decode cX9_onTaken 110 = .ok (.aload_n 1, 1) := by decide +kernel
theorem dX9_onTaken_111 : decode cX9_onTaken 111 = .ok (.getfield 81, 3) := by decide +kernel
theorem dX9_onTaken_114 : decode cX9_onTaken 114 = .ok (.getfield 317, 3) := by decide +kernel
theorem dX9_onTaken_117 : decode cX9_onTaken 117 = .ok (.aload_n 2, 1) := by decide +kernel
theorem dX9_onTaken_118 : decode cX9_onTaken 118 = .ok (.getfield 181, 3) := by decide +kernel
theorem dX9_onTaken_121 : decode cX9_onTaken 121 = .ok (.iaload, 1) := by decide +kernel
theorem dX9_onTaken_122 : decode cX9_onTaken 122 = .ok (.istore_n 3, 1) := by decide +kernel
theorem dX9_onTaken_123 : decode cX9_onTaken 123 = .ok (.aload_n 0, 1) := by decide +kernel
theorem dX9_onTaken_124 : decode cX9_onTaken 124 = .ok (.aload_n 2, 1) := by decide +kernel
theorem dX9_onTaken_125 : decode cX9_onTaken 125 = .ok (.getfield 174, 3) := by decide +kernel
theorem dX9_onTaken_128 : decode cX9_onTaken 128 = .ok (.aload_n 1, 1) := by decide +kernel
theorem dX9_onTaken_129 : decode cX9_onTaken 129 = .ok (.aload_n 2, 1) := by decide +kernel
theorem dX9_onTaken_130 : decode cX9_onTaken 130 = .ok (.getfield 181, 3) := by decide +kernel
theorem dX9_onTaken_133 : decode cX9_onTaken 133 = .ok (.iload_n 3, 1) := by decide +kernel
theorem dX9_onTaken_134 : decode cX9_onTaken 134 = .ok (.invokevirtual 318, 3) := by decide +kernel
theorem dX9_onTaken_137 : decode cX9_onTaken 137 = .ok (.iconst 0, 1) := by decide +kernel
theorem dX9_onTaken_138 : decode cX9_onTaken 138 = .ok (.istore 4, 2) := by decide +kernel
theorem dX9_onTaken_140 : decode cX9_onTaken 140 = .ok (.iload 4, 2) := by decide +kernel
theorem dX9_onTaken_142 : decode cX9_onTaken 142 = .ok (.aload_n 0, 1) := by decide +kernel
theorem dX9_onTaken_143 : decode cX9_onTaken 143 = .ok (.getfield 9, 3) := by decide +kernel
theorem dX9_onTaken_146 : decode cX9_onTaken 146 = .ok (.if_icmp .ge 39, 3) := by decide +kernel
theorem dX9_onTaken_149 : decode cX9_onTaken 149 = .ok (.iload 4, 2) := by decide +kernel
theorem dX9_onTaken_151 : decode cX9_onTaken 151 = .ok (.aload_n 2, 1) := by decide +kernel
theorem dX9_onTaken_152 : decode cX9_onTaken 152 = .ok (.getfield 174, 3) := by decide +kernel
theorem dX9_onTaken_155 : decode cX9_onTaken 155 = .ok (.if_icmp .eq 24, 3) := by decide +kernel
theorem dX9_onTaken_158 : decode cX9_onTaken 158 = .ok (.aload_n 0, 1) := by decide +kernel
theorem dX9_onTaken_159 : decode cX9_onTaken 159 = .ok (.getfield 38, 3) := by decide +kernel
theorem dX9_onTaken_162 : decode cX9_onTaken 162 = .ok (.aload_n 2, 1) := by decide +kernel
theorem dX9_onTaken_163 : decode cX9_onTaken 163 = .ok (.getfield 174, 3) := by decide +kernel
theorem dX9_onTaken_166 : decode cX9_onTaken 166 = .ok (.iload 4, 2) := by decide +kernel
theorem dX9_onTaken_168 : decode cX9_onTaken 168 = .ok (.iconst 5, 1) := by decide +kernel
theorem dX9_onTaken_169 : decode cX9_onTaken 169 = .ok (.iconst 0, 1) := by decide +kernel
theorem dX9_onTaken_170 : decode cX9_onTaken 170 = .ok (.aload_n 2, 1) := by decide +kernel
theorem dX9_onTaken_171 : decode cX9_onTaken 171 = .ok (.getfield 181, 3) := by decide +kernel
theorem dX9_onTaken_174 : decode cX9_onTaken 174 = .ok (.iload_n 3, 1) := by decide +kernel
theorem dX9_onTaken_175 : decode cX9_onTaken 175 = .ok (.invokevirtual 279, 3) := by decide +kernel
theorem dX9_onTaken_178 : decode cX9_onTaken 178 = .ok (.pop, 1) := by decide +kernel
theorem dX9_onTaken_179 : decode cX9_onTaken 179 = .ok (.iinc 4 1, 3) := by decide +kernel
theorem dX9_onTaken_182 : decode cX9_onTaken 182 = .ok (.goto (-42), 3) := by decide +kernel
theorem dX9_onTaken_185 : decode cX9_onTaken 185 = .ok (.return_, 1) := by decide +kernel
theorem dX9_onDecided_0 : decode cX9_onDecided 0 = .ok (.aload_n 1, 1) := by decide +kernel
theorem dX9_onDecided_1 : decode cX9_onDecided 1 = .ok (.ifnonnull 4, 3) := by decide +kernel
theorem dX9_onDecided_4 : decode cX9_onDecided 4 = .ok (.return_, 1) := by decide +kernel
theorem dX9_onDecided_5 : decode cX9_onDecided 5 = .ok (.aload_n 0, 1) := by decide +kernel
theorem dX9_onDecided_6 : decode cX9_onDecided 6 = .ok (.aload_n 2, 1) := by decide +kernel
theorem dX9_onDecided_7 : decode cX9_onDecided 7 = .ok (.getfield 174, 3) := by decide +kernel
theorem dX9_onDecided_10 : decode cX9_onDecided 10 = .ok (.aload_n 1, 1) := by decide +kernel
theorem dX9_onDecided_11 : decode cX9_onDecided 11 = .ok (.aload_n 2, 1) := by decide +kernel
theorem dX9_onDecided_12 : decode cX9_onDecided 12 = .ok (.getfield 181, 3) := by decide +kernel
theorem dX9_onDecided_15 : decode cX9_onDecided 15 = .ok (.aload_n 2, 1) := by decide +kernel
theorem dX9_onDecided_16 : decode cX9_onDecided 16 = .ok (.getfield 184, 3) := by decide +kernel
theorem dX9_onDecided_19 : decode cX9_onDecided 19 = .ok (.invokevirtual 318, 3) := by decide +kernel
theorem dX9_onDecided_22 : decode cX9_onDecided 22 = .ok (.aload_n 0, 1) := by decide +kernel
theorem dX9_onDecided_23 : decode cX9_onDecided 23 = .ok (.getfield 38, 3) := by decide +kernel
theorem dX9_onDecided_26 : decode cX9_onDecided 26 = .ok (.aload_n 2, 1) := by decide +kernel
theorem dX9_onDecided_27 : decode cX9_onDecided 27 = .ok (.getfield 174, 3) := by decide +kernel
theorem dX9_onDecided_30 : decode cX9_onDecided 30 = .ok (.aload_n 2, 1) := by decide +kernel
theorem dX9_onDecided_31 : decode cX9_onDecided 31 = .ok (.getfield 169, 3) := by decide +kernel
theorem dX9_onDecided_34 : decode cX9_onDecided 34 = .ok (.bipush 6, 2) := by decide +kernel
theorem dX9_onDecided_36 : decode cX9_onDecided 36 = .ok (.iconst 0, 1) := by decide +kernel
theorem dX9_onDecided_37 : decode cX9_onDecided 37 = .ok (.aload_n 1, 1) := by decide +kernel
theorem dX9_onDecided_38 : decode cX9_onDecided 38 = .ok (.getfield 77, 3) := by decide +kernel
theorem dX9_onDecided_41 : decode cX9_onDecided 41 = .ok (.getfield 102, 3) := by decide +kernel
theorem dX9_onDecided_44 : decode cX9_onDecided 44 = .ok (.iconst 0, 1) := by decide +kernel
theorem dX9_onDecided_45 : decode cX9_onDecided 45 = .ok (.invokevirtual 279, 3) := by decide +kernel
theorem dX9_onDecided_48 : decode cX9_onDecided 48 = .ok (.pop, 1) := by decide +kernel
theorem dX9_onDecided_49 : decode cX9_onDecided 49 = .ok (.return_, 1) := by decide +kernel
theorem dX9_onTold_0 : decode cX9_onTold 0 = .ok (.aload_n 1, 1) := by decide +kernel
theorem dX9_onTold_1 : decode cX9_onTold 1 = .ok (.ifnull 56, 3) := by decide +kernel
theorem dX9_onTold_4 : decode cX9_onTold 4 = .ok (.aload_n 1, 1) := by decide +kernel
theorem dX9_onTold_5 : decode cX9_onTold 5 = .ok (.getfield 81, 3) := by decide +kernel
theorem dX9_onTold_8 : decode cX9_onTold 8 = .ok (.getfield 202, 3) := by decide +kernel
theorem dX9_onTold_11 : decode cX9_onTold 11 = .ok (.iconst 2, 1) := by decide +kernel
theorem dX9_onTold_12 : decode cX9_onTold 12 = .ok (.if_icmp .ne 45, 3) := by decide +kernel
theorem dX9_onTold_15 : decode cX9_onTold 15 = .ok (.aload_n 2, 1) := by decide +kernel
theorem dX9_onTold_16 : decode cX9_onTold 16 = .ok (.getfield 169, 3) := by decide +kernel
theorem dX9_onTold_19 : decode cX9_onTold 19 = .ok (.aload_n 0, 1) := by decide +kernel
theorem dX9_onTold_20 : decode cX9_onTold 20 = .ok (.getfield 9, 3) := by decide +kernel
theorem dX9_onTold_23 : decode cX9_onTold 23 = .ok (.if_icmp .ge 34, 3) := by decide +kernel
theorem dX9_onTold_26 : decode cX9_onTold 26 = .ok (.aload_n 1, 1) := by decide +kernel
theorem dX9_onTold_27 : decode cX9_onTold 27 = .ok (.getfield 81, 3) := by decide +kernel
theorem dX9_onTold_30 : decode cX9_onTold 30 = .ok (.getfield 322, 3) := by decide +kernel
theorem dX9_onTold_33 : decode cX9_onTold 33 = .ok (.aload_n 2, 1) := by decide +kernel
theorem dX9_onTold_34 : decode cX9_onTold 34 = .ok (.getfield 169, 3) := by decide +kernel
theorem dX9_onTold_37 : decode cX9_onTold 37 = .ok (.aload_n 1, 1) := by decide +kernel
theorem dX9_onTold_38 : decode cX9_onTold 38 = .ok (.getfield 81, 3) := by decide +kernel
theorem dX9_onTold_41 : decode cX9_onTold 41 = .ok (.getfield 322, 3) := by decide +kernel
theorem dX9_onTold_44 : decode cX9_onTold 44 = .ok (.aload_n 2, 1) := by decide +kernel
theorem dX9_onTold_45 : decode cX9_onTold 45 = .ok (.getfield 169, 3) := by decide +kernel
theorem dX9_onTold_48 : decode cX9_onTold 48 = .ok (.iaload, 1) := by decide +kernel
theorem dX9_onTold_49 : decode cX9_onTold 49 = .ok (.aload_n 2, 1) := by decide +kernel
theorem dX9_onTold_50 : decode cX9_onTold 50 = .ok (.getfield 181, 3) := by decide +kernel
theorem dX9_onTold_53 : decode cX9_onTold 53 = .ok (.invokestatic 93, 3) := by decide +kernel
theorem dX9_onTold_56 : decode cX9_onTold 56 = .ok (.iastore, 1) := by decide +kernel
theorem dX9_onTold_57 : decode cX9_onTold 57 = .ok (.return_, 1) := by decide +kernel
theorem dX9_learn_0 : decode cX9_learn 0 = .ok (.aload_n 2, 1) := by decide +kernel
theorem dX9_learn_1 : decode cX9_learn 1 = .ok (.getfield 77, 3) := by decide +kernel
theorem dX9_learn_4 : decode cX9_learn 4 = .ok (.iload_n 3, 1) := by decide +kernel
theorem dX9_learn_5 : decode cX9_learn 5 = .ok (.iload 4, 2) := by decide +kernel
theorem dX9_learn_7 : decode cX9_learn 7 = .ok (.invokevirtual 325, 3) := by decide +kernel
theorem dX9_learn_10 : decode cX9_learn 10 = .ok (.aload_n 2, 1) := by decide +kernel
theorem dX9_learn_11 : decode cX9_learn 11 = .ok (.getfield 77, 3) := by decide +kernel
theorem dX9_learn_14 : decode cX9_learn 14 = .ok (.iload_n 1, 1) := by decide +kernel
theorem dX9_learn_15 : decode cX9_learn 15 = .ok (.invokevirtual 107, 3) := by decide +kernel
theorem dX9_learn_18 : decode cX9_learn 18 = .ok (.ifCond .ne 10, 3) := by decide +kernel
theorem dX9_learn_21 : decode cX9_learn 21 = .ok (.aload_n 2, 1) := by decide +kernel
theorem dX9_learn_22 : decode cX9_learn 22 = .ok (.getfield 81, 3) := by decide +kernel
theorem dX9_learn_25 : decode cX9_learn 25 = .ok (.invokevirtual 161, 3) := by decide +kernel
theorem dX9_learn_28 : decode cX9_learn 28 = .ok (.return_, 1) := by decide +kernel
theorem dX9_goOn_0 : decode cX9_goOn 0 = .ok (.iconst 0, 1) := by decide +kernel
theorem dX9_goOn_1 : decode cX9_goOn 1 = .ok (.istore_n 3, 1) := by decide +kernel
theorem dX9_goOn_2 : decode cX9_goOn 2 = .ok (.iload_n 3, 1) := by decide +kernel
theorem dX9_goOn_3 : decode cX9_goOn 3 = .ok (.bipush 100, 2) := by decide +kernel
theorem dX9_goOn_5 : decode cX9_goOn 5 = .ok (.if_icmp .ge 95, 3) := by decide +kernel
theorem dX9_goOn_8 : decode cX9_goOn 8 = .ok (.aload_n 2, 1) := by decide +kernel
theorem dX9_goOn_9 : decode cX9_goOn 9 = .ok (.getfield 81, 3) := by decide +kernel
theorem dX9_goOn_12 : decode cX9_goOn 12 = .ok (.getfield 202, 3) := by decide +kernel
theorem dX9_goOn_15 : decode cX9_goOn 15 = .ok (.iconst 2, 1) := by decide +kernel
theorem dX9_goOn_16 : decode cX9_goOn 16 = .ok (.if_icmp .ne 10, 3) := by decide +kernel
theorem dX9_goOn_19 : decode cX9_goOn 19 = .ok (.aload_n 2, 1) := by decide +kernel
theorem dX9_goOn_20 : decode cX9_goOn 20 = .ok (.invokestatic 327, 3) := by decide +kernel
theorem dX9_goOn_23 : decode cX9_goOn 23 = .ok (.goto 4, 3) := by decide +kernel
theorem dX9_goOn_26 : decode cX9_goOn 26 = .ok (.iconst (-1), 1) := by decide +kernel
theorem dX9_goOn_27 : decode cX9_goOn 27 = .ok (.istore 4, 2) := by decide +kernel
theorem dX9_goOn_29 : decode cX9_goOn 29 = .ok (.iload 4, 2) := by decide +kernel
theorem dX9_goOn_31 : decode cX9_goOn 31 = .ok (.iconst (-1), 1) := by decide +kernel
theorem dX9_goOn_32 : decode cX9_goOn 32 = .ok (.if_icmp .eq 68, 3) := by decide +kernel
theorem dX9_goOn_35 : decode cX9_goOn 35 = .ok (.aload_n 0, 1) := by decide +kernel
theorem dX9_goOn_36 : decode cX9_goOn 36 = .ok (.aload_n 2, 1) := by decide +kernel
theorem dX9_goOn_37 : decode cX9_goOn 37 = .ok (.iload 4, 2) := by decide +kernel
theorem dX9_goOn_39 : decode cX9_goOn 39 = .ok (.invokevirtual 331, 3) := by decide +kernel
theorem dX9_goOn_42 : decode cX9_goOn 42 = .ok (.ifCond .ne 6, 3) := by decide +kernel
theorem dX9_goOn_45 : decode cX9_goOn 45 = .ok (.goto 55, 3) := by decide +kernel
theorem dX9_goOn_48 : decode cX9_goOn 48 = .ok (.aload_n 2, 1) := by decide +kernel
theorem dX9_goOn_49 : decode cX9_goOn 49 = .ok (.iload 4, 2) := by decide +kernel
theorem dX9_goOn_51 : decode cX9_goOn 51 = .ok (.invokestatic 335, 3) := by decide +kernel
theorem dX9_goOn_54 : decode cX9_goOn 54 = .ok (.istore 5, 2) := by decide +kernel
theorem dX9_goOn_56 : decode cX9_goOn 56 = .ok (.iload 5, 2) := by decide +kernel
theorem dX9_goOn_58 : decode cX9_goOn 58 = .ok (.sipush (-1000), 3) := by decide +kernel
theorem dX9_goOn_61 : decode cX9_goOn 61 = .ok (.if_icmp .ne 6, 3) := by decide +kernel
theorem dX9_goOn_64 : decode cX9_goOn 64 = .ok (.goto 36, 3) := by decide +kernel
theorem dX9_goOn_67 : decode cX9_goOn 67 = .ok (.aload_n 2, 1) := by decide +kernel
theorem dX9_goOn_68 : decode cX9_goOn 68 = .ok (.getfield 81, 3) := by decide +kernel
theorem dX9_goOn_71 : decode cX9_goOn 71 = .ok (.iload 4, 2) := by decide +kernel
theorem dX9_goOn_73 : decode cX9_goOn 73 = .ok (.iload 5, 2) := by decide +kernel
theorem dX9_goOn_75 : decode cX9_goOn 75 = .ok (.invokevirtual 339, 3) := by decide +kernel
theorem dX9_goOn_78 : decode cX9_goOn 78 = .ok (.aload_n 0, 1) := by decide +kernel
theorem dX9_goOn_79 : decode cX9_goOn 79 = .ok (.iload_n 1, 1) := by decide +kernel
theorem dX9_goOn_80 : decode cX9_goOn 80 = .ok (.iload 4, 2) := by decide +kernel
theorem dX9_goOn_82 : decode cX9_goOn 82 = .ok (.aload_n 2, 1) := by decide +kernel
theorem dX9_goOn_83 : decode cX9_goOn 83 = .ok (.getfield 77, 3) := by decide +kernel
theorem dX9_goOn_86 : decode cX9_goOn 86 = .ok (.iload 4, 2) := by decide +kernel
theorem dX9_goOn_88 : decode cX9_goOn 88 = .ok (.invokevirtual 116, 3) := by decide +kernel
theorem dX9_goOn_91 : decode cX9_goOn 91 = .ok (.invokevirtual 342, 3) := by decide +kernel
theorem dX9_goOn_94 : decode cX9_goOn 94 = .ok (.iinc 3 1, 3) := by decide +kernel
theorem dX9_goOn_97 : decode cX9_goOn 97 = .ok (.goto (-95), 3) := by decide +kernel
theorem dX9_goOn_100 : decode cX9_goOn 100 = .ok (.aload_n 0, 1) := by decide +kernel
theorem dX9_goOn_101 : decode cX9_goOn 101 = .ok (.getfield 38, 3) := by decide +kernel
theorem dX9_goOn_104 : decode cX9_goOn 104 = .ok (.getfield 248, 3) := by decide +kernel
theorem dX9_goOn_107 : decode cX9_goOn 107 = .ok (.getfield 144, 3) := by decide +kernel
theorem dX9_goOn_110 : decode cX9_goOn 110 = .ok (.ifCond .le 7, 3) := by decide +kernel
theorem dX9_goOn_113 : decode cX9_goOn 113 = .ok (.iconst 1, 1) := by decide +kernel
theorem dX9_goOn_114 : decode cX9_goOn 114 = .ok (.goto 4, 3) := by decide +kernel
theorem dX9_goOn_117 : decode cX9_goOn 117 = .ok (.iconst 0, 1) := by decide +kernel
theorem dX9_goOn_118 : decode cX9_goOn 118 = .ok (.ireturn, 1) := by decide +kernel
theorem dX9_firstFree_0 : decode cX9_firstFree 0 = .ok (.aload_n 0, 1) := by decide +kernel
theorem dX9_firstFree_1 : decode cX9_firstFree 1 = .ok (.getfield 77, 3) := by decide +kernel
theorem dX9_firstFree_4 : decode cX9_firstFree 4 = .ok (.invokevirtual 345, 3) := by decide +kernel
theorem dX9_firstFree_7 : decode cX9_firstFree 7 = .ok (.istore_n 1, 1) := by decide +kernel
theorem dX9_firstFree_8 : decode cX9_firstFree 8 = .ok (.aload_n 0, 1) := by decide +kernel
theorem dX9_firstFree_9 : decode cX9_firstFree 9 = .ok (.getfield 77, 3) := by decide +kernel
theorem dX9_firstFree_12 : decode cX9_firstFree 12 = .ok (.getfield 102, 3) := by decide +kernel
theorem dX9_firstFree_15 : decode cX9_firstFree 15 = .ok (.istore_n 2, 1) := by decide +kernel
theorem dX9_firstFree_16 : decode cX9_firstFree 16 = .ok (.iload_n 2, 1) := by decide +kernel
theorem dX9_firstFree_17 : decode cX9_firstFree 17 = .ok (.iload_n 1, 1) := by decide +kernel
theorem dX9_firstFree_18 : decode cX9_firstFree 18 = .ok (.if_icmp .ge 33, 3) := by decide +kernel
theorem dX9_firstFree_21 : decode cX9_firstFree 21 = .ok (.aload_n 0, 1) := by decide +kernel
theorem dX9_firstFree_22 : decode cX9_firstFree 22 = .ok (.getfield 81, 3) := by decide +kernel
theorem dX9_firstFree_25 : decode cX9_firstFree 25 = .ok (.iload_n 2, 1) := by decide +kernel
theorem dX9_firstFree_26 : decode cX9_firstFree 26 = .ok (.invokevirtual 311, 3) := by decide +kernel
theorem dX9_firstFree_29 : decode cX9_firstFree 29 = .ok (.ifCond .ne 16, 3) := by decide +kernel
theorem dX9_firstFree_32 : decode cX9_firstFree 32 = .ok (.aload_n 0, 1) := by decide +kernel
theorem dX9_firstFree_33 : decode cX9_firstFree 33 = .ok (.getfield 77, 3) := by decide +kernel
theorem dX9_firstFree_36 : decode cX9_firstFree 36 = .ok (.iload_n 2, 1) := by decide +kernel
theorem dX9_firstFree_37 : decode cX9_firstFree 37 = .ok (.invokevirtual 189, 3) := by decide +kernel
theorem dX9_firstFree_40 : decode cX9_firstFree 40 = .ok (.ifCond .ne 5, 3) := by decide +kernel
theorem dX9_firstFree_43 : decode cX9_firstFree 43 = .ok (.iload_n 2, 1) := by decide +kernel
theorem dX9_firstFree_44 : decode cX9_firstFree 44 = .ok (.ireturn, 1) := by decide +kernel
theorem dX9_firstFree_45 : decode cX9_firstFree 45 = .ok (.iinc 2 1, 3) := by decide +kernel
theorem dX9_firstFree_48 : decode cX9_firstFree 48 = .ok (.goto (-32), 3) := by decide +kernel
theorem dX9_firstFree_51 : decode cX9_firstFree 51 = .ok (.iconst (-1), 1) := by decide +kernel
theorem dX9_firstFree_52 : decode cX9_firstFree 52 = .ok (.ireturn, 1) := by decide +kernel
theorem dX9_hasPromisesFor_0 : decode cX9_hasPromisesFor 0 = .ok (.aload_n 0, 1) := by decide +kernel
theorem dX9_hasPromisesFor_1 : decode cX9_hasPromisesFor 1 = .ok (.aload_n 1, 1) := by decide +kernel
theorem dX9_hasPromisesFor_2 : decode cX9_hasPromisesFor 2 = .ok (.getfield 81, 3) := by decide +kernel
theorem dX9_hasPromisesFor_5 : decode cX9_hasPromisesFor 5 = .ok (.iload_n 2, 1) := by decide +kernel
theorem dX9_hasPromisesFor_6 : decode cX9_hasPromisesFor 6 = .ok (.invokevirtual 300, 3) := by decide +kernel
theorem dX9_hasPromisesFor_9 : decode cX9_hasPromisesFor 9 = .ok (.aload_n 1, 1) := by decide +kernel
theorem dX9_hasPromisesFor_10 : decode cX9_hasPromisesFor 10 = .ok (.getfield 77, 3) := by decide +kernel
theorem dX9_hasPromisesFor_13 : decode cX9_hasPromisesFor 13 = .ok (.iload_n 2, 1) := by decide +kernel
theorem dX9_hasPromisesFor_14 : decode cX9_hasPromisesFor 14 = .ok (.invokevirtual 116, 3) := by decide +kernel
theorem dX9_hasPromisesFor_17 : decode cX9_hasPromisesFor 17 = .ok (.invokevirtual 303, 3) := by decide +kernel
theorem dX9_hasPromisesFor_20 : decode cX9_hasPromisesFor 20 = .ok (.ireturn, 1) := by decide +kernel
theorem dX9_commandFor_0 : decode cX9_commandFor 0 = .ok (.aload_n 0, 1) := by decide +kernel
theorem dX9_commandFor_1 : decode cX9_commandFor 1 = .ok (.getfield 81, 3) := by decide +kernel
theorem dX9_commandFor_4 : decode cX9_commandFor 4 = .ok (.iload_n 1, 1) := by decide +kernel
theorem dX9_commandFor_5 : decode cX9_commandFor 5 = .ok (.invokevirtual 300, 3) := by decide +kernel
theorem dX9_commandFor_8 : decode cX9_commandFor 8 = .ok (.istore_n 2, 1) := by decide +kernel
theorem dX9_commandFor_9 : decode cX9_commandFor 9 = .ok (.aload_n 0, 1) := by decide +kernel
theorem dX9_commandFor_10 : decode cX9_commandFor 10 = .ok (.getfield 81, 3) := by decide +kernel
theorem dX9_commandFor_13 : decode cX9_commandFor 13 = .ok (.iload_n 2, 1) := by decide +kernel
theorem dX9_commandFor_14 : decode cX9_commandFor 14 = .ok (.iload_n 1, 1) := by decide +kernel
theorem dX9_commandFor_15 : decode cX9_commandFor 15 = .ok (.invokevirtual 348, 3) := by decide +kernel
theorem dX9_commandFor_18 : decode cX9_commandFor 18 = .ok (.istore_n 3, 1) := by decide +kernel
theorem dX9_commandFor_19 : decode cX9_commandFor 19 = .ok (.iload_n 3, 1) := by decide +kernel
theorem dX9_commandFor_20 : decode cX9_commandFor 20 = .ok (.sipush (-1000), 3) := by decide +kernel
theorem dX9_commandFor_23 : decode cX9_commandFor 23 = .ok (.if_icmp .eq 5, 3) := by decide +kernel
theorem dX9_commandFor_26 : decode cX9_commandFor 26 = .ok (.iload_n 3, 1) := by decide +kernel
theorem dX9_commandFor_27 : decode cX9_commandFor 27 = .ok (.ireturn, 1) := by decide +kernel
theorem dX9_commandFor_28 : decode cX9_commandFor 28 = .ok (.aload_n 0, 1) := by decide +kernel
theorem dX9_commandFor_29 : decode cX9_commandFor 29 = .ok (.getfield 81, 3) := by decide +kernel
theorem dX9_commandFor_32 : decode cX9_commandFor 32 = .ok (.iload_n 2, 1) := by decide +kernel
theorem dX9_commandFor_33 : decode cX9_commandFor 33 = .ok (.iload_n 1, 1) := by decide +kernel
theorem dX9_commandFor_34 : decode cX9_commandFor 34 = .ok (.invokevirtual 351, 3) := by decide +kernel
theorem dX9_commandFor_37 : decode cX9_commandFor 37 = .ok (.ifCond .eq 7, 3) := by decide +kernel
theorem dX9_commandFor_40 : decode cX9_commandFor 40 = .ok (.iconst 0, 1) := by decide +kernel
theorem dX9_commandFor_41 : decode cX9_commandFor 41 = .ok (.goto 10, 3) := by decide +kernel
theorem dX9_commandFor_44 : decode cX9_commandFor 44 = .ok (.aload_n 0, 1) := by decide +kernel
theorem dX9_commandFor_45 : decode cX9_commandFor 45 = .ok (.getfield 53, 3) := by decide +kernel
theorem dX9_commandFor_48 : decode cX9_commandFor 48 = .ok (.invokevirtual 354, 3) := by decide +kernel
theorem dX9_commandFor_51 : decode cX9_commandFor 51 = .ok (.ireturn, 1) := by decide +kernel
theorem dX9_sendPrepares_0 : decode cX9_sendPrepares 0 = .ok (.aload_n 0, 1) := by decide +kernel
theorem dX9_sendPrepares_1 : decode cX9_sendPrepares 1 = .ok (.getfield 28, 3) := by decide +kernel
theorem dX9_sendPrepares_4 : decode cX9_sendPrepares 4 = .ok (.iload_n 1, 1) := by decide +kernel
theorem dX9_sendPrepares_5 : decode cX9_sendPrepares 5 = .ok (.aaload, 1) := by decide +kernel
theorem dX9_sendPrepares_6 : decode cX9_sendPrepares 6 = .ok (.astore_n 3, 1) := by decide +kernel
theorem dX9_sendPrepares_7 : decode cX9_sendPrepares 7 = .ok (.iconst 0, 1) := by decide +kernel
theorem dX9_sendPrepares_8 : decode cX9_sendPrepares 8 = .ok (.istore 4, 2) := by decide +kernel
theorem dX9_sendPrepares_10 : decode cX9_sendPrepares 10 = .ok (.iload 4, 2) := by decide +kernel
theorem dX9_sendPrepares_12 : decode cX9_sendPrepares 12 = .ok (.aload_n 0, 1) := by decide +kernel
theorem dX9_sendPrepares_13 : decode cX9_sendPrepares 13 = .ok (.getfield 13, 3) := by decide +kernel
theorem dX9_sendPrepares_16 : decode cX9_sendPrepares 16 = .ok (.if_icmp .ge 45, 3) := by decide +kernel
theorem dX9_sendPrepares_19 : decode cX9_sendPrepares 19 = .ok (.iload_n 2, 1) := by decide +kernel
theorem dX9_sendPrepares_20 : decode cX9_sendPrepares 20 = .ok (.iload 4, 2) := by decide +kernel
theorem dX9_sendPrepares_22 : decode cX9_sendPrepares 22 = .ok (.ishr, 1) := by decide +kernel
theorem dX9_sendPrepares_23 : decode cX9_sendPrepares 23 = .ok (.iconst 1, 1) := by decide +kernel
theorem dX9_sendPrepares_24 : decode cX9_sendPrepares 24 = .ok (.iand, 1) := by decide +kernel
theorem dX9_sendPrepares_25 : decode cX9_sendPrepares 25 = .ok (.ifCond .eq 30, 3) := by decide +kernel
theorem dX9_sendPrepares_28 : decode cX9_sendPrepares 28 = .ok (.aload_n 0, 1) := by decide +kernel
theorem dX9_sendPrepares_29 : decode cX9_sendPrepares 29 = .ok (.getfield 38, 3) := by decide +kernel
theorem dX9_sendPrepares_32 : decode cX9_sendPrepares 32 = .ok (.iload_n 1, 1) := by decide +kernel
theorem dX9_sendPrepares_33 : decode cX9_sendPrepares 33 = .ok (.iload 4, 2) := by decide +kernel
theorem dX9_sendPrepares_35 : decode cX9_sendPrepares 35 = .ok (.iconst 1, 1) := by decide +kernel
theorem dX9_sendPrepares_36 : decode cX9_sendPrepares 36 = .ok (.aload_n 3, 1) := by decide +kernel
theorem dX9_sendPrepares_37 : decode cX9_sendPrepares 37 = .ok (.getfield 81, 3) := by decide +kernel
theorem dX9_sendPrepares_40 : decode cX9_sendPrepares 40 = .ok (.getfield 88, 3) := by decide +kernel
theorem dX9_sendPrepares_43 : decode cX9_sendPrepares 43 = .ok (.aload_n 3, 1) := by decide +kernel
theorem dX9_sendPrepares_44 : decode cX9_sendPrepares 44 = .ok (.getfield 77, 3) := by decide +kernel
theorem dX9_sendPrepares_47 : decode cX9_sendPrepares 47 = .ok (.getfield 102, 3) := by decide +kernel
theorem dX9_sendPrepares_50 : decode cX9_sendPrepares 50 = .ok (.iconst 0, 1) := by decide +kernel
theorem dX9_sendPrepares_51 : decode cX9_sendPrepares 51 = .ok (.invokevirtual 279, 3) := by decide +kernel
theorem dX9_sendPrepares_54 : decode cX9_sendPrepares 54 = .ok (.pop, 1) := by decide +kernel
theorem dX9_sendPrepares_55 : decode cX9_sendPrepares 55 = .ok (.iinc 4 1, 3) := by decide +kernel
theorem dX9_sendPrepares_58 : decode cX9_sendPrepares 58 = .ok (.goto (-48), 3) := by decide +kernel
theorem dX9_sendPrepares_61 : decode cX9_sendPrepares 61 = .ok (.aload_n 3, 1) := by decide +kernel
theorem dX9_sendPrepares_62 : decode cX9_sendPrepares 62 = .ok (.getfield 81, 3) := by decide +kernel
theorem dX9_sendPrepares_65 : decode cX9_sendPrepares 65 = .ok (.dup, 1) := by decide +kernel
theorem dX9_sendPrepares_66 : decode cX9_sendPrepares 66 = .ok (.getfield 357, 3) := by decide +kernel
theorem dX9_sendPrepares_69 : decode cX9_sendPrepares 69 = .ok (.iload_n 2, 1) := by decide +kernel
theorem dX9_sendPrepares_70 : decode cX9_sendPrepares 70 = .ok (.ior, 1) := by decide +kernel
theorem dX9_sendPrepares_71 : decode cX9_sendPrepares 71 = .ok (.putfield 357, 3) := by decide +kernel
theorem dX9_sendPrepares_74 : decode cX9_sendPrepares 74 = .ok (.return_, 1) := by decide +kernel
theorem dX9_sendAccepts_0 : decode cX9_sendAccepts 0 = .ok (.aload_n 0, 1) := by decide +kernel
theorem dX9_sendAccepts_1 : decode cX9_sendAccepts 1 = .ok (.getfield 28, 3) := by decide +kernel
theorem dX9_sendAccepts_4 : decode cX9_sendAccepts 4 = .ok (.iload_n 1, 1) := by decide +kernel
theorem dX9_sendAccepts_5 : decode cX9_sendAccepts 5 = .ok (.aaload, 1) := by decide +kernel
theorem dX9_sendAccepts_6 : decode cX9_sendAccepts 6 = .ok (.getfield 81, 3) := by decide +kernel
theorem dX9_sendAccepts_9 : decode cX9_sendAccepts 9 = .ok (.astore 4, 2) := by decide +kernel
theorem dX9_sendAccepts_11 : decode cX9_sendAccepts 11 = .ok (.iconst 0, 1) := by decide +kernel
theorem dX9_sendAccepts_12 : decode cX9_sendAccepts 12 = .ok (.istore 5, 2) := by decide +kernel
theorem dX9_sendAccepts_14 : decode cX9_sendAccepts 14 = .ok (.iload 5, 2) := by decide +kernel
theorem dX9_sendAccepts_16 : decode cX9_sendAccepts 16 = .ok (.aload_n 0, 1) := by decide +kernel
theorem dX9_sendAccepts_17 : decode cX9_sendAccepts 17 = .ok (.getfield 13, 3) := by decide +kernel
theorem dX9_sendAccepts_20 : decode cX9_sendAccepts 20 = .ok (.if_icmp .ge 43, 3) := by decide +kernel
theorem dX9_sendAccepts_23 : decode cX9_sendAccepts 23 = .ok (.iload_n 3, 1) := by decide +kernel
theorem dX9_sendAccepts_24 : decode cX9_sendAccepts 24 = .ok (.iload 5, 2) := by decide +kernel
theorem dX9_sendAccepts_26 : decode cX9_sendAccepts 26 = .ok (.ishr, 1) := by decide +kernel
theorem dX9_sendAccepts_27 : decode cX9_sendAccepts 27 = .ok (.iconst 1, 1) := by decide +kernel
theorem dX9_sendAccepts_28 : decode cX9_sendAccepts 28 = .ok (.iand, 1) := by decide +kernel
theorem dX9_sendAccepts_29 : decode cX9_sendAccepts 29 = .ok (.ifCond .eq 28, 3) := by decide +kernel
theorem dX9_sendAccepts_32 : decode cX9_sendAccepts 32 = .ok (.aload_n 0, 1) := by decide +kernel
theorem dX9_sendAccepts_33 : decode cX9_sendAccepts 33 = .ok (.getfield 38, 3) := by decide +kernel
theorem dX9_sendAccepts_36 : decode cX9_sendAccepts 36 = .ok (.iload_n 1, 1) := by decide +kernel
theorem dX9_sendAccepts_37 : decode cX9_sendAccepts 37 = .ok (.iload 5, 2) := by decide +kernel
theorem dX9_sendAccepts_39 : decode cX9_sendAccepts 39 = .ok (.iconst 3, 1) := by decide +kernel
theorem dX9_sendAccepts_40 : decode cX9_sendAccepts 40 = .ok (.aload 4, 2) := by decide +kernel
theorem dX9_sendAccepts_42 : decode cX9_sendAccepts 42 = .ok (.getfield 88, 3) := by decide +kernel
theorem dX9_sendAccepts_45 : decode cX9_sendAccepts 45 = .ok (.iload_n 2, 1) := by decide +kernel
theorem dX9_sendAccepts_46 : decode cX9_sendAccepts 46 = .ok (.aload 4, 2) := by decide +kernel
theorem dX9_sendAccepts_48 : decode cX9_sendAccepts 48 = .ok (.getfield 317, 3) := by decide +kernel
theorem dX9_sendAccepts_51 : decode cX9_sendAccepts 51 = .ok (.iload_n 2, 1) := by decide +kernel
theorem dX9_sendAccepts_52 : decode cX9_sendAccepts 52 = .ok (.iaload, 1) := by decide +kernel
theorem dX9_sendAccepts_53 : decode cX9_sendAccepts 53 = .ok (.invokevirtual 279, 3) := by decide +kernel
theorem dX9_sendAccepts_56 : decode cX9_sendAccepts 56 = .ok (.pop, 1) := by decide +kernel
theorem dX9_sendAccepts_57 : decode cX9_sendAccepts 57 = .ok (.iinc 5 1, 3) := by decide +kernel
theorem dX9_sendAccepts_60 : decode cX9_sendAccepts 60 = .ok (.goto (-46), 3) := by decide +kernel
theorem dX9_sendAccepts_63 : decode cX9_sendAccepts 63 = .ok (.aload 4, 2) := by decide +kernel
theorem dX9_sendAccepts_65 : decode cX9_sendAccepts 65 = .ok (.dup, 1) := by decide +kernel
theorem dX9_sendAccepts_66 : decode cX9_sendAccepts 66 = .ok (.getfield 357, 3) := by decide +kernel
theorem dX9_sendAccepts_69 : decode cX9_sendAccepts 69 = .ok (.iload_n 3, 1) := by decide +kernel
theorem dX9_sendAccepts_70 : decode cX9_sendAccepts 70 = .ok (.ior, 1) := by decide +kernel
theorem dX9_sendAccepts_71 : decode cX9_sendAccepts 71 = .ok (.putfield 357, 3) := by decide +kernel
theorem dX9_sendAccepts_74 : decode cX9_sendAccepts 74 = .ok (.return_, 1) := by decide +kernel
theorem dX9_tickMain_0 : decode cX9_tickMain 0 = .ok (.aload_n 0, 1) := by decide +kernel
theorem dX9_tickMain_1 : decode cX9_tickMain 1 = .ok (.getfield 28, 3) := by decide +kernel
theorem dX9_tickMain_4 : decode cX9_tickMain 4 = .ok (.iload_n 1, 1) := by decide +kernel
theorem dX9_tickMain_5 : decode cX9_tickMain 5 = .ok (.aaload, 1) := by decide +kernel
theorem dX9_tickMain_6 : decode cX9_tickMain 6 = .ok (.astore_n 2, 1) := by decide +kernel
theorem dX9_tickMain_7 : decode cX9_tickMain 7 = .ok (.aload_n 0, 1) := by decide +kernel
theorem dX9_tickMain_8 : decode cX9_tickMain 8 = .ok (.getfield 21, 3) := by decide +kernel
theorem dX9_tickMain_11 : decode cX9_tickMain 11 = .ok (.iload_n 1, 1) := by decide +kernel
theorem dX9_tickMain_12 : decode cX9_tickMain 12 = .ok (.aaload, 1) := by decide +kernel
theorem dX9_tickMain_13 : decode cX9_tickMain 13 = .ok (.getfield 57, 3) := by decide +kernel
theorem dX9_tickMain_16 : decode cX9_tickMain 16 = .ok (.ifCond .ne 13, 3) := by decide +kernel
theorem dX9_tickMain_19 : decode cX9_tickMain 19 = .ok (.aload_n 2, 1) := by decide +kernel
theorem dX9_tickMain_20 : decode cX9_tickMain 20 = .ok (.getfield 81, 3) := by decide +kernel
theorem dX9_tickMain_23 : decode cX9_tickMain 23 = .ok (.getfield 202, 3) := by decide +kernel
theorem dX9_tickMain_26 : decode cX9_tickMain 26 = .ok (.ifCond .ne 4, 3) := by decide +kernel
theorem dX9_tickMain_29 : decode cX9_tickMain 29 = .ok (.return_, 1) := by decide +kernel
theorem dX9_tickMain_30 : decode cX9_tickMain 30 = .ok (.aload_n 0, 1) := by decide +kernel
theorem dX9_tickMain_31 : decode cX9_tickMain 31 = .ok (.iload_n 1, 1) := by decide +kernel
theorem dX9_tickMain_32 : decode cX9_tickMain 32 = .ok (.aload_n 2, 1) := by decide +kernel
theorem dX9_tickMain_33 : decode cX9_tickMain 33 = .ok (.invokevirtual 360, 3) := by decide +kernel
theorem dX9_tickMain_36 : decode cX9_tickMain 36 = .ok (.aload_n 2, 1) := by decide +kernel
theorem dX9_tickMain_37 : decode cX9_tickMain 37 = .ok (.getfield 81, 3) := by decide +kernel
theorem dX9_tickMain_40 : decode cX9_tickMain 40 = .ok (.getfield 202, 3) := by decide +kernel
theorem dX9_tickMain_43 : decode cX9_tickMain 43 = .ok (.iconst 2, 1) := by decide +kernel
theorem dX9_tickMain_44 : decode cX9_tickMain 44 = .ok (.if_icmp .ne 59, 3) := by decide +kernel
theorem dX9_tickMain_47 : decode cX9_tickMain 47 = .ok (.aload_n 2, 1) := by decide +kernel
theorem dX9_tickMain_48 : decode cX9_tickMain 48 = .ok (.getfield 77, 3) := by decide +kernel
theorem dX9_tickMain_51 : decode cX9_tickMain 51 = .ok (.invokevirtual 345, 3) := by decide +kernel
theorem dX9_tickMain_54 : decode cX9_tickMain 54 = .ok (.istore_n 3, 1) := by decide +kernel
theorem dX9_tickMain_55 : decode cX9_tickMain 55 = .ok (.aload_n 2, 1) := by decide +kernel
theorem dX9_tickMain_56 : decode cX9_tickMain 56 = .ok (.getfield 77, 3) := by decide +kernel
theorem dX9_tickMain_59 : decode cX9_tickMain 59 = .ok (.getfield 102, 3) := by decide +kernel
theorem dX9_tickMain_62 : decode cX9_tickMain 62 = .ok (.istore 4, 2) := by decide +kernel
theorem dX9_tickMain_64 : decode cX9_tickMain 64 = .ok (.iload 4, 2) := by decide +kernel
theorem dX9_tickMain_66 : decode cX9_tickMain 66 = .ok (.iload_n 3, 1) := by decide +kernel
theorem dX9_tickMain_67 : decode cX9_tickMain 67 = .ok (.if_icmp .ge 26, 3) := by decide +kernel
theorem dX9_tickMain_70 : decode cX9_tickMain 70 = .ok (.aload_n 2, 1) := by decide +kernel
theorem dX9_tickMain_71 : decode cX9_tickMain 71 = .ok (.iload 4, 2) := by decide +kernel
theorem dX9_tickMain_73 : decode cX9_tickMain 73 = .ok (.invokevirtual 364, 3) := by decide +kernel
theorem dX9_tickMain_76 : decode cX9_tickMain 76 = .ok (.ifCond .eq 11, 3) := by decide +kernel
theorem dX9_tickMain_79 : decode cX9_tickMain 79 = .ok (.aload_n 0, 1) := by decide +kernel
theorem dX9_tickMain_80 : decode cX9_tickMain 80 = .ok (.iload_n 1, 1) := by decide +kernel
theorem dX9_tickMain_81 : decode cX9_tickMain 81 = .ok (.aload_n 2, 1) := by decide +kernel
theorem dX9_tickMain_82 : decode cX9_tickMain 82 = .ok (.iload 4, 2) := by decide +kernel
theorem dX9_tickMain_84 : decode cX9_tickMain 84 = .ok (.invokevirtual 367, 3) := by decide +kernel
theorem dX9_tickMain_87 : decode cX9_tickMain 87 = .ok (.iinc 4 1, 3) := by decide +kernel
theorem dX9_tickMain_90 : decode cX9_tickMain 90 = .ok (.goto (-26), 3) := by decide +kernel
theorem dX9_tickMain_93 : decode cX9_tickMain 93 = .ok (.aload_n 2, 1) := by decide +kernel
theorem dX9_tickMain_94 : decode cX9_tickMain 94 = .ok (.invokestatic 371, 3) := by decide +kernel
theorem dX9_tickMain_97 : decode cX9_tickMain 97 = .ok (.aload_n 0, 1) := by decide +kernel
theorem dX9_tickMain_98 : decode cX9_tickMain 98 = .ok (.iload_n 1, 1) := by decide +kernel
theorem dX9_tickMain_99 : decode cX9_tickMain 99 = .ok (.aload_n 2, 1) := by decide +kernel
theorem dX9_tickMain_100 : decode cX9_tickMain 100 = .ok (.invokevirtual 375, 3) := by decide +kernel
theorem dX9_tickMain_103 : decode cX9_tickMain 103 = .ok (.aload_n 0, 1) := by decide +kernel
theorem dX9_tickMain_104 : decode cX9_tickMain 104 = .ok (.iload_n 1, 1) := by decide +kernel
theorem dX9_tickMain_105 : decode cX9_tickMain 105 = .ok (.invokevirtual 74, 3) := by decide +kernel
theorem dX9_tickMain_108 : decode cX9_tickMain 108 = .ok (.return_, 1) := by decide +kernel
theorem dX9_prepareAgain_0 : decode cX9_prepareAgain 0 = .ok (.aload_n 2, 1) := by decide +kernel
theorem dX9_prepareAgain_1 : decode cX9_prepareAgain 1 = .ok (.getfield 81, 3) := by decide +kernel
theorem dX9_prepareAgain_4 : decode cX9_prepareAgain 4 = .ok (.dup, 1) := by decide +kernel
theorem dX9_prepareAgain_5 : decode cX9_prepareAgain 5 = .ok (.getfield 378, 3) := by decide +kernel
theorem dX9_prepareAgain_8 : decode cX9_prepareAgain 8 = .ok (.iconst 1, 1) := by decide +kernel
theorem dX9_prepareAgain_9 : decode cX9_prepareAgain 9 = .ok (.iadd, 1) := by decide +kernel
theorem dX9_prepareAgain_10 : decode cX9_prepareAgain 10 = .ok (.putfield 378, 3) := by decide +kernel
theorem dX9_prepareAgain_13 : decode cX9_prepareAgain 13 = .ok (.aload_n 2, 1) := by decide +kernel
theorem dX9_prepareAgain_14 : decode cX9_prepareAgain 14 = .ok (.getfield 81, 3) := by decide +kernel
theorem dX9_prepareAgain_17 : decode cX9_prepareAgain 17 = .ok (.getfield 378, 3) := by decide +kernel
theorem dX9_prepareAgain_20 : decode cX9_prepareAgain 20 = .ok (.iconst 3, 1) := by decide +kernel
theorem dX9_prepareAgain_21 : decode cX9_prepareAgain 21 = .ok (.irem, 1) := by decide +kernel
theorem dX9_prepareAgain_22 : decode cX9_prepareAgain 22 = .ok (.ifCond .eq 4, 3) := by decide +kernel
theorem dX9_prepareAgain_25 : decode cX9_prepareAgain 25 = .ok (.return_, 1) := by decide +kernel
theorem dX9_prepareAgain_26 : decode cX9_prepareAgain 26 = .ok (.aload_n 2, 1) := by decide +kernel
theorem dX9_prepareAgain_27 : decode cX9_prepareAgain 27 = .ok (.getfield 81, 3) := by decide +kernel
theorem dX9_prepareAgain_30 : decode cX9_prepareAgain 30 = .ok (.getfield 202, 3) := by decide +kernel
theorem dX9_prepareAgain_33 : decode cX9_prepareAgain 33 = .ok (.iconst 2, 1) := by decide +kernel
theorem dX9_prepareAgain_34 : decode cX9_prepareAgain 34 = .ok (.if_icmp .ne 23, 3) := by decide +kernel
theorem dX9_prepareAgain_37 : decode cX9_prepareAgain 37 = .ok (.aload_n 2, 1) := by decide +kernel
theorem dX9_prepareAgain_38 : decode cX9_prepareAgain 38 = .ok (.invokestatic 327, 3) := by decide +kernel
theorem dX9_prepareAgain_41 : decode cX9_prepareAgain 41 = .ok (.istore_n 3, 1) := by decide +kernel
theorem dX9_prepareAgain_42 : decode cX9_prepareAgain 42 = .ok (.iload_n 3, 1) := by decide +kernel
theorem dX9_prepareAgain_43 : decode cX9_prepareAgain 43 = .ok (.iconst (-1), 1) := by decide +kernel
theorem dX9_prepareAgain_44 : decode cX9_prepareAgain 44 = .ok (.if_icmp .eq 12, 3) := by decide +kernel
theorem dX9_prepareAgain_47 : decode cX9_prepareAgain 47 = .ok (.aload_n 0, 1) := by decide +kernel
theorem dX9_prepareAgain_48 : decode cX9_prepareAgain 48 = .ok (.aload_n 2, 1) := by decide +kernel
theorem dX9_prepareAgain_49 : decode cX9_prepareAgain 49 = .ok (.iload_n 3, 1) := by decide +kernel
theorem dX9_prepareAgain_50 : decode cX9_prepareAgain 50 = .ok (.invokevirtual 331, 3) := by decide +kernel
theorem dX9_prepareAgain_53 : decode cX9_prepareAgain 53 = .ok (.ifCond .eq 4, 3) := by decide +kernel
theorem dX9_prepareAgain_56 : decode cX9_prepareAgain 56 = .ok (.return_, 1) := by decide +kernel
theorem dX9_prepareAgain_57 : decode cX9_prepareAgain 57 = .ok (.aload_n 2, 1) := by decide +kernel
theorem dX9_prepareAgain_58 : decode cX9_prepareAgain 58 = .ok (.getfield 77, 3) := by decide +kernel
theorem dX9_prepareAgain_61 : decode cX9_prepareAgain 61 = .ok (.aload_n 2, 1) := by decide +kernel
theorem dX9_prepareAgain_62 : decode cX9_prepareAgain 62 = .ok (.getfield 77, 3) := by decide +kernel
theorem dX9_prepareAgain_65 : decode cX9_prepareAgain 65 = .ok (.getfield 102, 3) := by decide +kernel
theorem dX9_prepareAgain_68 : decode cX9_prepareAgain 68 = .ok (.invokevirtual 116, 3) := by decide +kernel
theorem dX9_prepareAgain_71 : decode cX9_prepareAgain 71 = .ok (.aload_n 0, 1) := by decide +kernel
theorem dX9_prepareAgain_72 : decode cX9_prepareAgain 72 = .ok (.getfield 16, 3) := by decide +kernel
theorem dX9_prepareAgain_75 : decode cX9_prepareAgain 75 = .ok (.ior, 1) := by decide +kernel
theorem dX9_prepareAgain_76 : decode cX9_prepareAgain 76 = .ok (.istore_n 3, 1) := by decide +kernel
theorem dX9_prepareAgain_77 : decode cX9_prepareAgain 77 = .ok (.aload_n 0, 1) := by decide +kernel
theorem dX9_prepareAgain_78 : decode cX9_prepareAgain 78 = .ok (.iload_n 1, 1) := by decide +kernel
theorem dX9_prepareAgain_79 : decode cX9_prepareAgain 79 = .ok (.iload_n 3, 1) := by decide +kernel
theorem dX9_prepareAgain_80 : decode cX9_prepareAgain 80 = .ok (.aload_n 2, 1) := by decide +kernel
theorem dX9_prepareAgain_81 : decode cX9_prepareAgain 81 = .ok (.getfield 81, 3) := by decide +kernel
theorem dX9_prepareAgain_84 : decode cX9_prepareAgain 84 = .ok (.getfield 381, 3) := by decide +kernel
theorem dX9_prepareAgain_87 : decode cX9_prepareAgain 87 = .ok (.iconst (-1), 1) := by decide +kernel
theorem dX9_prepareAgain_88 : decode cX9_prepareAgain 88 = .ok (.ixor, 1) := by decide +kernel
theorem dX9_prepareAgain_89 : decode cX9_prepareAgain 89 = .ok (.iand, 1) := by decide +kernel
theorem dX9_prepareAgain_90 : decode cX9_prepareAgain 90 = .ok (.invokevirtual 120, 3) := by decide +kernel
theorem dX9_prepareAgain_93 : decode cX9_prepareAgain 93 = .ok (.return_, 1) := by decide +kernel
theorem dX9_pressSlot_0 : decode cX9_pressSlot 0 = .ok (.aload_n 2, 1) := by decide +kernel
theorem dX9_pressSlot_1 : decode cX9_pressSlot 1 = .ok (.getfield 81, 3) := by decide +kernel
theorem dX9_pressSlot_4 : decode cX9_pressSlot 4 = .ok (.getfield 382, 3) := by decide +kernel
theorem dX9_pressSlot_7 : decode cX9_pressSlot 7 = .ok (.iload_n 3, 1) := by decide +kernel
theorem dX9_pressSlot_8 : decode cX9_pressSlot 8 = .ok (.dup2, 1) := by decide +kernel
theorem dX9_pressSlot_9 : decode cX9_pressSlot 9 = .ok (.iaload, 1) := by decide +kernel
theorem dX9_pressSlot_10 : decode cX9_pressSlot 10 = .ok (.iconst 1, 1) := by decide +kernel
theorem dX9_pressSlot_11 : decode cX9_pressSlot 11 = .ok (.iadd, 1) := by decide +kernel
theorem dX9_pressSlot_12 : decode cX9_pressSlot 12 = .ok (.iastore, 1) := by decide +kernel
theorem dX9_pressSlot_13 : decode cX9_pressSlot 13 = .ok (.aload_n 2, 1) := by decide +kernel
theorem dX9_pressSlot_14 : decode cX9_pressSlot 14 = .ok (.getfield 81, 3) := by decide +kernel
theorem dX9_pressSlot_17 : decode cX9_pressSlot 17 = .ok (.getfield 382, 3) := by decide +kernel
theorem dX9_pressSlot_20 : decode cX9_pressSlot 20 = .ok (.iload_n 3, 1) := by decide +kernel
theorem dX9_pressSlot_21 : decode cX9_pressSlot 21 = .ok (.iaload, 1) := by decide +kernel
theorem dX9_pressSlot_22 : decode cX9_pressSlot 22 = .ok (.istore 4, 2) := by decide +kernel
theorem dX9_pressSlot_24 : decode cX9_pressSlot 24 = .ok (.iload 4, 2) := by decide +kernel
theorem dX9_pressSlot_26 : decode cX9_pressSlot 26 = .ok (.iconst 3, 1) := by decide +kernel
theorem dX9_pressSlot_27 : decode cX9_pressSlot 27 = .ok (.irem, 1) := by decide +kernel
theorem dX9_pressSlot_28 : decode cX9_pressSlot 28 = .ok (.ifCond .ne 38, 3) := by decide +kernel
theorem dX9_pressSlot_31 : decode cX9_pressSlot 31 = .ok (.aload_n 2, 1) := by decide +kernel
theorem dX9_pressSlot_32 : decode cX9_pressSlot 32 = .ok (.getfield 77, 3) := by decide +kernel
theorem dX9_pressSlot_35 : decode cX9_pressSlot 35 = .ok (.iload_n 3, 1) := by decide +kernel
theorem dX9_pressSlot_36 : decode cX9_pressSlot 36 = .ok (.invokevirtual 116, 3) := by decide +kernel
theorem dX9_pressSlot_39 : decode cX9_pressSlot 39 = .ok (.aload_n 0, 1) := by decide +kernel
theorem dX9_pressSlot_40 : decode cX9_pressSlot 40 = .ok (.getfield 16, 3) := by decide +kernel
theorem dX9_pressSlot_43 : decode cX9_pressSlot 43 = .ok (.ior, 1) := by decide +kernel
theorem dX9_pressSlot_44 : decode cX9_pressSlot 44 = .ok (.istore 5, 2) := by decide +kernel
theorem dX9_pressSlot_46 : decode cX9_pressSlot 46 = .ok (.aload_n 0, 1) := by decide +kernel
theorem dX9_pressSlot_47 : decode cX9_pressSlot 47 = .ok (.iload_n 1, 1) := by decide +kernel
theorem dX9_pressSlot_48 : decode cX9_pressSlot 48 = .ok (.iload_n 3, 1) := by decide +kernel
theorem dX9_pressSlot_49 : decode cX9_pressSlot 49 = .ok (.iload 5, 2) := by decide +kernel
theorem dX9_pressSlot_51 : decode cX9_pressSlot 51 = .ok (.aload_n 2, 1) := by decide +kernel
theorem dX9_pressSlot_52 : decode cX9_pressSlot 52 = .ok (.getfield 81, 3) := by decide +kernel
theorem dX9_pressSlot_55 : decode cX9_pressSlot 55 = .ok (.getfield 314, 3) := by decide +kernel
theorem dX9_pressSlot_58 : decode cX9_pressSlot 58 = .ok (.iload_n 3, 1) := by decide +kernel
theorem dX9_pressSlot_59 : decode cX9_pressSlot 59 = .ok (.iaload, 1) := by decide +kernel
theorem dX9_pressSlot_60 : decode cX9_pressSlot 60 = .ok (.iconst (-1), 1) := by decide +kernel
theorem dX9_pressSlot_61 : decode cX9_pressSlot 61 = .ok (.ixor, 1) := by decide +kernel
theorem dX9_pressSlot_62 : decode cX9_pressSlot 62 = .ok (.iand, 1) := by decide +kernel
theorem dX9_pressSlot_63 : decode cX9_pressSlot 63 = .ok (.invokevirtual 342, 3) := by decide +kernel
theorem dX9_pressSlot_66 : decode cX9_pressSlot 66 = .ok (.iload 4, 2) := by decide +kernel
theorem dX9_pressSlot_68 : decode cX9_pressSlot 68 = .ok (.iconst 4, 1) := by decide +kernel
theorem dX9_pressSlot_69 : decode cX9_pressSlot 69 = .ok (.if_icmp .ne 10, 3) := by decide +kernel
theorem dX9_pressSlot_72 : decode cX9_pressSlot 72 = .ok (.aload_n 0, 1) := by decide +kernel
theorem dX9_pressSlot_73 : decode cX9_pressSlot 73 = .ok (.iload_n 1, 1) := by decide +kernel
theorem dX9_pressSlot_74 : decode cX9_pressSlot 74 = .ok (.aload_n 2, 1) := by decide +kernel
theorem dX9_pressSlot_75 : decode cX9_pressSlot 75 = .ok (.iload_n 3, 1) := by decide +kernel
theorem dX9_pressSlot_76 : decode cX9_pressSlot 76 = .ok (.invokevirtual 385, 3) := by decide +kernel
theorem dX9_pressSlot_79 : decode cX9_pressSlot 79 = .ok (.return_, 1) := by decide +kernel
theorem dX9_takeOutSilent_0 : decode cX9_takeOutSilent 0 = .ok (.aload_n 2, 1) := by decide +kernel
theorem dX9_takeOutSilent_1 : decode cX9_takeOutSilent 1 = .ok (.getfield 77, 3) := by decide +kernel
theorem dX9_takeOutSilent_4 : decode cX9_takeOutSilent 4 = .ok (.aload_n 2, 1) := by decide +kernel
theorem dX9_takeOutSilent_5 : decode cX9_takeOutSilent 5 = .ok (.getfield 77, 3) := by decide +kernel
theorem dX9_takeOutSilent_8 : decode cX9_takeOutSilent 8 = .ok (.getfield 102, 3) := by decide +kernel
theorem dX9_takeOutSilent_11 : decode cX9_takeOutSilent 11 = .ok (.iconst 4, 1) := by decide +kernel
theorem dX9_takeOutSilent_12 : decode cX9_takeOutSilent 12 = .ok (.iadd, 1) := by decide +kernel
theorem dX9_takeOutSilent_13 : decode cX9_takeOutSilent 13 = .ok (.iconst 1, 1) := by decide +kernel
theorem dX9_takeOutSilent_14 : decode cX9_takeOutSilent 14 = .ok (.isub, 1) := by decide +kernel
theorem dX9_takeOutSilent_15 : decode cX9_takeOutSilent 15 = .ok (.invokevirtual 116, 3) := by decide +kernel
theorem dX9_takeOutSilent_18 : decode cX9_takeOutSilent 18 = .ok (.istore 4, 2) := by decide +kernel
theorem dX9_takeOutSilent_20 : decode cX9_takeOutSilent 20 = .ok (.iload 4, 2) := by decide +kernel
theorem dX9_takeOutSilent_22 : decode cX9_takeOutSilent 22 = .ok (.iload_n 1, 1) := by decide +kernel
theorem dX9_takeOutSilent_23 : decode cX9_takeOutSilent 23 = .ok (.ishr, 1) := by decide +kernel
theorem dX9_takeOutSilent_24 : decode cX9_takeOutSilent 24 = .ok (.iconst 1, 1) := by decide +kernel
theorem dX9_takeOutSilent_25 : decode cX9_takeOutSilent 25 = .ok (.iand, 1) := by decide +kernel
theorem dX9_takeOutSilent_26 : decode cX9_takeOutSilent 26 = .ok (.ifCond .ne 4, 3) := by decide +kernel
theorem dX9_takeOutSilent_29 : decode cX9_takeOutSilent 29 = .ok (.return_, 1) := by decide +kernel
theorem dX9_takeOutSilent_30 : decode cX9_takeOutSilent 30 = .ok (.aload_n 2, 1) := by decide +kernel
theorem dX9_takeOutSilent_31 : decode cX9_takeOutSilent 31 = .ok (.getfield 53, 3) := by decide +kernel
theorem dX9_takeOutSilent_34 : decode cX9_takeOutSilent 34 = .ok (.invokevirtual 388, 3) := by decide +kernel
theorem dX9_takeOutSilent_37 : decode cX9_takeOutSilent 37 = .ok (.aload_n 2, 1) := by decide +kernel
theorem dX9_takeOutSilent_38 : decode cX9_takeOutSilent 38 = .ok (.getfield 81, 3) := by decide +kernel
theorem dX9_takeOutSilent_41 : decode cX9_takeOutSilent 41 = .ok (.getfield 391, 3) := by decide +kernel
theorem dX9_takeOutSilent_44 : decode cX9_takeOutSilent 44 = .ok (.ior, 1) := by decide +kernel
theorem dX9_takeOutSilent_45 : decode cX9_takeOutSilent 45 = .ok (.aload_n 2, 1) := by decide +kernel
theorem dX9_takeOutSilent_46 : decode cX9_takeOutSilent 46 = .ok (.getfield 77, 3) := by decide +kernel
theorem dX9_takeOutSilent_49 : decode cX9_takeOutSilent 49 = .ok (.getfield 394, 3) := by decide +kernel
theorem dX9_takeOutSilent_52 : decode cX9_takeOutSilent 52 = .ok (.ior, 1) := by decide +kernel
theorem dX9_takeOutSilent_53 : decode cX9_takeOutSilent 53 = .ok (.istore 5, 2) := by decide +kernel
theorem dX9_takeOutSilent_55 : decode cX9_takeOutSilent 55 = .ok (.iload 4, 2) := by decide +kernel
theorem dX9_takeOutSilent_57 : decode cX9_takeOutSilent 57 = .ok (.iconst 1, 1) := by decide +kernel
theorem dX9_takeOutSilent_58 : decode cX9_takeOutSilent 58 = .ok (.iload_n 1, 1) := by decide +kernel
theorem dX9_takeOutSilent_59 : decode cX9_takeOutSilent 59 = .ok (.ishl, 1) := by decide +kernel
theorem dX9_takeOutSilent_60 : decode cX9_takeOutSilent 60 = .ok (.iconst (-1), 1) := by decide +kernel
theorem dX9_takeOutSilent_61 : decode cX9_takeOutSilent 61 = .ok (.ixor, 1) := by decide +kernel
theorem dX9_takeOutSilent_62 : decode cX9_takeOutSilent 62 = .ok (.iand, 1) := by decide +kernel
theorem dX9_takeOutSilent_63 : decode cX9_takeOutSilent 63 = .ok (.aload_n 2, 1) := by decide +kernel
theorem dX9_takeOutSilent_64 : decode cX9_takeOutSilent 64 = .ok (.getfield 81, 3) := by decide +kernel
theorem dX9_takeOutSilent_67 : decode cX9_takeOutSilent 67 = .ok (.getfield 314, 3) := by decide +kernel
theorem dX9_takeOutSilent_70 : decode cX9_takeOutSilent 70 = .ok (.iload_n 3, 1) := by decide +kernel
theorem dX9_takeOutSilent_71 : decode cX9_takeOutSilent 71 = .ok (.iaload, 1) := by decide +kernel
theorem dX9_takeOutSilent_72 : decode cX9_takeOutSilent 72 = .ok (.iconst (-1), 1) := by decide +kernel
theorem dX9_takeOutSilent_73 : decode cX9_takeOutSilent 73 = .ok (.ixor, 1) := by decide +kernel
theorem dX9_takeOutSilent_74 : decode cX9_takeOutSilent 74 = .ok (.iand, 1) := by decide +kernel
theorem dX9_takeOutSilent_75 : decode cX9_takeOutSilent 75 = .ok (.iload 5, 2) := by decide +kernel
theorem dX9_takeOutSilent_77 : decode cX9_takeOutSilent 77 = .ok (.iconst (-1), 1) := by decide +kernel
theorem dX9_takeOutSilent_78 : decode cX9_takeOutSilent 78 = .ok (.ixor, 1) := by decide +kernel
theorem dX9_takeOutSilent_79 : decode cX9_takeOutSilent 79 = .ok (.iand, 1) := by decide +kernel
theorem dX9_takeOutSilent_80 : decode cX9_takeOutSilent 80 = .ok (.istore 6, 2) := by decide +kernel
theorem dX9_takeOutSilent_82 : decode cX9_takeOutSilent 82 = .ok (.iconst 0, 1) := by decide +kernel
theorem dX9_takeOutSilent_83 : decode cX9_takeOutSilent 83 = .ok (.istore 7, 2) := by decide +kernel
theorem dX9_takeOutSilent_85 : decode cX9_takeOutSilent 85 = .ok (.iload 7, 2) := by decide +kernel
theorem dX9_takeOutSilent_87 : decode cX9_takeOutSilent 87 = .ok (.aload_n 0, 1) := by decide +kernel
theorem dX9_takeOutSilent_88 : decode cX9_takeOutSilent 88 = .ok (.getfield 9, 3) := by decide +kernel
theorem dX9_takeOutSilent_91 : decode cX9_takeOutSilent 91 = .ok (.if_icmp .ge 30, 3) := by decide +kernel
theorem dX9_takeOutSilent_94 : decode cX9_takeOutSilent 94 = .ok (.iload 6, 2) := by decide +kernel
theorem dX9_takeOutSilent_96 : decode cX9_takeOutSilent 96 = .ok (.iload 7, 2) := by decide +kernel
theorem dX9_takeOutSilent_98 : decode cX9_takeOutSilent 98 = .ok (.ishr, 1) := by decide +kernel
theorem dX9_takeOutSilent_99 : decode cX9_takeOutSilent 99 = .ok (.iconst 1, 1) := by decide +kernel
theorem dX9_takeOutSilent_100 : decode cX9_takeOutSilent 100 = .ok (.iand, 1) := by decide +kernel
theorem dX9_takeOutSilent_101 : decode cX9_takeOutSilent 101 = .ok (.ifCond .eq 14, 3) := by decide +kernel
theorem dX9_takeOutSilent_104 : decode cX9_takeOutSilent 104 = .ok (.aload_n 2, 1) := by decide +kernel
theorem dX9_takeOutSilent_105 : decode cX9_takeOutSilent 105 = .ok (.getfield 53, 3) := by decide +kernel
theorem dX9_takeOutSilent_108 : decode cX9_takeOutSilent 108 = .ok (.iconst (-1), 1) := by decide +kernel
theorem dX9_takeOutSilent_109 : decode cX9_takeOutSilent 109 = .ok (.iload 7, 2) := by decide +kernel
theorem dX9_takeOutSilent_111 : decode cX9_takeOutSilent 111 = .ok (.isub, 1) := by decide +kernel
theorem dX9_takeOutSilent_112 : decode cX9_takeOutSilent 112 = .ok (.invokevirtual 395, 3) := by decide +kernel
theorem dX9_takeOutSilent_115 : decode cX9_takeOutSilent 115 = .ok (.iinc 7 1, 3) := by decide +kernel
theorem dX9_takeOutSilent_118 : decode cX9_takeOutSilent 118 = .ok (.goto (-33), 3) := by decide +kernel
theorem dX9_takeOutSilent_121 : decode cX9_takeOutSilent 121 = .ok (.return_, 1) := by decide +kernel
theorem dX9_fillBehindGoing_0 : decode cX9_fillBehindGoing 0 = .ok (.aload_n 0, 1) := by decide +kernel
theorem dX9_fillBehindGoing_1 : decode cX9_fillBehindGoing 1 = .ok (.getfield 77, 3) := by decide +kernel
theorem dX9_fillBehindGoing_4 : decode cX9_fillBehindGoing 4 = .ok (.astore_n 1, 1) := by decide +kernel
theorem dX9_fillBehindGoing_5 : decode cX9_fillBehindGoing 5 = .ok (.aload_n 1, 1) := by decide +kernel
theorem dX9_fillBehindGoing_6 : decode cX9_fillBehindGoing 6 = .ok (.getfield 398, 3) := by decide +kernel
theorem dX9_fillBehindGoing_9 : decode cX9_fillBehindGoing 9 = .ok (.iconst (-1), 1) := by decide +kernel
theorem dX9_fillBehindGoing_10 : decode cX9_fillBehindGoing 10 = .ok (.if_icmp .eq 26, 3) := by decide +kernel
theorem dX9_fillBehindGoing_13 : decode cX9_fillBehindGoing 13 = .ok (.aload_n 1, 1) := by decide +kernel
theorem dX9_fillBehindGoing_14 : decode cX9_fillBehindGoing 14 = .ok (.getfield 102, 3) := by decide +kernel
theorem dX9_fillBehindGoing_17 : decode cX9_fillBehindGoing 17 = .ok (.aload_n 1, 1) := by decide +kernel
theorem dX9_fillBehindGoing_18 : decode cX9_fillBehindGoing 18 = .ok (.getfield 398, 3) := by decide +kernel
theorem dX9_fillBehindGoing_21 : decode cX9_fillBehindGoing 21 = .ok (.iconst 4, 1) := by decide +kernel
theorem dX9_fillBehindGoing_22 : decode cX9_fillBehindGoing 22 = .ok (.iadd, 1) := by decide +kernel
theorem dX9_fillBehindGoing_23 : decode cX9_fillBehindGoing 23 = .ok (.if_icmp .ge 13, 3) := by decide +kernel
theorem dX9_fillBehindGoing_26 : decode cX9_fillBehindGoing 26 = .ok (.aload_n 0, 1) := by decide +kernel
theorem dX9_fillBehindGoing_27 : decode cX9_fillBehindGoing 27 = .ok (.getfield 53, 3) := by decide +kernel
theorem dX9_fillBehindGoing_30 : decode cX9_fillBehindGoing 30 = .ok (.getfield 61, 3) := by decide +kernel
theorem dX9_fillBehindGoing_33 : decode cX9_fillBehindGoing 33 = .ok (.ifCond .le 4, 3) := by decide +kernel
theorem dX9_fillBehindGoing_36 : decode cX9_fillBehindGoing 36 = .ok (.return_, 1) := by decide +kernel
theorem dX9_fillBehindGoing_37 : decode cX9_fillBehindGoing 37 = .ok (.aload_n 1, 1) := by decide +kernel
theorem dX9_fillBehindGoing_38 : decode cX9_fillBehindGoing 38 = .ok (.invokevirtual 345, 3) := by decide +kernel
theorem dX9_fillBehindGoing_41 : decode cX9_fillBehindGoing 41 = .ok (.istore_n 2, 1) := by decide +kernel
theorem dX9_fillBehindGoing_42 : decode cX9_fillBehindGoing 42 = .ok (.aload_n 1, 1) := by decide +kernel
theorem dX9_fillBehindGoing_43 : decode cX9_fillBehindGoing 43 = .ok (.getfield 102, 3) := by decide +kernel
theorem dX9_fillBehindGoing_46 : decode cX9_fillBehindGoing 46 = .ok (.istore_n 3, 1) := by decide +kernel
theorem dX9_fillBehindGoing_47 : decode cX9_fillBehindGoing 47 = .ok (.iload_n 3, 1) := by decide +kernel
theorem dX9_fillBehindGoing_48 : decode cX9_fillBehindGoing 48 = .ok (.iload_n 2, 1) := by decide +kernel
theorem dX9_fillBehindGoing_49 : decode cX9_fillBehindGoing 49 = .ok (.if_icmp .ge 18, 3) := by decide +kernel
theorem dX9_fillBehindGoing_52 : decode cX9_fillBehindGoing 52 = .ok (.aload_n 0, 1) := by decide +kernel
theorem dX9_fillBehindGoing_53 : decode cX9_fillBehindGoing 53 = .ok (.iload_n 3, 1) := by decide +kernel
theorem dX9_fillBehindGoing_54 : decode cX9_fillBehindGoing 54 = .ok (.invokevirtual 364, 3) := by decide +kernel
theorem dX9_fillBehindGoing_57 : decode cX9_fillBehindGoing 57 = .ok (.ifCond .eq 4, 3) := by decide +kernel
theorem dX9_fillBehindGoing_60 : decode cX9_fillBehindGoing 60 = .ok (.return_, 1) := by decide +kernel
theorem dX9_fillBehindGoing_61 : decode cX9_fillBehindGoing 61 = .ok (.iinc 3 1, 3) := by decide +kernel
theorem dX9_fillBehindGoing_64 : decode cX9_fillBehindGoing 64 = .ok (.goto (-17), 3) := by decide +kernel
theorem dX9_fillBehindGoing_67 : decode cX9_fillBehindGoing 67 = .ok (.aload_n 0, 1) := by decide +kernel
theorem dX9_fillBehindGoing_68 : decode cX9_fillBehindGoing 68 = .ok (.getfield 53, 3) := by decide +kernel
theorem dX9_fillBehindGoing_71 : decode cX9_fillBehindGoing 71 = .ok (.iconst 0, 1) := by decide +kernel
theorem dX9_fillBehindGoing_72 : decode cX9_fillBehindGoing 72 = .ok (.invokevirtual 71, 3) := by decide +kernel
theorem dX9_fillBehindGoing_75 : decode cX9_fillBehindGoing 75 = .ok (.return_, 1) := by decide +kernel
theorem dX9_letSparesForget_0 : decode cX9_letSparesForget 0 = .ok (.aload_n 2, 1) := by decide +kernel
theorem dX9_letSparesForget_1 : decode cX9_letSparesForget 1 = .ok (.getfield 77, 3) := by decide +kernel
theorem dX9_letSparesForget_4 : decode cX9_letSparesForget 4 = .ok (.aload_n 2, 1) := by decide +kernel
theorem dX9_letSparesForget_5 : decode cX9_letSparesForget 5 = .ok (.getfield 77, 3) := by decide +kernel
theorem dX9_letSparesForget_8 : decode cX9_letSparesForget 8 = .ok (.getfield 102, 3) := by decide +kernel
theorem dX9_letSparesForget_11 : decode cX9_letSparesForget 11 = .ok (.invokevirtual 116, 3) := by decide +kernel
theorem dX9_letSparesForget_14 : decode cX9_letSparesForget 14 = .ok (.iconst 1, 1) := by decide +kernel
theorem dX9_letSparesForget_15 : decode cX9_letSparesForget 15 = .ok (.iload_n 1, 1) := by decide +kernel
theorem dX9_letSparesForget_16 : decode cX9_letSparesForget 16 = .ok (.ishl, 1) := by decide +kernel
theorem dX9_letSparesForget_17 : decode cX9_letSparesForget 17 = .ok (.iconst (-1), 1) := by decide +kernel
theorem dX9_letSparesForget_18 : decode cX9_letSparesForget 18 = .ok (.ixor, 1) := by decide +kernel
theorem dX9_letSparesForget_19 : decode cX9_letSparesForget 19 = .ok (.iand, 1) := by decide +kernel
theorem dX9_letSparesForget_20 : decode cX9_letSparesForget 20 = .ok (.istore_n 3, 1) := by decide +kernel
theorem dX9_letSparesForget_21 : decode cX9_letSparesForget 21 = .ok (.aload_n 2, 1) := by decide +kernel
theorem dX9_letSparesForget_22 : decode cX9_letSparesForget 22 = .ok (.getfield 77, 3) := by decide +kernel
theorem dX9_letSparesForget_25 : decode cX9_letSparesForget 25 = .ok (.getfield 102, 3) := by decide +kernel
theorem dX9_letSparesForget_28 : decode cX9_letSparesForget 28 = .ok (.istore 4, 2) := by decide +kernel
theorem dX9_letSparesForget_30 : decode cX9_letSparesForget 30 = .ok (.iconst 0, 1) := by decide +kernel
theorem dX9_letSparesForget_31 : decode cX9_letSparesForget 31 = .ok (.istore 5, 2) := by decide +kernel
theorem dX9_letSparesForget_33 : decode cX9_letSparesForget 33 = .ok (.iload 5, 2) := by decide +kernel
theorem dX9_letSparesForget_35 : decode cX9_letSparesForget 35 = .ok (.aload_n 0, 1) := by decide +kernel
theorem dX9_letSparesForget_36 : decode cX9_letSparesForget 36 = .ok (.getfield 9, 3) := by decide +kernel
theorem dX9_letSparesForget_39 : decode cX9_letSparesForget 39 = .ok (.if_icmp .ge 35, 3) := by decide +kernel
theorem dX9_letSparesForget_42 : decode cX9_letSparesForget 42 = .ok (.iload_n 3, 1) := by decide +kernel
theorem dX9_letSparesForget_43 : decode cX9_letSparesForget 43 = .ok (.iload 5, 2) := by decide +kernel
theorem dX9_letSparesForget_45 : decode cX9_letSparesForget 45 = .ok (.ishr, 1) := by decide +kernel
theorem dX9_letSparesForget_46 : decode cX9_letSparesForget 46 = .ok (.iconst 1, 1) := by decide +kernel
theorem dX9_letSparesForget_47 : decode cX9_letSparesForget 47 = .ok (.iand, 1) := by decide +kernel
theorem dX9_letSparesForget_48 : decode cX9_letSparesForget 48 = .ok (.ifCond .eq 20, 3) := by decide +kernel
theorem dX9_letSparesForget_51 : decode cX9_letSparesForget 51 = .ok (.iload 4, 2) := by decide +kernel
theorem dX9_letSparesForget_53 : decode cX9_letSparesForget 53 = .ok (.aload_n 2, 1) := by decide +kernel
theorem dX9_letSparesForget_54 : decode cX9_letSparesForget 54 = .ok (.getfield 81, 3) := by decide +kernel
theorem dX9_letSparesForget_57 : decode cX9_letSparesForget 57 = .ok (.getfield 322, 3) := by decide +kernel
theorem dX9_letSparesForget_60 : decode cX9_letSparesForget 60 = .ok (.iload 5, 2) := by decide +kernel
theorem dX9_letSparesForget_62 : decode cX9_letSparesForget 62 = .ok (.iaload, 1) := by decide +kernel
theorem dX9_letSparesForget_63 : decode cX9_letSparesForget 63 = .ok (.invokestatic 401, 3) := by decide +kernel
theorem dX9_letSparesForget_66 : decode cX9_letSparesForget 66 = .ok (.istore 4, 2) := by decide +kernel
theorem dX9_letSparesForget_68 : decode cX9_letSparesForget 68 = .ok (.iinc 5 1, 3) := by decide +kernel
theorem dX9_letSparesForget_71 : decode cX9_letSparesForget 71 = .ok (.goto (-38), 3) := by decide +kernel
theorem dX9_letSparesForget_74 : decode cX9_letSparesForget 74 = .ok (.iload 4, 2) := by decide +kernel
theorem dX9_letSparesForget_76 : decode cX9_letSparesForget 76 = .ok (.aload_n 2, 1) := by decide +kernel
theorem dX9_letSparesForget_77 : decode cX9_letSparesForget 77 = .ok (.getfield 81, 3) := by decide +kernel
theorem dX9_letSparesForget_80 : decode cX9_letSparesForget 80 = .ok (.getfield 404, 3) := by decide +kernel
theorem dX9_letSparesForget_83 : decode cX9_letSparesForget 83 = .ok (.if_icmp .gt 4, 3) := by decide +kernel
theorem dX9_letSparesForget_86 : decode cX9_letSparesForget 86 = .ok (.return_, 1) := by decide +kernel
theorem dX9_letSparesForget_87 : decode cX9_letSparesForget 87 = .ok (.aload_n 2, 1) := by decide +kernel
theorem dX9_letSparesForget_88 : decode cX9_letSparesForget 88 = .ok (.getfield 81, 3) := by decide +kernel
theorem dX9_letSparesForget_91 : decode cX9_letSparesForget 91 = .ok (.iload 4, 2) := by decide +kernel
theorem dX9_letSparesForget_93 : decode cX9_letSparesForget 93 = .ok (.putfield 404, 3) := by decide +kernel
theorem dX9_letSparesForget_96 : decode cX9_letSparesForget 96 = .ok (.aload_n 0, 1) := by decide +kernel
theorem dX9_letSparesForget_97 : decode cX9_letSparesForget 97 = .ok (.getfield 9, 3) := by decide +kernel
theorem dX9_letSparesForget_100 : decode cX9_letSparesForget 100 = .ok (.istore 5, 2) := by decide +kernel
theorem dX9_letSparesForget_102 : decode cX9_letSparesForget 102 = .ok (.iload 5, 2) := by decide +kernel
theorem dX9_letSparesForget_104 : decode cX9_letSparesForget 104 = .ok (.aload_n 0, 1) := by decide +kernel
theorem dX9_letSparesForget_105 : decode cX9_letSparesForget 105 = .ok (.getfield 13, 3) := by decide +kernel
theorem dX9_letSparesForget_108 : decode cX9_letSparesForget 108 = .ok (.if_icmp .ge 41, 3) := by decide +kernel
theorem dX9_letSparesForget_111 : decode cX9_letSparesForget 111 = .ok (.aload_n 2, 1) := by decide +kernel
theorem dX9_letSparesForget_112 : decode cX9_letSparesForget 112 = .ok (.getfield 81, 3) := by decide +kernel
theorem dX9_letSparesForget_115 : decode cX9_letSparesForget 115 = .ok (.getfield 357, 3) := by decide +kernel
theorem dX9_letSparesForget_118 : decode cX9_letSparesForget 118 = .ok (.iload 5, 2) := by decide +kernel
theorem dX9_letSparesForget_120 : decode cX9_letSparesForget 120 = .ok (.ishr, 1) := by decide +kernel
theorem dX9_letSparesForget_121 : decode cX9_letSparesForget 121 = .ok (.iconst 1, 1) := by decide +kernel
theorem dX9_letSparesForget_122 : decode cX9_letSparesForget 122 = .ok (.iand, 1) := by decide +kernel
theorem dX9_letSparesForget_123 : decode cX9_letSparesForget 123 = .ok (.ifCond .eq 20, 3) := by decide +kernel
theorem dX9_letSparesForget_126 : decode cX9_letSparesForget 126 = .ok (.aload_n 0, 1) := by decide +kernel
theorem dX9_letSparesForget_127 : decode cX9_letSparesForget 127 = .ok (.getfield 38, 3) := by decide +kernel
theorem dX9_letSparesForget_130 : decode cX9_letSparesForget 130 = .ok (.iload_n 1, 1) := by decide +kernel
theorem dX9_letSparesForget_131 : decode cX9_letSparesForget 131 = .ok (.iload 5, 2) := by decide +kernel
theorem dX9_letSparesForget_133 : decode cX9_letSparesForget 133 = .ok (.bipush 7, 2) := by decide +kernel
theorem dX9_letSparesForget_135 : decode cX9_letSparesForget 135 = .ok (.iconst 0, 1) := by decide +kernel
theorem dX9_letSparesForget_136 : decode cX9_letSparesForget 136 = .ok (.iload 4, 2) := by decide +kernel
theorem dX9_letSparesForget_138 : decode cX9_letSparesForget 138 = .ok (.iconst 0, 1) := by decide +kernel
theorem dX9_letSparesForget_139 : decode cX9_letSparesForget 139 = .ok (.invokevirtual 279, 3) := by decide +kernel
theorem dX9_letSparesForget_142 : decode cX9_letSparesForget 142 = .ok (.pop, 1) := by decide +kernel
theorem dX9_letSparesForget_143 : decode cX9_letSparesForget 143 = .ok (.iinc 5 1, 3) := by decide +kernel
theorem dX9_letSparesForget_146 : decode cX9_letSparesForget 146 = .ok (.goto (-44), 3) := by decide +kernel
theorem dX9_letSparesForget_149 : decode cX9_letSparesForget 149 = .ok (.return_, 1) := by decide +kernel
theorem dX9_isSlot_0 : decode cX9_isSlot 0 = .ok (.iload_n 0, 1) := by decide +kernel
theorem dX9_isSlot_1 : decode cX9_isSlot 1 = .ok (.ifCond .lt 13, 3) := by decide +kernel
theorem dX9_isSlot_4 : decode cX9_isSlot 4 = .ok (.iload_n 0, 1) := by decide +kernel
theorem dX9_isSlot_5 : decode cX9_isSlot 5 = .ok (.bipush 100, 2) := by decide +kernel
theorem dX9_isSlot_7 : decode cX9_isSlot 7 = .ok (.if_icmp .ge 7, 3) := by decide +kernel
theorem dX9_isSlot_10 : decode cX9_isSlot 10 = .ok (.iconst 1, 1) := by decide +kernel
theorem dX9_isSlot_11 : decode cX9_isSlot 11 = .ok (.goto 4, 3) := by decide +kernel
theorem dX9_isSlot_14 : decode cX9_isSlot 14 = .ok (.iconst 0, 1) := by decide +kernel
theorem dX9_isSlot_15 : decode cX9_isSlot 15 = .ok (.ireturn, 1) := by decide +kernel
theorem dX9_goingBit_0 : decode cX9_goingBit 0 = .ok (.iload_n 0, 1) := by decide +kernel
theorem dX9_goingBit_1 : decode cX9_goingBit 1 = .ok (.ifCond .ge 17, 3) := by decide +kernel
theorem dX9_goingBit_4 : decode cX9_goingBit 4 = .ok (.iload_n 0, 1) := by decide +kernel
theorem dX9_goingBit_5 : decode cX9_goingBit 5 = .ok (.bipush (-5), 2) := by decide +kernel
theorem dX9_goingBit_7 : decode cX9_goingBit 7 = .ok (.if_icmp .lt 11, 3) := by decide +kernel
theorem dX9_goingBit_10 : decode cX9_goingBit 10 = .ok (.iconst 1, 1) := by decide +kernel
theorem dX9_goingBit_11 : decode cX9_goingBit 11 = .ok (.iconst (-1), 1) := by decide +kernel
theorem dX9_goingBit_12 : decode cX9_goingBit 12 = .ok (.iload_n 0, 1) := by decide +kernel
theorem dX9_goingBit_13 : decode cX9_goingBit 13 = .ok (.isub, 1) := by decide +kernel
theorem dX9_goingBit_14 : decode cX9_goingBit 14 = .ok (.ishl, 1) := by decide +kernel
theorem dX9_goingBit_15 : decode cX9_goingBit 15 = .ok (.goto 4, 3) := by decide +kernel
theorem dX9_goingBit_18 : decode cX9_goingBit 18 = .ok (.iconst 0, 1) := by decide +kernel
theorem dX9_goingBit_19 : decode cX9_goingBit 19 = .ok (.ireturn, 1) := by decide +kernel
