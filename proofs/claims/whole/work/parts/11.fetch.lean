theorem fX0_init_0 : ftc 0 (me_ci mX0_init) = some (0, .aload_n 0, 1, (0, 0, 0, 0)) := by decide +kernel
theorem fX0_init_1 : ftc 1 (me_ci mX0_init) = some (1, .invokespecial 3, 3, (276, 5, 0, 0)) := by decide +kernel
theorem fX0_init_4 : ftc 4 (me_ci mX0_init) = some (4, .aload_n 0, 1, (0, 0, 0, 0)) := by decide +kernel
theorem fX0_init_5 : ftc 5 (me_ci mX0_init) = some (5, .iconst 4, 1, (0, 0, 0, 0)) := by decide +kernel
theorem fX0_init_6 : ftc 6 (me_ci mX0_init) = some (6, .newarray .int, 2, (0, 0, 0, 0)) := by decide +kernel
theorem fX0_init_8 : ftc 8 (me_ci mX0_init) = some (8, .putfield 9, 3, (0, 1, 278, 0)) := by decide +kernel
theorem fX0_init_11 : ftc 11 (me_ci mX0_init) = some (11, .aload_n 0, 1, (0, 0, 0, 0)) := by decide +kernel
theorem fX0_init_12 : ftc 12 (me_ci mX0_init) = some (12, .aload_n 1, 1, (0, 0, 0, 0)) := by decide +kernel
theorem fX0_init_13 : ftc 13 (me_ci mX0_init) = some (13, .putfield 15, 3, (0, 0, 277, 0)) := by decide +kernel
theorem fX0_init_16 : ftc 16 (me_ci mX0_init) = some (16, .return_, 1, (0, 0, 0, 0)) := by decide +kernel
theorem pX0_init : pg 0 = some mX0_init := by decide +kernel
theorem fX0_bestReply_0 : ftc 0 (me_ci mX0_bestReply) = some (0, .aload_n 1, 1, (0, 0, 0, 0)) := by decide +kernel
theorem fX0_bestReply_1 : ftc 1 (me_ci mX0_bestReply) = some (1, .getfield 19, 3, (5, 9, 141, 0)) := by decide +kernel
theorem fX0_bestReply_4 : ftc 4 (me_ci mX0_bestReply) = some (4, .iconst 0, 1, (0, 0, 0, 0)) := by decide +kernel
theorem fX0_bestReply_5 : ftc 5 (me_ci mX0_bestReply) = some (5, .aload_n 0, 1, (0, 0, 0, 0)) := by decide +kernel
theorem fX0_bestReply_6 : ftc 6 (me_ci mX0_bestReply) = some (6, .getfield 9, 3, (0, 1, 278, 0)) := by decide +kernel
theorem fX0_bestReply_9 : ftc 9 (me_ci mX0_bestReply) = some (9, .iconst 0, 1, (0, 0, 0, 0)) := by decide +kernel
theorem fX0_bestReply_10 : ftc 10 (me_ci mX0_bestReply) = some (10, .iconst 4, 1, (0, 0, 0, 0)) := by decide +kernel
theorem fX0_bestReply_11 : ftc 11 (me_ci mX0_bestReply) = some (11, .invokestatic 24, 3, (519, 2, 0, 0)) := by decide +kernel
theorem fX0_bestReply_14 : ftc 14 (me_ci mX0_bestReply) = some (14, .iconst 0, 1, (0, 0, 0, 0)) := by decide +kernel
theorem fX0_bestReply_15 : ftc 15 (me_ci mX0_bestReply) = some (15, .istore_n 3, 1, (0, 0, 0, 0)) := by decide +kernel
theorem fX0_bestReply_16 : ftc 16 (me_ci mX0_bestReply) = some (16, .ldc 30, 2, (520, 0, 0, -1000000)) := by decide +kernel
theorem fX0_bestReply_18 : ftc 18 (me_ci mX0_bestReply) = some (18, .istore 4, 2, (0, 0, 0, 0)) := by decide +kernel
theorem fX0_bestReply_20 : ftc 20 (me_ci mX0_bestReply) = some (20, .ldc 30, 2, (520, 0, 0, -1000000)) := by decide +kernel
theorem fX0_bestReply_22 : ftc 22 (me_ci mX0_bestReply) = some (22, .istore 5, 2, (0, 0, 0, 0)) := by decide +kernel
theorem fX0_bestReply_24 : ftc 24 (me_ci mX0_bestReply) = some (24, .iconst 0, 1, (0, 0, 0, 0)) := by decide +kernel
theorem fX0_bestReply_25 : ftc 25 (me_ci mX0_bestReply) = some (25, .istore 6, 2, (0, 0, 0, 0)) := by decide +kernel
theorem fX0_bestReply_27 : ftc 27 (me_ci mX0_bestReply) = some (27, .iload 6, 2, (0, 0, 0, 0)) := by decide +kernel
theorem fX0_bestReply_29 : ftc 29 (me_ci mX0_bestReply) = some (29, .aload_n 1, 1, (0, 0, 0, 0)) := by decide +kernel
theorem fX0_bestReply_30 : ftc 30 (me_ci mX0_bestReply) = some (30, .getfield 31, 3, (5, 7, 135, 0)) := by decide +kernel
theorem fX0_bestReply_33 : ftc 33 (me_ci mX0_bestReply) = some (33, .iload_n 2, 1, (0, 0, 0, 0)) := by decide +kernel
theorem fX0_bestReply_34 : ftc 34 (me_ci mX0_bestReply) = some (34, .iaload, 1, (0, 0, 0, 0)) := by decide +kernel
theorem fX0_bestReply_35 : ftc 35 (me_ci mX0_bestReply) = some (35, .if_icmp .gt 93, 3, (0, 0, 0, 0)) := by decide +kernel
theorem fX0_bestReply_38 : ftc 38 (me_ci mX0_bestReply) = some (38, .aload_n 0, 1, (0, 0, 0, 0)) := by decide +kernel
theorem fX0_bestReply_39 : ftc 39 (me_ci mX0_bestReply) = some (39, .getfield 9, 3, (0, 1, 278, 0)) := by decide +kernel
theorem fX0_bestReply_42 : ftc 42 (me_ci mX0_bestReply) = some (42, .iload_n 2, 1, (0, 0, 0, 0)) := by decide +kernel
theorem fX0_bestReply_43 : ftc 43 (me_ci mX0_bestReply) = some (43, .iload 6, 2, (0, 0, 0, 0)) := by decide +kernel
theorem fX0_bestReply_45 : ftc 45 (me_ci mX0_bestReply) = some (45, .iastore, 1, (0, 0, 0, 0)) := by decide +kernel
theorem fX0_bestReply_46 : ftc 46 (me_ci mX0_bestReply) = some (46, .aload_n 0, 1, (0, 0, 0, 0)) := by decide +kernel
theorem fX0_bestReply_47 : ftc 47 (me_ci mX0_bestReply) = some (47, .getfield 15, 3, (0, 0, 277, 0)) := by decide +kernel
theorem fX0_bestReply_50 : ftc 50 (me_ci mX0_bestReply) = some (50, .aload_n 1, 1, (0, 0, 0, 0)) := by decide +kernel
theorem fX0_bestReply_51 : ftc 51 (me_ci mX0_bestReply) = some (51, .aload_n 0, 1, (0, 0, 0, 0)) := by decide +kernel
theorem fX0_bestReply_52 : ftc 52 (me_ci mX0_bestReply) = some (52, .getfield 9, 3, (0, 1, 278, 0)) := by decide +kernel
theorem fX0_bestReply_55 : ftc 55 (me_ci mX0_bestReply) = some (55, .invokevirtual 34, 3, (11, 0, 521, 0)) := by decide +kernel
theorem fX0_bestReply_58 : ftc 58 (me_ci mX0_bestReply) = some (58, .aload_n 0, 1, (0, 0, 0, 0)) := by decide +kernel
theorem fX0_bestReply_59 : ftc 59 (me_ci mX0_bestReply) = some (59, .getfield 15, 3, (0, 0, 277, 0)) := by decide +kernel
theorem fX0_bestReply_62 : ftc 62 (me_ci mX0_bestReply) = some (62, .getfield 40, 3, (2, 0, 244, 0)) := by decide +kernel
theorem fX0_bestReply_65 : ftc 65 (me_ci mX0_bestReply) = some (65, .iload_n 2, 1, (0, 0, 0, 0)) := by decide +kernel
theorem fX0_bestReply_66 : ftc 66 (me_ci mX0_bestReply) = some (66, .if_icmp .ne 10, 3, (0, 0, 0, 0)) := by decide +kernel
theorem fX0_bestReply_69 : ftc 69 (me_ci mX0_bestReply) = some (69, .aload_n 1, 1, (0, 0, 0, 0)) := by decide +kernel
theorem fX0_bestReply_70 : ftc 70 (me_ci mX0_bestReply) = some (70, .invokevirtual 44, 3, (38, 0, 522, 0)) := by decide +kernel
theorem fX0_bestReply_73 : ftc 73 (me_ci mX0_bestReply) = some (73, .goto 4, 3, (0, 0, 0, 0)) := by decide +kernel
theorem fX0_bestReply_76 : ftc 76 (me_ci mX0_bestReply) = some (76, .iconst 0, 1, (0, 0, 0, 0)) := by decide +kernel
theorem fX0_bestReply_77 : ftc 77 (me_ci mX0_bestReply) = some (77, .istore 7, 2, (0, 0, 0, 0)) := by decide +kernel
theorem fX0_bestReply_79 : ftc 79 (me_ci mX0_bestReply) = some (79, .aload_n 0, 1, (0, 0, 0, 0)) := by decide +kernel
theorem fX0_bestReply_80 : ftc 80 (me_ci mX0_bestReply) = some (80, .getfield 15, 3, (0, 0, 277, 0)) := by decide +kernel
theorem fX0_bestReply_83 : ftc 83 (me_ci mX0_bestReply) = some (83, .aload_n 1, 1, (0, 0, 0, 0)) := by decide +kernel
theorem fX0_bestReply_84 : ftc 84 (me_ci mX0_bestReply) = some (84, .iload_n 2, 1, (0, 0, 0, 0)) := by decide +kernel
theorem fX0_bestReply_85 : ftc 85 (me_ci mX0_bestReply) = some (85, .invokevirtual 48, 3, (15, 0, 523, 0)) := by decide +kernel
theorem fX0_bestReply_88 : ftc 88 (me_ci mX0_bestReply) = some (88, .istore 8, 2, (0, 0, 0, 0)) := by decide +kernel
theorem fX0_bestReply_90 : ftc 90 (me_ci mX0_bestReply) = some (90, .iload 7, 2, (0, 0, 0, 0)) := by decide +kernel
theorem fX0_bestReply_92 : ftc 92 (me_ci mX0_bestReply) = some (92, .iload 4, 2, (0, 0, 0, 0)) := by decide +kernel
theorem fX0_bestReply_94 : ftc 94 (me_ci mX0_bestReply) = some (94, .if_icmp .gt 17, 3, (0, 0, 0, 0)) := by decide +kernel
theorem fX0_bestReply_97 : ftc 97 (me_ci mX0_bestReply) = some (97, .iload 7, 2, (0, 0, 0, 0)) := by decide +kernel
theorem fX0_bestReply_99 : ftc 99 (me_ci mX0_bestReply) = some (99, .iload 4, 2, (0, 0, 0, 0)) := by decide +kernel
theorem fX0_bestReply_101 : ftc 101 (me_ci mX0_bestReply) = some (101, .if_icmp .ne 21, 3, (0, 0, 0, 0)) := by decide +kernel
theorem fX0_bestReply_104 : ftc 104 (me_ci mX0_bestReply) = some (104, .iload 8, 2, (0, 0, 0, 0)) := by decide +kernel
theorem fX0_bestReply_106 : ftc 106 (me_ci mX0_bestReply) = some (106, .iload 5, 2, (0, 0, 0, 0)) := by decide +kernel
theorem fX0_bestReply_108 : ftc 108 (me_ci mX0_bestReply) = some (108, .if_icmp .le 14, 3, (0, 0, 0, 0)) := by decide +kernel
theorem fX0_bestReply_111 : ftc 111 (me_ci mX0_bestReply) = some (111, .iload 6, 2, (0, 0, 0, 0)) := by decide +kernel
theorem fX0_bestReply_113 : ftc 113 (me_ci mX0_bestReply) = some (113, .istore_n 3, 1, (0, 0, 0, 0)) := by decide +kernel
theorem fX0_bestReply_114 : ftc 114 (me_ci mX0_bestReply) = some (114, .iload 7, 2, (0, 0, 0, 0)) := by decide +kernel
theorem fX0_bestReply_116 : ftc 116 (me_ci mX0_bestReply) = some (116, .istore 4, 2, (0, 0, 0, 0)) := by decide +kernel
theorem fX0_bestReply_118 : ftc 118 (me_ci mX0_bestReply) = some (118, .iload 8, 2, (0, 0, 0, 0)) := by decide +kernel
theorem fX0_bestReply_120 : ftc 120 (me_ci mX0_bestReply) = some (120, .istore 5, 2, (0, 0, 0, 0)) := by decide +kernel
theorem fX0_bestReply_122 : ftc 122 (me_ci mX0_bestReply) = some (122, .iinc 6 1, 3, (0, 0, 0, 0)) := by decide +kernel
theorem fX0_bestReply_125 : ftc 125 (me_ci mX0_bestReply) = some (125, .goto (-98), 3, (0, 0, 0, 0)) := by decide +kernel
theorem fX0_bestReply_128 : ftc 128 (me_ci mX0_bestReply) = some (128, .iload_n 3, 1, (0, 0, 0, 0)) := by decide +kernel
theorem fX0_bestReply_129 : ftc 129 (me_ci mX0_bestReply) = some (129, .ireturn, 1, (0, 0, 0, 0)) := by decide +kernel
theorem pX0_bestReply : pg 1 = some mX0_bestReply := by decide +kernel
theorem fX0_bestOpenBid_0 : ftc 0 (me_ci mX0_bestOpenBid) = some (0, .iconst 0, 1, (0, 0, 0, 0)) := by decide +kernel
theorem fX0_bestOpenBid_1 : ftc 1 (me_ci mX0_bestOpenBid) = some (1, .istore 4, 2, (0, 0, 0, 0)) := by decide +kernel
theorem fX0_bestOpenBid_3 : ftc 3 (me_ci mX0_bestOpenBid) = some (3, .ldc 30, 2, (520, 0, 0, -1000000)) := by decide +kernel
theorem fX0_bestOpenBid_5 : ftc 5 (me_ci mX0_bestOpenBid) = some (5, .istore 5, 2, (0, 0, 0, 0)) := by decide +kernel
theorem fX0_bestOpenBid_7 : ftc 7 (me_ci mX0_bestOpenBid) = some (7, .iconst 0, 1, (0, 0, 0, 0)) := by decide +kernel
theorem fX0_bestOpenBid_8 : ftc 8 (me_ci mX0_bestOpenBid) = some (8, .istore 6, 2, (0, 0, 0, 0)) := by decide +kernel
theorem fX0_bestOpenBid_10 : ftc 10 (me_ci mX0_bestOpenBid) = some (10, .iload 6, 2, (0, 0, 0, 0)) := by decide +kernel
theorem fX0_bestOpenBid_12 : ftc 12 (me_ci mX0_bestOpenBid) = some (12, .aload_n 1, 1, (0, 0, 0, 0)) := by decide +kernel
theorem fX0_bestOpenBid_13 : ftc 13 (me_ci mX0_bestOpenBid) = some (13, .getfield 31, 3, (5, 7, 135, 0)) := by decide +kernel
theorem fX0_bestOpenBid_16 : ftc 16 (me_ci mX0_bestOpenBid) = some (16, .iload_n 2, 1, (0, 0, 0, 0)) := by decide +kernel
theorem fX0_bestOpenBid_17 : ftc 17 (me_ci mX0_bestOpenBid) = some (17, .iaload, 1, (0, 0, 0, 0)) := by decide +kernel
theorem fX0_bestOpenBid_18 : ftc 18 (me_ci mX0_bestOpenBid) = some (18, .if_icmp .gt 37, 3, (0, 0, 0, 0)) := by decide +kernel
theorem fX0_bestOpenBid_21 : ftc 21 (me_ci mX0_bestOpenBid) = some (21, .aload_n 0, 1, (0, 0, 0, 0)) := by decide +kernel
theorem fX0_bestOpenBid_22 : ftc 22 (me_ci mX0_bestOpenBid) = some (22, .aload_n 1, 1, (0, 0, 0, 0)) := by decide +kernel
theorem fX0_bestOpenBid_23 : ftc 23 (me_ci mX0_bestOpenBid) = some (23, .iload_n 2, 1, (0, 0, 0, 0)) := by decide +kernel
theorem fX0_bestOpenBid_24 : ftc 24 (me_ci mX0_bestOpenBid) = some (24, .iload 6, 2, (0, 0, 0, 0)) := by decide +kernel
theorem fX0_bestOpenBid_26 : ftc 26 (me_ci mX0_bestOpenBid) = some (26, .iload_n 3, 1, (0, 0, 0, 0)) := by decide +kernel
theorem fX0_bestOpenBid_27 : ftc 27 (me_ci mX0_bestOpenBid) = some (27, .iload 5, 2, (0, 0, 0, 0)) := by decide +kernel
theorem fX0_bestOpenBid_29 : ftc 29 (me_ci mX0_bestOpenBid) = some (29, .invokevirtual 52, 3, (4, 0, 536, 0)) := by decide +kernel
theorem fX0_bestOpenBid_32 : ftc 32 (me_ci mX0_bestOpenBid) = some (32, .istore 7, 2, (0, 0, 0, 0)) := by decide +kernel
theorem fX0_bestOpenBid_34 : ftc 34 (me_ci mX0_bestOpenBid) = some (34, .iload 7, 2, (0, 0, 0, 0)) := by decide +kernel
theorem fX0_bestOpenBid_36 : ftc 36 (me_ci mX0_bestOpenBid) = some (36, .iload 5, 2, (0, 0, 0, 0)) := by decide +kernel
theorem fX0_bestOpenBid_38 : ftc 38 (me_ci mX0_bestOpenBid) = some (38, .if_icmp .le 11, 3, (0, 0, 0, 0)) := by decide +kernel
theorem fX0_bestOpenBid_41 : ftc 41 (me_ci mX0_bestOpenBid) = some (41, .iload 6, 2, (0, 0, 0, 0)) := by decide +kernel
theorem fX0_bestOpenBid_43 : ftc 43 (me_ci mX0_bestOpenBid) = some (43, .istore 4, 2, (0, 0, 0, 0)) := by decide +kernel
theorem fX0_bestOpenBid_45 : ftc 45 (me_ci mX0_bestOpenBid) = some (45, .iload 7, 2, (0, 0, 0, 0)) := by decide +kernel
theorem fX0_bestOpenBid_47 : ftc 47 (me_ci mX0_bestOpenBid) = some (47, .istore 5, 2, (0, 0, 0, 0)) := by decide +kernel
theorem fX0_bestOpenBid_49 : ftc 49 (me_ci mX0_bestOpenBid) = some (49, .iinc 6 1, 3, (0, 0, 0, 0)) := by decide +kernel
theorem fX0_bestOpenBid_52 : ftc 52 (me_ci mX0_bestOpenBid) = some (52, .goto (-42), 3, (0, 0, 0, 0)) := by decide +kernel
theorem fX0_bestOpenBid_55 : ftc 55 (me_ci mX0_bestOpenBid) = some (55, .iload 4, 2, (0, 0, 0, 0)) := by decide +kernel
theorem fX0_bestOpenBid_57 : ftc 57 (me_ci mX0_bestOpenBid) = some (57, .ireturn, 1, (0, 0, 0, 0)) := by decide +kernel
theorem pX0_bestOpenBid : pg 2 = some mX0_bestOpenBid := by decide +kernel
theorem fX0_gainByOpenBid_0 : ftc 0 (me_ci mX0_gainByOpenBid) = some (0, .aload_n 0, 1, (0, 0, 0, 0)) := by decide +kernel
theorem fX0_gainByOpenBid_1 : ftc 1 (me_ci mX0_gainByOpenBid) = some (1, .aload_n 1, 1, (0, 0, 0, 0)) := by decide +kernel
theorem fX0_gainByOpenBid_2 : ftc 2 (me_ci mX0_gainByOpenBid) = some (2, .iload_n 2, 1, (0, 0, 0, 0)) := by decide +kernel
theorem fX0_gainByOpenBid_3 : ftc 3 (me_ci mX0_gainByOpenBid) = some (3, .aload_n 0, 1, (0, 0, 0, 0)) := by decide +kernel
theorem fX0_gainByOpenBid_4 : ftc 4 (me_ci mX0_gainByOpenBid) = some (4, .aload_n 1, 1, (0, 0, 0, 0)) := by decide +kernel
theorem fX0_gainByOpenBid_5 : ftc 5 (me_ci mX0_gainByOpenBid) = some (5, .iload_n 2, 1, (0, 0, 0, 0)) := by decide +kernel
theorem fX0_gainByOpenBid_6 : ftc 6 (me_ci mX0_gainByOpenBid) = some (6, .iload_n 3, 1, (0, 0, 0, 0)) := by decide +kernel
theorem fX0_gainByOpenBid_7 : ftc 7 (me_ci mX0_gainByOpenBid) = some (7, .invokevirtual 56, 3, (2, 0, 532, 0)) := by decide +kernel
theorem fX0_gainByOpenBid_10 : ftc 10 (me_ci mX0_gainByOpenBid) = some (10, .iload_n 3, 1, (0, 0, 0, 0)) := by decide +kernel
theorem fX0_gainByOpenBid_11 : ftc 11 (me_ci mX0_gainByOpenBid) = some (11, .ldc 30, 2, (520, 0, 0, -1000000)) := by decide +kernel
theorem fX0_gainByOpenBid_13 : ftc 13 (me_ci mX0_gainByOpenBid) = some (13, .invokevirtual 52, 3, (4, 0, 536, 0)) := by decide +kernel
theorem fX0_gainByOpenBid_16 : ftc 16 (me_ci mX0_gainByOpenBid) = some (16, .ireturn, 1, (0, 0, 0, 0)) := by decide +kernel
theorem pX0_gainByOpenBid : pg 3 = some mX0_gainByOpenBid := by decide +kernel
theorem fX0_leastGain_0 : ftc 0 (me_ci mX0_leastGain) = some (0, .iconst 1, 1, (0, 0, 0, 0)) := by decide +kernel
theorem fX0_leastGain_1 : ftc 1 (me_ci mX0_leastGain) = some (1, .iload_n 2, 1, (0, 0, 0, 0)) := by decide +kernel
theorem fX0_leastGain_2 : ftc 2 (me_ci mX0_leastGain) = some (2, .isub, 1, (0, 0, 0, 0)) := by decide +kernel
theorem fX0_leastGain_3 : ftc 3 (me_ci mX0_leastGain) = some (3, .istore 6, 2, (0, 0, 0, 0)) := by decide +kernel
theorem fX0_leastGain_5 : ftc 5 (me_ci mX0_leastGain) = some (5, .ldc 60, 2, (540, 0, 0, 1000000)) := by decide +kernel
theorem fX0_leastGain_7 : ftc 7 (me_ci mX0_leastGain) = some (7, .istore 7, 2, (0, 0, 0, 0)) := by decide +kernel
theorem fX0_leastGain_9 : ftc 9 (me_ci mX0_leastGain) = some (9, .aload_n 0, 1, (0, 0, 0, 0)) := by decide +kernel
theorem fX0_leastGain_10 : ftc 10 (me_ci mX0_leastGain) = some (10, .getfield 9, 3, (0, 1, 278, 0)) := by decide +kernel
theorem fX0_leastGain_13 : ftc 13 (me_ci mX0_leastGain) = some (13, .iload_n 2, 1, (0, 0, 0, 0)) := by decide +kernel
theorem fX0_leastGain_14 : ftc 14 (me_ci mX0_leastGain) = some (14, .iload_n 3, 1, (0, 0, 0, 0)) := by decide +kernel
theorem fX0_leastGain_15 : ftc 15 (me_ci mX0_leastGain) = some (15, .iastore, 1, (0, 0, 0, 0)) := by decide +kernel
theorem fX0_leastGain_16 : ftc 16 (me_ci mX0_leastGain) = some (16, .iconst 0, 1, (0, 0, 0, 0)) := by decide +kernel
theorem fX0_leastGain_17 : ftc 17 (me_ci mX0_leastGain) = some (17, .istore 8, 2, (0, 0, 0, 0)) := by decide +kernel
theorem fX0_leastGain_19 : ftc 19 (me_ci mX0_leastGain) = some (19, .iload 8, 2, (0, 0, 0, 0)) := by decide +kernel
theorem fX0_leastGain_21 : ftc 21 (me_ci mX0_leastGain) = some (21, .aload_n 1, 1, (0, 0, 0, 0)) := by decide +kernel
theorem fX0_leastGain_22 : ftc 22 (me_ci mX0_leastGain) = some (22, .getfield 31, 3, (5, 7, 135, 0)) := by decide +kernel
theorem fX0_leastGain_25 : ftc 25 (me_ci mX0_leastGain) = some (25, .iload 6, 2, (0, 0, 0, 0)) := by decide +kernel
theorem fX0_leastGain_27 : ftc 27 (me_ci mX0_leastGain) = some (27, .iaload, 1, (0, 0, 0, 0)) := by decide +kernel
theorem fX0_leastGain_28 : ftc 28 (me_ci mX0_leastGain) = some (28, .if_icmp .gt 42, 3, (0, 0, 0, 0)) := by decide +kernel
theorem fX0_leastGain_31 : ftc 31 (me_ci mX0_leastGain) = some (31, .iload 7, 2, (0, 0, 0, 0)) := by decide +kernel
theorem fX0_leastGain_33 : ftc 33 (me_ci mX0_leastGain) = some (33, .iload 5, 2, (0, 0, 0, 0)) := by decide +kernel
theorem fX0_leastGain_35 : ftc 35 (me_ci mX0_leastGain) = some (35, .if_icmp .le 35, 3, (0, 0, 0, 0)) := by decide +kernel
theorem fX0_leastGain_38 : ftc 38 (me_ci mX0_leastGain) = some (38, .aload_n 0, 1, (0, 0, 0, 0)) := by decide +kernel
theorem fX0_leastGain_39 : ftc 39 (me_ci mX0_leastGain) = some (39, .getfield 9, 3, (0, 1, 278, 0)) := by decide +kernel
theorem fX0_leastGain_42 : ftc 42 (me_ci mX0_leastGain) = some (42, .iload 6, 2, (0, 0, 0, 0)) := by decide +kernel
theorem fX0_leastGain_44 : ftc 44 (me_ci mX0_leastGain) = some (44, .iload 8, 2, (0, 0, 0, 0)) := by decide +kernel
theorem fX0_leastGain_46 : ftc 46 (me_ci mX0_leastGain) = some (46, .iastore, 1, (0, 0, 0, 0)) := by decide +kernel
theorem fX0_leastGain_47 : ftc 47 (me_ci mX0_leastGain) = some (47, .iload 7, 2, (0, 0, 0, 0)) := by decide +kernel
theorem fX0_leastGain_49 : ftc 49 (me_ci mX0_leastGain) = some (49, .aload_n 0, 1, (0, 0, 0, 0)) := by decide +kernel
theorem fX0_leastGain_50 : ftc 50 (me_ci mX0_leastGain) = some (50, .aload_n 1, 1, (0, 0, 0, 0)) := by decide +kernel
theorem fX0_leastGain_51 : ftc 51 (me_ci mX0_leastGain) = some (51, .iload_n 2, 1, (0, 0, 0, 0)) := by decide +kernel
theorem fX0_leastGain_52 : ftc 52 (me_ci mX0_leastGain) = some (52, .iload 6, 2, (0, 0, 0, 0)) := by decide +kernel
theorem fX0_leastGain_54 : ftc 54 (me_ci mX0_leastGain) = some (54, .iload 4, 2, (0, 0, 0, 0)) := by decide +kernel
theorem fX0_leastGain_56 : ftc 56 (me_ci mX0_leastGain) = some (56, .invokevirtual 61, 3, (5, 0, 541, 0)) := by decide +kernel
theorem fX0_leastGain_59 : ftc 59 (me_ci mX0_leastGain) = some (59, .invokestatic 65, 3, (548, 4, 0, 0)) := by decide +kernel
theorem fX0_leastGain_62 : ftc 62 (me_ci mX0_leastGain) = some (62, .istore 7, 2, (0, 0, 0, 0)) := by decide +kernel
theorem fX0_leastGain_64 : ftc 64 (me_ci mX0_leastGain) = some (64, .iinc 8 1, 3, (0, 0, 0, 0)) := by decide +kernel
theorem fX0_leastGain_67 : ftc 67 (me_ci mX0_leastGain) = some (67, .goto (-48), 3, (0, 0, 0, 0)) := by decide +kernel
theorem fX0_leastGain_70 : ftc 70 (me_ci mX0_leastGain) = some (70, .iload 7, 2, (0, 0, 0, 0)) := by decide +kernel
theorem fX0_leastGain_72 : ftc 72 (me_ci mX0_leastGain) = some (72, .ireturn, 1, (0, 0, 0, 0)) := by decide +kernel
theorem pX0_leastGain : pg 4 = some mX0_leastGain := by decide +kernel
theorem fX0_gainOfTrial_0 : ftc 0 (me_ci mX0_gainOfTrial) = some (0, .aload_n 0, 1, (0, 0, 0, 0)) := by decide +kernel
theorem fX0_gainOfTrial_1 : ftc 1 (me_ci mX0_gainOfTrial) = some (1, .getfield 15, 3, (0, 0, 277, 0)) := by decide +kernel
theorem fX0_gainOfTrial_4 : ftc 4 (me_ci mX0_gainOfTrial) = some (4, .aload_n 1, 1, (0, 0, 0, 0)) := by decide +kernel
theorem fX0_gainOfTrial_5 : ftc 5 (me_ci mX0_gainOfTrial) = some (5, .aload_n 0, 1, (0, 0, 0, 0)) := by decide +kernel
theorem fX0_gainOfTrial_6 : ftc 6 (me_ci mX0_gainOfTrial) = some (6, .getfield 9, 3, (0, 1, 278, 0)) := by decide +kernel
theorem fX0_gainOfTrial_9 : ftc 9 (me_ci mX0_gainOfTrial) = some (9, .invokevirtual 34, 3, (11, 0, 521, 0)) := by decide +kernel
theorem fX0_gainOfTrial_12 : ftc 12 (me_ci mX0_gainOfTrial) = some (12, .aload_n 1, 1, (0, 0, 0, 0)) := by decide +kernel
theorem fX0_gainOfTrial_13 : ftc 13 (me_ci mX0_gainOfTrial) = some (13, .invokevirtual 44, 3, (38, 0, 522, 0)) := by decide +kernel
theorem fX0_gainOfTrial_16 : ftc 16 (me_ci mX0_gainOfTrial) = some (16, .istore 5, 2, (0, 0, 0, 0)) := by decide +kernel
theorem fX0_gainOfTrial_18 : ftc 18 (me_ci mX0_gainOfTrial) = some (18, .aload_n 0, 1, (0, 0, 0, 0)) := by decide +kernel
theorem fX0_gainOfTrial_19 : ftc 19 (me_ci mX0_gainOfTrial) = some (19, .getfield 15, 3, (0, 0, 277, 0)) := by decide +kernel
theorem fX0_gainOfTrial_22 : ftc 22 (me_ci mX0_gainOfTrial) = some (22, .getfield 40, 3, (2, 0, 244, 0)) := by decide +kernel
theorem fX0_gainOfTrial_25 : ftc 25 (me_ci mX0_gainOfTrial) = some (25, .iconst (-1), 1, (0, 0, 0, 0)) := by decide +kernel
theorem fX0_gainOfTrial_26 : ftc 26 (me_ci mX0_gainOfTrial) = some (26, .if_icmp .ne 8, 3, (0, 0, 0, 0)) := by decide +kernel
theorem fX0_gainOfTrial_29 : ftc 29 (me_ci mX0_gainOfTrial) = some (29, .iload 5, 2, (0, 0, 0, 0)) := by decide +kernel
theorem fX0_gainOfTrial_31 : ftc 31 (me_ci mX0_gainOfTrial) = some (31, .goto 4, 3, (0, 0, 0, 0)) := by decide +kernel
theorem fX0_gainOfTrial_34 : ftc 34 (me_ci mX0_gainOfTrial) = some (34, .iconst 0, 1, (0, 0, 0, 0)) := by decide +kernel
theorem fX0_gainOfTrial_35 : ftc 35 (me_ci mX0_gainOfTrial) = some (35, .istore 6, 2, (0, 0, 0, 0)) := by decide +kernel
theorem fX0_gainOfTrial_37 : ftc 37 (me_ci mX0_gainOfTrial) = some (37, .iconst 0, 1, (0, 0, 0, 0)) := by decide +kernel
theorem fX0_gainOfTrial_38 : ftc 38 (me_ci mX0_gainOfTrial) = some (38, .istore 7, 2, (0, 0, 0, 0)) := by decide +kernel
theorem fX0_gainOfTrial_40 : ftc 40 (me_ci mX0_gainOfTrial) = some (40, .aload_n 0, 1, (0, 0, 0, 0)) := by decide +kernel
theorem fX0_gainOfTrial_41 : ftc 41 (me_ci mX0_gainOfTrial) = some (41, .getfield 15, 3, (0, 0, 277, 0)) := by decide +kernel
theorem fX0_gainOfTrial_44 : ftc 44 (me_ci mX0_gainOfTrial) = some (44, .getfield 40, 3, (2, 0, 244, 0)) := by decide +kernel
theorem fX0_gainOfTrial_47 : ftc 47 (me_ci mX0_gainOfTrial) = some (47, .iload_n 2, 1, (0, 0, 0, 0)) := by decide +kernel
theorem fX0_gainOfTrial_48 : ftc 48 (me_ci mX0_gainOfTrial) = some (48, .if_icmp .ne 7, 3, (0, 0, 0, 0)) := by decide +kernel
theorem fX0_gainOfTrial_51 : ftc 51 (me_ci mX0_gainOfTrial) = some (51, .iload 5, 2, (0, 0, 0, 0)) := by decide +kernel
theorem fX0_gainOfTrial_53 : ftc 53 (me_ci mX0_gainOfTrial) = some (53, .istore 7, 2, (0, 0, 0, 0)) := by decide +kernel
theorem fX0_gainOfTrial_55 : ftc 55 (me_ci mX0_gainOfTrial) = some (55, .aload_n 0, 1, (0, 0, 0, 0)) := by decide +kernel
theorem fX0_gainOfTrial_56 : ftc 56 (me_ci mX0_gainOfTrial) = some (56, .getfield 15, 3, (0, 0, 277, 0)) := by decide +kernel
theorem fX0_gainOfTrial_59 : ftc 59 (me_ci mX0_gainOfTrial) = some (59, .getfield 40, 3, (2, 0, 244, 0)) := by decide +kernel
theorem fX0_gainOfTrial_62 : ftc 62 (me_ci mX0_gainOfTrial) = some (62, .iload_n 3, 1, (0, 0, 0, 0)) := by decide +kernel
theorem fX0_gainOfTrial_63 : ftc 63 (me_ci mX0_gainOfTrial) = some (63, .if_icmp .ne 8, 3, (0, 0, 0, 0)) := by decide +kernel
theorem fX0_gainOfTrial_66 : ftc 66 (me_ci mX0_gainOfTrial) = some (66, .iload 5, 2, (0, 0, 0, 0)) := by decide +kernel
theorem fX0_gainOfTrial_68 : ftc 68 (me_ci mX0_gainOfTrial) = some (68, .ineg, 1, (0, 0, 0, 0)) := by decide +kernel
theorem fX0_gainOfTrial_69 : ftc 69 (me_ci mX0_gainOfTrial) = some (69, .istore 7, 2, (0, 0, 0, 0)) := by decide +kernel
theorem fX0_gainOfTrial_71 : ftc 71 (me_ci mX0_gainOfTrial) = some (71, .iload 4, 2, (0, 0, 0, 0)) := by decide +kernel
theorem fX0_gainOfTrial_73 : ftc 73 (me_ci mX0_gainOfTrial) = some (73, .iconst 2, 1, (0, 0, 0, 0)) := by decide +kernel
theorem fX0_gainOfTrial_74 : ftc 74 (me_ci mX0_gainOfTrial) = some (74, .if_icmp .lt 11, 3, (0, 0, 0, 0)) := by decide +kernel
theorem fX0_gainOfTrial_77 : ftc 77 (me_ci mX0_gainOfTrial) = some (77, .aload_n 1, 1, (0, 0, 0, 0)) := by decide +kernel
theorem fX0_gainOfTrial_78 : ftc 78 (me_ci mX0_gainOfTrial) = some (78, .getfield 71, 3, (5, 6, 133, 0)) := by decide +kernel
theorem fX0_gainOfTrial_81 : ftc 81 (me_ci mX0_gainOfTrial) = some (81, .iconst 2, 1, (0, 0, 0, 0)) := by decide +kernel
theorem fX0_gainOfTrial_82 : ftc 82 (me_ci mX0_gainOfTrial) = some (82, .if_icmp .ge 6, 3, (0, 0, 0, 0)) := by decide +kernel
theorem fX0_gainOfTrial_85 : ftc 85 (me_ci mX0_gainOfTrial) = some (85, .iload 7, 2, (0, 0, 0, 0)) := by decide +kernel
theorem fX0_gainOfTrial_87 : ftc 87 (me_ci mX0_gainOfTrial) = some (87, .ireturn, 1, (0, 0, 0, 0)) := by decide +kernel
theorem fX0_gainOfTrial_88 : ftc 88 (me_ci mX0_gainOfTrial) = some (88, .iload 6, 2, (0, 0, 0, 0)) := by decide +kernel
theorem fX0_gainOfTrial_90 : ftc 90 (me_ci mX0_gainOfTrial) = some (90, .aload_n 1, 1, (0, 0, 0, 0)) := by decide +kernel
theorem fX0_gainOfTrial_91 : ftc 91 (me_ci mX0_gainOfTrial) = some (91, .getfield 74, 3, (5, 14, 148, 0)) := by decide +kernel
theorem fX0_gainOfTrial_94 : ftc 94 (me_ci mX0_gainOfTrial) = some (94, .aload_n 1, 1, (0, 0, 0, 0)) := by decide +kernel
theorem fX0_gainOfTrial_95 : ftc 95 (me_ci mX0_gainOfTrial) = some (95, .getfield 77, 3, (5, 4, 130, 0)) := by decide +kernel
theorem fX0_gainOfTrial_98 : ftc 98 (me_ci mX0_gainOfTrial) = some (98, .iconst 1, 1, (0, 0, 0, 0)) := by decide +kernel
theorem fX0_gainOfTrial_99 : ftc 99 (me_ci mX0_gainOfTrial) = some (99, .iadd, 1, (0, 0, 0, 0)) := by decide +kernel
theorem fX0_gainOfTrial_100 : ftc 100 (me_ci mX0_gainOfTrial) = some (100, .iaload, 1, (0, 0, 0, 0)) := by decide +kernel
theorem fX0_gainOfTrial_101 : ftc 101 (me_ci mX0_gainOfTrial) = some (101, .iadd, 1, (0, 0, 0, 0)) := by decide +kernel
theorem fX0_gainOfTrial_102 : ftc 102 (me_ci mX0_gainOfTrial) = some (102, .istore 8, 2, (0, 0, 0, 0)) := by decide +kernel
theorem fX0_gainOfTrial_104 : ftc 104 (me_ci mX0_gainOfTrial) = some (104, .aload_n 0, 1, (0, 0, 0, 0)) := by decide +kernel
theorem fX0_gainOfTrial_105 : ftc 105 (me_ci mX0_gainOfTrial) = some (105, .getfield 15, 3, (0, 0, 277, 0)) := by decide +kernel
theorem fX0_gainOfTrial_108 : ftc 108 (me_ci mX0_gainOfTrial) = some (108, .aload_n 1, 1, (0, 0, 0, 0)) := by decide +kernel
theorem fX0_gainOfTrial_109 : ftc 109 (me_ci mX0_gainOfTrial) = some (109, .iload_n 2, 1, (0, 0, 0, 0)) := by decide +kernel
theorem fX0_gainOfTrial_110 : ftc 110 (me_ci mX0_gainOfTrial) = some (110, .invokevirtual 48, 3, (15, 0, 523, 0)) := by decide +kernel
theorem fX0_gainOfTrial_113 : ftc 113 (me_ci mX0_gainOfTrial) = some (113, .istore 9, 2, (0, 0, 0, 0)) := by decide +kernel
theorem fX0_gainOfTrial_115 : ftc 115 (me_ci mX0_gainOfTrial) = some (115, .aload_n 0, 1, (0, 0, 0, 0)) := by decide +kernel
theorem fX0_gainOfTrial_116 : ftc 116 (me_ci mX0_gainOfTrial) = some (116, .getfield 15, 3, (0, 0, 277, 0)) := by decide +kernel
theorem fX0_gainOfTrial_119 : ftc 119 (me_ci mX0_gainOfTrial) = some (119, .aload_n 1, 1, (0, 0, 0, 0)) := by decide +kernel
theorem fX0_gainOfTrial_120 : ftc 120 (me_ci mX0_gainOfTrial) = some (120, .iload_n 3, 1, (0, 0, 0, 0)) := by decide +kernel
theorem fX0_gainOfTrial_121 : ftc 121 (me_ci mX0_gainOfTrial) = some (121, .invokevirtual 48, 3, (15, 0, 523, 0)) := by decide +kernel
theorem fX0_gainOfTrial_124 : ftc 124 (me_ci mX0_gainOfTrial) = some (124, .istore 10, 2, (0, 0, 0, 0)) := by decide +kernel
theorem fX0_gainOfTrial_126 : ftc 126 (me_ci mX0_gainOfTrial) = some (126, .iload 7, 2, (0, 0, 0, 0)) := by decide +kernel
theorem fX0_gainOfTrial_128 : ftc 128 (me_ci mX0_gainOfTrial) = some (128, .iload 9, 2, (0, 0, 0, 0)) := by decide +kernel
theorem fX0_gainOfTrial_130 : ftc 130 (me_ci mX0_gainOfTrial) = some (130, .iload 10, 2, (0, 0, 0, 0)) := by decide +kernel
theorem fX0_gainOfTrial_132 : ftc 132 (me_ci mX0_gainOfTrial) = some (132, .iload 8, 2, (0, 0, 0, 0)) := by decide +kernel
theorem fX0_gainOfTrial_134 : ftc 134 (me_ci mX0_gainOfTrial) = some (134, .invokestatic 80, 3, (6, 0, 545, 0)) := by decide +kernel
theorem fX0_gainOfTrial_137 : ftc 137 (me_ci mX0_gainOfTrial) = some (137, .iadd, 1, (0, 0, 0, 0)) := by decide +kernel
theorem fX0_gainOfTrial_138 : ftc 138 (me_ci mX0_gainOfTrial) = some (138, .ireturn, 1, (0, 0, 0, 0)) := by decide +kernel
theorem pX0_gainOfTrial : pg 5 = some mX0_gainOfTrial := by decide +kernel
theorem fX0_gainInLastRound_0 : ftc 0 (me_ci mX0_gainInLastRound) = some (0, .iload_n 2, 1, (0, 0, 0, 0)) := by decide +kernel
theorem fX0_gainInLastRound_1 : ftc 1 (me_ci mX0_gainInLastRound) = some (1, .ifCond .le 8, 3, (0, 0, 0, 0)) := by decide +kernel
theorem fX0_gainInLastRound_4 : ftc 4 (me_ci mX0_gainInLastRound) = some (4, .iload_n 0, 1, (0, 0, 0, 0)) := by decide +kernel
theorem fX0_gainInLastRound_5 : ftc 5 (me_ci mX0_gainInLastRound) = some (5, .iload_n 1, 1, (0, 0, 0, 0)) := by decide +kernel
theorem fX0_gainInLastRound_6 : ftc 6 (me_ci mX0_gainInLastRound) = some (6, .if_icmp .ne 5, 3, (0, 0, 0, 0)) := by decide +kernel
theorem fX0_gainInLastRound_9 : ftc 9 (me_ci mX0_gainInLastRound) = some (9, .iconst 0, 1, (0, 0, 0, 0)) := by decide +kernel
theorem fX0_gainInLastRound_10 : ftc 10 (me_ci mX0_gainInLastRound) = some (10, .ireturn, 1, (0, 0, 0, 0)) := by decide +kernel
theorem fX0_gainInLastRound_11 : ftc 11 (me_ci mX0_gainInLastRound) = some (11, .iload_n 0, 1, (0, 0, 0, 0)) := by decide +kernel
theorem fX0_gainInLastRound_12 : ftc 12 (me_ci mX0_gainInLastRound) = some (12, .iload_n 1, 1, (0, 0, 0, 0)) := by decide +kernel
theorem fX0_gainInLastRound_13 : ftc 13 (me_ci mX0_gainInLastRound) = some (13, .if_icmp .le 7, 3, (0, 0, 0, 0)) := by decide +kernel
theorem fX0_gainInLastRound_16 : ftc 16 (me_ci mX0_gainInLastRound) = some (16, .iload_n 2, 1, (0, 0, 0, 0)) := by decide +kernel
theorem fX0_gainInLastRound_17 : ftc 17 (me_ci mX0_gainInLastRound) = some (17, .goto 5, 3, (0, 0, 0, 0)) := by decide +kernel
theorem fX0_gainInLastRound_20 : ftc 20 (me_ci mX0_gainInLastRound) = some (20, .iload_n 2, 1, (0, 0, 0, 0)) := by decide +kernel
theorem fX0_gainInLastRound_21 : ftc 21 (me_ci mX0_gainInLastRound) = some (21, .ineg, 1, (0, 0, 0, 0)) := by decide +kernel
theorem fX0_gainInLastRound_22 : ftc 22 (me_ci mX0_gainInLastRound) = some (22, .ireturn, 1, (0, 0, 0, 0)) := by decide +kernel
theorem pX0_gainInLastRound : pg 6 = some mX0_gainInLastRound := by decide +kernel
theorem fX1_init_0 : ftc 0 (me_ci mX1_init) = some (0, .aload_n 0, 1, (0, 0, 0, 0)) := by decide +kernel
theorem fX1_init_1 : ftc 1 (me_ci mX1_init) = some (1, .invokespecial 3, 3, (51, 5, 0, 0)) := by decide +kernel
theorem fX1_init_4 : ftc 4 (me_ci mX1_init) = some (4, .aload_n 0, 1, (0, 0, 0, 0)) := by decide +kernel
theorem fX1_init_5 : ftc 5 (me_ci mX1_init) = some (5, .iconst 4, 1, (0, 0, 0, 0)) := by decide +kernel
theorem fX1_init_6 : ftc 6 (me_ci mX1_init) = some (6, .anewarray 9, 3, (52, 0, 0, 0)) := by decide +kernel
theorem fX1_init_9 : ftc 9 (me_ci mX1_init) = some (9, .putfield 11, 3, (1, 0, 188, 0)) := by decide +kernel
theorem fX1_init_12 : ftc 12 (me_ci mX1_init) = some (12, .iconst 0, 1, (0, 0, 0, 0)) := by decide +kernel
theorem fX1_init_13 : ftc 13 (me_ci mX1_init) = some (13, .istore_n 1, 1, (0, 0, 0, 0)) := by decide +kernel
theorem fX1_init_14 : ftc 14 (me_ci mX1_init) = some (14, .iload_n 1, 1, (0, 0, 0, 0)) := by decide +kernel
theorem fX1_init_15 : ftc 15 (me_ci mX1_init) = some (15, .iconst 4, 1, (0, 0, 0, 0)) := by decide +kernel
theorem fX1_init_16 : ftc 16 (me_ci mX1_init) = some (16, .if_icmp .ge 22, 3, (0, 0, 0, 0)) := by decide +kernel
theorem fX1_init_19 : ftc 19 (me_ci mX1_init) = some (19, .aload_n 0, 1, (0, 0, 0, 0)) := by decide +kernel
theorem fX1_init_20 : ftc 20 (me_ci mX1_init) = some (20, .getfield 11, 3, (1, 0, 188, 0)) := by decide +kernel
theorem fX1_init_23 : ftc 23 (me_ci mX1_init) = some (23, .iload_n 1, 1, (0, 0, 0, 0)) := by decide +kernel
theorem fX1_init_24 : ftc 24 (me_ci mX1_init) = some (24, .new 9, 3, (5, 17, 52, 0)) := by decide +kernel
theorem fX1_init_27 : ftc 27 (me_ci mX1_init) = some (27, .dup, 1, (0, 0, 0, 0)) := by decide +kernel
theorem fX1_init_28 : ftc 28 (me_ci mX1_init) = some (28, .invokespecial 17, 3, (28, 0, 55, 0)) := by decide +kernel
theorem fX1_init_31 : ftc 31 (me_ci mX1_init) = some (31, .aastore, 1, (0, 0, 0, 0)) := by decide +kernel
theorem fX1_init_32 : ftc 32 (me_ci mX1_init) = some (32, .iinc 1 1, 3, (0, 0, 0, 0)) := by decide +kernel
theorem fX1_init_35 : ftc 35 (me_ci mX1_init) = some (35, .goto (-21), 3, (0, 0, 0, 0)) := by decide +kernel
theorem fX1_init_38 : ftc 38 (me_ci mX1_init) = some (38, .return_, 1, (0, 0, 0, 0)) := by decide +kernel
theorem pX1_init : pg 7 = some mX1_init := by decide +kernel
theorem fX1_add_0 : ftc 0 (me_ci mX1_add) = some (0, .aload_n 0, 1, (0, 0, 0, 0)) := by decide +kernel
theorem fX1_add_1 : ftc 1 (me_ci mX1_add) = some (1, .getfield 18, 3, (1, 1, 189, 0)) := by decide +kernel
theorem fX1_add_4 : ftc 4 (me_ci mX1_add) = some (4, .iconst 4, 1, (0, 0, 0, 0)) := by decide +kernel
theorem fX1_add_5 : ftc 5 (me_ci mX1_add) = some (5, .if_icmp .ge 35, 3, (0, 0, 0, 0)) := by decide +kernel
theorem fX1_add_8 : ftc 8 (me_ci mX1_add) = some (8, .aload_n 0, 1, (0, 0, 0, 0)) := by decide +kernel
theorem fX1_add_9 : ftc 9 (me_ci mX1_add) = some (9, .getfield 11, 3, (1, 0, 188, 0)) := by decide +kernel
theorem fX1_add_12 : ftc 12 (me_ci mX1_add) = some (12, .aload_n 0, 1, (0, 0, 0, 0)) := by decide +kernel
theorem fX1_add_13 : ftc 13 (me_ci mX1_add) = some (13, .getfield 18, 3, (1, 1, 189, 0)) := by decide +kernel
theorem fX1_add_16 : ftc 16 (me_ci mX1_add) = some (16, .aaload, 1, (0, 0, 0, 0)) := by decide +kernel
theorem fX1_add_17 : ftc 17 (me_ci mX1_add) = some (17, .astore_n 2, 1, (0, 0, 0, 0)) := by decide +kernel
theorem fX1_add_18 : ftc 18 (me_ci mX1_add) = some (18, .aload_n 0, 1, (0, 0, 0, 0)) := by decide +kernel
theorem fX1_add_19 : ftc 19 (me_ci mX1_add) = some (19, .getfield 11, 3, (1, 0, 188, 0)) := by decide +kernel
theorem fX1_add_22 : ftc 22 (me_ci mX1_add) = some (22, .aload_n 0, 1, (0, 0, 0, 0)) := by decide +kernel
theorem fX1_add_23 : ftc 23 (me_ci mX1_add) = some (23, .getfield 18, 3, (1, 1, 189, 0)) := by decide +kernel
theorem fX1_add_26 : ftc 26 (me_ci mX1_add) = some (26, .aload_n 1, 1, (0, 0, 0, 0)) := by decide +kernel
theorem fX1_add_27 : ftc 27 (me_ci mX1_add) = some (27, .aastore, 1, (0, 0, 0, 0)) := by decide +kernel
theorem fX1_add_28 : ftc 28 (me_ci mX1_add) = some (28, .aload_n 0, 1, (0, 0, 0, 0)) := by decide +kernel
theorem fX1_add_29 : ftc 29 (me_ci mX1_add) = some (29, .dup, 1, (0, 0, 0, 0)) := by decide +kernel
theorem fX1_add_30 : ftc 30 (me_ci mX1_add) = some (30, .getfield 18, 3, (1, 1, 189, 0)) := by decide +kernel
theorem fX1_add_33 : ftc 33 (me_ci mX1_add) = some (33, .iconst 1, 1, (0, 0, 0, 0)) := by decide +kernel
theorem fX1_add_34 : ftc 34 (me_ci mX1_add) = some (34, .iadd, 1, (0, 0, 0, 0)) := by decide +kernel
theorem fX1_add_35 : ftc 35 (me_ci mX1_add) = some (35, .putfield 18, 3, (1, 1, 189, 0)) := by decide +kernel
theorem fX1_add_38 : ftc 38 (me_ci mX1_add) = some (38, .aload_n 2, 1, (0, 0, 0, 0)) := by decide +kernel
theorem fX1_add_39 : ftc 39 (me_ci mX1_add) = some (39, .areturn, 1, (0, 0, 0, 0)) := by decide +kernel
theorem fX1_add_40 : ftc 40 (me_ci mX1_add) = some (40, .aload_n 0, 1, (0, 0, 0, 0)) := by decide +kernel
theorem fX1_add_41 : ftc 41 (me_ci mX1_add) = some (41, .getfield 11, 3, (1, 0, 188, 0)) := by decide +kernel
theorem fX1_add_44 : ftc 44 (me_ci mX1_add) = some (44, .iconst 0, 1, (0, 0, 0, 0)) := by decide +kernel
theorem fX1_add_45 : ftc 45 (me_ci mX1_add) = some (45, .aaload, 1, (0, 0, 0, 0)) := by decide +kernel
theorem fX1_add_46 : ftc 46 (me_ci mX1_add) = some (46, .astore_n 2, 1, (0, 0, 0, 0)) := by decide +kernel
theorem fX1_add_47 : ftc 47 (me_ci mX1_add) = some (47, .iconst 1, 1, (0, 0, 0, 0)) := by decide +kernel
theorem fX1_add_48 : ftc 48 (me_ci mX1_add) = some (48, .istore_n 3, 1, (0, 0, 0, 0)) := by decide +kernel
theorem fX1_add_49 : ftc 49 (me_ci mX1_add) = some (49, .iload_n 3, 1, (0, 0, 0, 0)) := by decide +kernel
theorem fX1_add_50 : ftc 50 (me_ci mX1_add) = some (50, .iconst 4, 1, (0, 0, 0, 0)) := by decide +kernel
theorem fX1_add_51 : ftc 51 (me_ci mX1_add) = some (51, .if_icmp .ge 23, 3, (0, 0, 0, 0)) := by decide +kernel
theorem fX1_add_54 : ftc 54 (me_ci mX1_add) = some (54, .aload_n 0, 1, (0, 0, 0, 0)) := by decide +kernel
theorem fX1_add_55 : ftc 55 (me_ci mX1_add) = some (55, .getfield 11, 3, (1, 0, 188, 0)) := by decide +kernel
theorem fX1_add_58 : ftc 58 (me_ci mX1_add) = some (58, .iload_n 3, 1, (0, 0, 0, 0)) := by decide +kernel
theorem fX1_add_59 : ftc 59 (me_ci mX1_add) = some (59, .iconst 1, 1, (0, 0, 0, 0)) := by decide +kernel
theorem fX1_add_60 : ftc 60 (me_ci mX1_add) = some (60, .isub, 1, (0, 0, 0, 0)) := by decide +kernel
theorem fX1_add_61 : ftc 61 (me_ci mX1_add) = some (61, .aload_n 0, 1, (0, 0, 0, 0)) := by decide +kernel
theorem fX1_add_62 : ftc 62 (me_ci mX1_add) = some (62, .getfield 11, 3, (1, 0, 188, 0)) := by decide +kernel
theorem fX1_add_65 : ftc 65 (me_ci mX1_add) = some (65, .iload_n 3, 1, (0, 0, 0, 0)) := by decide +kernel
theorem fX1_add_66 : ftc 66 (me_ci mX1_add) = some (66, .aaload, 1, (0, 0, 0, 0)) := by decide +kernel
theorem fX1_add_67 : ftc 67 (me_ci mX1_add) = some (67, .aastore, 1, (0, 0, 0, 0)) := by decide +kernel
theorem fX1_add_68 : ftc 68 (me_ci mX1_add) = some (68, .iinc 3 1, 3, (0, 0, 0, 0)) := by decide +kernel
theorem fX1_add_71 : ftc 71 (me_ci mX1_add) = some (71, .goto (-22), 3, (0, 0, 0, 0)) := by decide +kernel
theorem fX1_add_74 : ftc 74 (me_ci mX1_add) = some (74, .aload_n 0, 1, (0, 0, 0, 0)) := by decide +kernel
theorem fX1_add_75 : ftc 75 (me_ci mX1_add) = some (75, .getfield 11, 3, (1, 0, 188, 0)) := by decide +kernel
theorem fX1_add_78 : ftc 78 (me_ci mX1_add) = some (78, .iconst 3, 1, (0, 0, 0, 0)) := by decide +kernel
theorem fX1_add_79 : ftc 79 (me_ci mX1_add) = some (79, .aload_n 1, 1, (0, 0, 0, 0)) := by decide +kernel
theorem fX1_add_80 : ftc 80 (me_ci mX1_add) = some (80, .aastore, 1, (0, 0, 0, 0)) := by decide +kernel
theorem fX1_add_81 : ftc 81 (me_ci mX1_add) = some (81, .aload_n 2, 1, (0, 0, 0, 0)) := by decide +kernel
theorem fX1_add_82 : ftc 82 (me_ci mX1_add) = some (82, .areturn, 1, (0, 0, 0, 0)) := by decide +kernel
theorem pX1_add : pg 8 = some mX1_add := by decide +kernel
theorem fX1_takeLatest_0 : ftc 0 (me_ci mX1_takeLatest) = some (0, .aload_n 0, 1, (0, 0, 0, 0)) := by decide +kernel
theorem fX1_takeLatest_1 : ftc 1 (me_ci mX1_takeLatest) = some (1, .getfield 18, 3, (1, 1, 189, 0)) := by decide +kernel
theorem fX1_takeLatest_4 : ftc 4 (me_ci mX1_takeLatest) = some (4, .iconst 1, 1, (0, 0, 0, 0)) := by decide +kernel
theorem fX1_takeLatest_5 : ftc 5 (me_ci mX1_takeLatest) = some (5, .if_icmp .ge 5, 3, (0, 0, 0, 0)) := by decide +kernel
theorem fX1_takeLatest_8 : ftc 8 (me_ci mX1_takeLatest) = some (8, .aload_n 1, 1, (0, 0, 0, 0)) := by decide +kernel
theorem fX1_takeLatest_9 : ftc 9 (me_ci mX1_takeLatest) = some (9, .areturn, 1, (0, 0, 0, 0)) := by decide +kernel
theorem fX1_takeLatest_10 : ftc 10 (me_ci mX1_takeLatest) = some (10, .aload_n 0, 1, (0, 0, 0, 0)) := by decide +kernel
theorem fX1_takeLatest_11 : ftc 11 (me_ci mX1_takeLatest) = some (11, .dup, 1, (0, 0, 0, 0)) := by decide +kernel
theorem fX1_takeLatest_12 : ftc 12 (me_ci mX1_takeLatest) = some (12, .getfield 18, 3, (1, 1, 189, 0)) := by decide +kernel
theorem fX1_takeLatest_15 : ftc 15 (me_ci mX1_takeLatest) = some (15, .iconst 1, 1, (0, 0, 0, 0)) := by decide +kernel
theorem fX1_takeLatest_16 : ftc 16 (me_ci mX1_takeLatest) = some (16, .isub, 1, (0, 0, 0, 0)) := by decide +kernel
theorem fX1_takeLatest_17 : ftc 17 (me_ci mX1_takeLatest) = some (17, .putfield 18, 3, (1, 1, 189, 0)) := by decide +kernel
theorem fX1_takeLatest_20 : ftc 20 (me_ci mX1_takeLatest) = some (20, .aload_n 0, 1, (0, 0, 0, 0)) := by decide +kernel
theorem fX1_takeLatest_21 : ftc 21 (me_ci mX1_takeLatest) = some (21, .getfield 11, 3, (1, 0, 188, 0)) := by decide +kernel
theorem fX1_takeLatest_24 : ftc 24 (me_ci mX1_takeLatest) = some (24, .aload_n 0, 1, (0, 0, 0, 0)) := by decide +kernel
theorem fX1_takeLatest_25 : ftc 25 (me_ci mX1_takeLatest) = some (25, .getfield 18, 3, (1, 1, 189, 0)) := by decide +kernel
theorem fX1_takeLatest_28 : ftc 28 (me_ci mX1_takeLatest) = some (28, .aaload, 1, (0, 0, 0, 0)) := by decide +kernel
theorem fX1_takeLatest_29 : ftc 29 (me_ci mX1_takeLatest) = some (29, .astore_n 2, 1, (0, 0, 0, 0)) := by decide +kernel
theorem fX1_takeLatest_30 : ftc 30 (me_ci mX1_takeLatest) = some (30, .aload_n 0, 1, (0, 0, 0, 0)) := by decide +kernel
theorem fX1_takeLatest_31 : ftc 31 (me_ci mX1_takeLatest) = some (31, .getfield 11, 3, (1, 0, 188, 0)) := by decide +kernel
theorem fX1_takeLatest_34 : ftc 34 (me_ci mX1_takeLatest) = some (34, .aload_n 0, 1, (0, 0, 0, 0)) := by decide +kernel
theorem fX1_takeLatest_35 : ftc 35 (me_ci mX1_takeLatest) = some (35, .getfield 18, 3, (1, 1, 189, 0)) := by decide +kernel
theorem fX1_takeLatest_38 : ftc 38 (me_ci mX1_takeLatest) = some (38, .aload_n 1, 1, (0, 0, 0, 0)) := by decide +kernel
theorem fX1_takeLatest_39 : ftc 39 (me_ci mX1_takeLatest) = some (39, .aastore, 1, (0, 0, 0, 0)) := by decide +kernel
theorem fX1_takeLatest_40 : ftc 40 (me_ci mX1_takeLatest) = some (40, .aload_n 2, 1, (0, 0, 0, 0)) := by decide +kernel
theorem fX1_takeLatest_41 : ftc 41 (me_ci mX1_takeLatest) = some (41, .areturn, 1, (0, 0, 0, 0)) := by decide +kernel
theorem pX1_takeLatest : pg 9 = some mX1_takeLatest := by decide +kernel
theorem fX2_init_0 : ftc 0 (me_ci mX2_init) = some (0, .aload_n 0, 1, (0, 0, 0, 0)) := by decide +kernel
theorem fX2_init_1 : ftc 1 (me_ci mX2_init) = some (1, .invokespecial 3, 3, (243, 5, 0, 0)) := by decide +kernel
theorem fX2_init_4 : ftc 4 (me_ci mX2_init) = some (4, .aload_n 0, 1, (0, 0, 0, 0)) := by decide +kernel
theorem fX2_init_5 : ftc 5 (me_ci mX2_init) = some (5, .iconst 4, 1, (0, 0, 0, 0)) := by decide +kernel
theorem fX2_init_6 : ftc 6 (me_ci mX2_init) = some (6, .newarray .int, 2, (0, 0, 0, 0)) := by decide +kernel
theorem fX2_init_8 : ftc 8 (me_ci mX2_init) = some (8, .putfield 9, 3, (2, 4, 254, 0)) := by decide +kernel
theorem fX2_init_11 : ftc 11 (me_ci mX2_init) = some (11, .aload_n 0, 1, (0, 0, 0, 0)) := by decide +kernel
theorem fX2_init_12 : ftc 12 (me_ci mX2_init) = some (12, .iconst 4, 1, (0, 0, 0, 0)) := by decide +kernel
theorem fX2_init_13 : ftc 13 (me_ci mX2_init) = some (13, .newarray .int, 2, (0, 0, 0, 0)) := by decide +kernel
theorem fX2_init_15 : ftc 15 (me_ci mX2_init) = some (15, .putfield 15, 3, (2, 5, 256, 0)) := by decide +kernel
theorem fX2_init_18 : ftc 18 (me_ci mX2_init) = some (18, .return_, 1, (0, 0, 0, 0)) := by decide +kernel
theorem pX2_init : pg 10 = some mX2_init := by decide +kernel
theorem fX2_work_0 : ftc 0 (me_ci mX2_work) = some (0, .aload_n 0, 1, (0, 0, 0, 0)) := by decide +kernel
theorem fX2_work_1 : ftc 1 (me_ci mX2_work) = some (1, .aload_n 1, 1, (0, 0, 0, 0)) := by decide +kernel
theorem fX2_work_2 : ftc 2 (me_ci mX2_work) = some (2, .getfield 18, 3, (5, 0, 122, 0)) := by decide +kernel
theorem fX2_work_5 : ftc 5 (me_ci mX2_work) = some (5, .aload_n 2, 1, (0, 0, 0, 0)) := by decide +kernel
theorem fX2_work_6 : ftc 6 (me_ci mX2_work) = some (6, .invokevirtual 24, 3, (12, 0, 386, 0)) := by decide +kernel
theorem fX2_work_9 : ftc 9 (me_ci mX2_work) = some (9, .aload_n 0, 1, (0, 0, 0, 0)) := by decide +kernel
theorem fX2_work_10 : ftc 10 (me_ci mX2_work) = some (10, .aload_n 1, 1, (0, 0, 0, 0)) := by decide +kernel
theorem fX2_work_11 : ftc 11 (me_ci mX2_work) = some (11, .getfield 28, 3, (5, 1, 125, 0)) := by decide +kernel
theorem fX2_work_14 : ftc 14 (me_ci mX2_work) = some (14, .putfield 31, 3, (2, 3, 252, 0)) := by decide +kernel
theorem fX2_work_17 : ftc 17 (me_ci mX2_work) = some (17, .iconst 0, 1, (0, 0, 0, 0)) := by decide +kernel
theorem fX2_work_18 : ftc 18 (me_ci mX2_work) = some (18, .istore_n 3, 1, (0, 0, 0, 0)) := by decide +kernel
theorem fX2_work_19 : ftc 19 (me_ci mX2_work) = some (19, .iload_n 3, 1, (0, 0, 0, 0)) := by decide +kernel
theorem fX2_work_20 : ftc 20 (me_ci mX2_work) = some (20, .aload_n 1, 1, (0, 0, 0, 0)) := by decide +kernel
theorem fX2_work_21 : ftc 21 (me_ci mX2_work) = some (21, .getfield 18, 3, (5, 0, 122, 0)) := by decide +kernel
theorem fX2_work_24 : ftc 24 (me_ci mX2_work) = some (24, .if_icmp .ge 49, 3, (0, 0, 0, 0)) := by decide +kernel
theorem fX2_work_27 : ftc 27 (me_ci mX2_work) = some (27, .aload_n 0, 1, (0, 0, 0, 0)) := by decide +kernel
theorem fX2_work_28 : ftc 28 (me_ci mX2_work) = some (28, .getfield 9, 3, (2, 4, 254, 0)) := by decide +kernel
theorem fX2_work_31 : ftc 31 (me_ci mX2_work) = some (31, .iload_n 3, 1, (0, 0, 0, 0)) := by decide +kernel
theorem fX2_work_32 : ftc 32 (me_ci mX2_work) = some (32, .aload_n 0, 1, (0, 0, 0, 0)) := by decide +kernel
theorem fX2_work_33 : ftc 33 (me_ci mX2_work) = some (33, .aload_n 1, 1, (0, 0, 0, 0)) := by decide +kernel
theorem fX2_work_34 : ftc 34 (me_ci mX2_work) = some (34, .getfield 32, 3, (5, 13, 146, 0)) := by decide +kernel
theorem fX2_work_37 : ftc 37 (me_ci mX2_work) = some (37, .iload_n 3, 1, (0, 0, 0, 0)) := by decide +kernel
theorem fX2_work_38 : ftc 38 (me_ci mX2_work) = some (38, .aload_n 2, 1, (0, 0, 0, 0)) := by decide +kernel
theorem fX2_work_39 : ftc 39 (me_ci mX2_work) = some (39, .iload_n 3, 1, (0, 0, 0, 0)) := by decide +kernel
theorem fX2_work_40 : ftc 40 (me_ci mX2_work) = some (40, .iaload, 1, (0, 0, 0, 0)) := by decide +kernel
theorem fX2_work_41 : ftc 41 (me_ci mX2_work) = some (41, .invokevirtual 35, 3, (13, 0, 390, 0)) := by decide +kernel
theorem fX2_work_44 : ftc 44 (me_ci mX2_work) = some (44, .iastore, 1, (0, 0, 0, 0)) := by decide +kernel
theorem fX2_work_45 : ftc 45 (me_ci mX2_work) = some (45, .aload_n 0, 1, (0, 0, 0, 0)) := by decide +kernel
theorem fX2_work_46 : ftc 46 (me_ci mX2_work) = some (46, .getfield 15, 3, (2, 5, 256, 0)) := by decide +kernel
theorem fX2_work_49 : ftc 49 (me_ci mX2_work) = some (49, .iload_n 3, 1, (0, 0, 0, 0)) := by decide +kernel
theorem fX2_work_50 : ftc 50 (me_ci mX2_work) = some (50, .iconst 0, 1, (0, 0, 0, 0)) := by decide +kernel
theorem fX2_work_51 : ftc 51 (me_ci mX2_work) = some (51, .iastore, 1, (0, 0, 0, 0)) := by decide +kernel
theorem fX2_work_52 : ftc 52 (me_ci mX2_work) = some (52, .aload_n 0, 1, (0, 0, 0, 0)) := by decide +kernel
theorem fX2_work_53 : ftc 53 (me_ci mX2_work) = some (53, .dup, 1, (0, 0, 0, 0)) := by decide +kernel
theorem fX2_work_54 : ftc 54 (me_ci mX2_work) = some (54, .getfield 31, 3, (2, 3, 252, 0)) := by decide +kernel
theorem fX2_work_57 : ftc 57 (me_ci mX2_work) = some (57, .aload_n 0, 1, (0, 0, 0, 0)) := by decide +kernel
theorem fX2_work_58 : ftc 58 (me_ci mX2_work) = some (58, .getfield 9, 3, (2, 4, 254, 0)) := by decide +kernel
theorem fX2_work_61 : ftc 61 (me_ci mX2_work) = some (61, .iload_n 3, 1, (0, 0, 0, 0)) := by decide +kernel
theorem fX2_work_62 : ftc 62 (me_ci mX2_work) = some (62, .iaload, 1, (0, 0, 0, 0)) := by decide +kernel
theorem fX2_work_63 : ftc 63 (me_ci mX2_work) = some (63, .iadd, 1, (0, 0, 0, 0)) := by decide +kernel
theorem fX2_work_64 : ftc 64 (me_ci mX2_work) = some (64, .putfield 31, 3, (2, 3, 252, 0)) := by decide +kernel
theorem fX2_work_67 : ftc 67 (me_ci mX2_work) = some (67, .iinc 3 1, 3, (0, 0, 0, 0)) := by decide +kernel
theorem fX2_work_70 : ftc 70 (me_ci mX2_work) = some (70, .goto (-51), 3, (0, 0, 0, 0)) := by decide +kernel
theorem fX2_work_73 : ftc 73 (me_ci mX2_work) = some (73, .aload_n 0, 1, (0, 0, 0, 0)) := by decide +kernel
theorem fX2_work_74 : ftc 74 (me_ci mX2_work) = some (74, .getfield 39, 3, (2, 0, 245, 0)) := by decide +kernel
theorem fX2_work_77 : ftc 77 (me_ci mX2_work) = some (77, .iconst (-1), 1, (0, 0, 0, 0)) := by decide +kernel
theorem fX2_work_78 : ftc 78 (me_ci mX2_work) = some (78, .if_icmp .eq 21, 3, (0, 0, 0, 0)) := by decide +kernel
theorem fX2_work_81 : ftc 81 (me_ci mX2_work) = some (81, .aload_n 1, 1, (0, 0, 0, 0)) := by decide +kernel
theorem fX2_work_82 : ftc 82 (me_ci mX2_work) = some (82, .getfield 32, 3, (5, 13, 146, 0)) := by decide +kernel
theorem fX2_work_85 : ftc 85 (me_ci mX2_work) = some (85, .iconst 2, 1, (0, 0, 0, 0)) := by decide +kernel
theorem fX2_work_86 : ftc 86 (me_ci mX2_work) = some (86, .iaload, 1, (0, 0, 0, 0)) := by decide +kernel
theorem fX2_work_87 : ftc 87 (me_ci mX2_work) = some (87, .iconst 1, 1, (0, 0, 0, 0)) := by decide +kernel
theorem fX2_work_88 : ftc 88 (me_ci mX2_work) = some (88, .if_icmp .ne 11, 3, (0, 0, 0, 0)) := by decide +kernel
theorem fX2_work_91 : ftc 91 (me_ci mX2_work) = some (91, .aload_n 0, 1, (0, 0, 0, 0)) := by decide +kernel
theorem fX2_work_92 : ftc 92 (me_ci mX2_work) = some (92, .aload_n 1, 1, (0, 0, 0, 0)) := by decide +kernel
theorem fX2_work_93 : ftc 93 (me_ci mX2_work) = some (93, .getfield 18, 3, (5, 0, 122, 0)) := by decide +kernel
theorem fX2_work_96 : ftc 96 (me_ci mX2_work) = some (96, .invokevirtual 42, 3, (14, 0, 397, 0)) := by decide +kernel
theorem fX2_work_99 : ftc 99 (me_ci mX2_work) = some (99, .return_, 1, (0, 0, 0, 0)) := by decide +kernel
theorem pX2_work : pg 11 = some mX2_work := by decide +kernel
theorem fX2_findWinner_0 : ftc 0 (me_ci mX2_findWinner) = some (0, .aload_n 0, 1, (0, 0, 0, 0)) := by decide +kernel
theorem fX2_findWinner_1 : ftc 1 (me_ci mX2_findWinner) = some (1, .iconst (-1), 1, (0, 0, 0, 0)) := by decide +kernel
theorem fX2_findWinner_2 : ftc 2 (me_ci mX2_findWinner) = some (2, .putfield 46, 3, (2, 1, 248, 0)) := by decide +kernel
theorem fX2_findWinner_5 : ftc 5 (me_ci mX2_findWinner) = some (5, .aload_n 0, 1, (0, 0, 0, 0)) := by decide +kernel
theorem fX2_findWinner_6 : ftc 6 (me_ci mX2_findWinner) = some (6, .iconst 0, 1, (0, 0, 0, 0)) := by decide +kernel
theorem fX2_findWinner_7 : ftc 7 (me_ci mX2_findWinner) = some (7, .putfield 49, 3, (2, 2, 250, 0)) := by decide +kernel
theorem fX2_findWinner_10 : ftc 10 (me_ci mX2_findWinner) = some (10, .aload_n 0, 1, (0, 0, 0, 0)) := by decide +kernel
theorem fX2_findWinner_11 : ftc 11 (me_ci mX2_findWinner) = some (11, .iconst (-1), 1, (0, 0, 0, 0)) := by decide +kernel
theorem fX2_findWinner_12 : ftc 12 (me_ci mX2_findWinner) = some (12, .putfield 39, 3, (2, 0, 245, 0)) := by decide +kernel
theorem fX2_findWinner_15 : ftc 15 (me_ci mX2_findWinner) = some (15, .iconst 0, 1, (0, 0, 0, 0)) := by decide +kernel
theorem fX2_findWinner_16 : ftc 16 (me_ci mX2_findWinner) = some (16, .istore_n 3, 1, (0, 0, 0, 0)) := by decide +kernel
theorem fX2_findWinner_17 : ftc 17 (me_ci mX2_findWinner) = some (17, .iload_n 3, 1, (0, 0, 0, 0)) := by decide +kernel
theorem fX2_findWinner_18 : ftc 18 (me_ci mX2_findWinner) = some (18, .iload_n 1, 1, (0, 0, 0, 0)) := by decide +kernel
theorem fX2_findWinner_19 : ftc 19 (me_ci mX2_findWinner) = some (19, .if_icmp .ge 64, 3, (0, 0, 0, 0)) := by decide +kernel
theorem fX2_findWinner_22 : ftc 22 (me_ci mX2_findWinner) = some (22, .aload_n 2, 1, (0, 0, 0, 0)) := by decide +kernel
theorem fX2_findWinner_23 : ftc 23 (me_ci mX2_findWinner) = some (23, .iload_n 3, 1, (0, 0, 0, 0)) := by decide +kernel
theorem fX2_findWinner_24 : ftc 24 (me_ci mX2_findWinner) = some (24, .iaload, 1, (0, 0, 0, 0)) := by decide +kernel
theorem fX2_findWinner_25 : ftc 25 (me_ci mX2_findWinner) = some (25, .aload_n 0, 1, (0, 0, 0, 0)) := by decide +kernel
theorem fX2_findWinner_26 : ftc 26 (me_ci mX2_findWinner) = some (26, .getfield 46, 3, (2, 1, 248, 0)) := by decide +kernel
theorem fX2_findWinner_29 : ftc 29 (me_ci mX2_findWinner) = some (29, .if_icmp .le 23, 3, (0, 0, 0, 0)) := by decide +kernel
theorem fX2_findWinner_32 : ftc 32 (me_ci mX2_findWinner) = some (32, .aload_n 0, 1, (0, 0, 0, 0)) := by decide +kernel
theorem fX2_findWinner_33 : ftc 33 (me_ci mX2_findWinner) = some (33, .aload_n 2, 1, (0, 0, 0, 0)) := by decide +kernel
theorem fX2_findWinner_34 : ftc 34 (me_ci mX2_findWinner) = some (34, .iload_n 3, 1, (0, 0, 0, 0)) := by decide +kernel
theorem fX2_findWinner_35 : ftc 35 (me_ci mX2_findWinner) = some (35, .iaload, 1, (0, 0, 0, 0)) := by decide +kernel
theorem fX2_findWinner_36 : ftc 36 (me_ci mX2_findWinner) = some (36, .putfield 46, 3, (2, 1, 248, 0)) := by decide +kernel
theorem fX2_findWinner_39 : ftc 39 (me_ci mX2_findWinner) = some (39, .aload_n 0, 1, (0, 0, 0, 0)) := by decide +kernel
theorem fX2_findWinner_40 : ftc 40 (me_ci mX2_findWinner) = some (40, .iconst 1, 1, (0, 0, 0, 0)) := by decide +kernel
theorem fX2_findWinner_41 : ftc 41 (me_ci mX2_findWinner) = some (41, .putfield 49, 3, (2, 2, 250, 0)) := by decide +kernel
theorem fX2_findWinner_44 : ftc 44 (me_ci mX2_findWinner) = some (44, .aload_n 0, 1, (0, 0, 0, 0)) := by decide +kernel
theorem fX2_findWinner_45 : ftc 45 (me_ci mX2_findWinner) = some (45, .iload_n 3, 1, (0, 0, 0, 0)) := by decide +kernel
theorem fX2_findWinner_46 : ftc 46 (me_ci mX2_findWinner) = some (46, .putfield 39, 3, (2, 0, 245, 0)) := by decide +kernel
theorem fX2_findWinner_49 : ftc 49 (me_ci mX2_findWinner) = some (49, .goto 28, 3, (0, 0, 0, 0)) := by decide +kernel
theorem fX2_findWinner_52 : ftc 52 (me_ci mX2_findWinner) = some (52, .aload_n 2, 1, (0, 0, 0, 0)) := by decide +kernel
theorem fX2_findWinner_53 : ftc 53 (me_ci mX2_findWinner) = some (53, .iload_n 3, 1, (0, 0, 0, 0)) := by decide +kernel
theorem fX2_findWinner_54 : ftc 54 (me_ci mX2_findWinner) = some (54, .iaload, 1, (0, 0, 0, 0)) := by decide +kernel
theorem fX2_findWinner_55 : ftc 55 (me_ci mX2_findWinner) = some (55, .aload_n 0, 1, (0, 0, 0, 0)) := by decide +kernel
theorem fX2_findWinner_56 : ftc 56 (me_ci mX2_findWinner) = some (56, .getfield 46, 3, (2, 1, 248, 0)) := by decide +kernel
theorem fX2_findWinner_59 : ftc 59 (me_ci mX2_findWinner) = some (59, .if_icmp .ne 18, 3, (0, 0, 0, 0)) := by decide +kernel
theorem fX2_findWinner_62 : ftc 62 (me_ci mX2_findWinner) = some (62, .aload_n 0, 1, (0, 0, 0, 0)) := by decide +kernel
theorem fX2_findWinner_63 : ftc 63 (me_ci mX2_findWinner) = some (63, .dup, 1, (0, 0, 0, 0)) := by decide +kernel
theorem fX2_findWinner_64 : ftc 64 (me_ci mX2_findWinner) = some (64, .getfield 49, 3, (2, 2, 250, 0)) := by decide +kernel
theorem fX2_findWinner_67 : ftc 67 (me_ci mX2_findWinner) = some (67, .iconst 1, 1, (0, 0, 0, 0)) := by decide +kernel
theorem fX2_findWinner_68 : ftc 68 (me_ci mX2_findWinner) = some (68, .iadd, 1, (0, 0, 0, 0)) := by decide +kernel
theorem fX2_findWinner_69 : ftc 69 (me_ci mX2_findWinner) = some (69, .putfield 49, 3, (2, 2, 250, 0)) := by decide +kernel
theorem fX2_findWinner_72 : ftc 72 (me_ci mX2_findWinner) = some (72, .aload_n 0, 1, (0, 0, 0, 0)) := by decide +kernel
theorem fX2_findWinner_73 : ftc 73 (me_ci mX2_findWinner) = some (73, .iconst (-1), 1, (0, 0, 0, 0)) := by decide +kernel
theorem fX2_findWinner_74 : ftc 74 (me_ci mX2_findWinner) = some (74, .putfield 39, 3, (2, 0, 245, 0)) := by decide +kernel
theorem fX2_findWinner_77 : ftc 77 (me_ci mX2_findWinner) = some (77, .iinc 3 1, 3, (0, 0, 0, 0)) := by decide +kernel
theorem fX2_findWinner_80 : ftc 80 (me_ci mX2_findWinner) = some (80, .goto (-63), 3, (0, 0, 0, 0)) := by decide +kernel
theorem fX2_findWinner_83 : ftc 83 (me_ci mX2_findWinner) = some (83, .return_, 1, (0, 0, 0, 0)) := by decide +kernel
theorem pX2_findWinner : pg 12 = some mX2_findWinner := by decide +kernel
theorem fX2_payment_0 : ftc 0 (me_ci mX2_payment) = some (0, .iload_n 2, 1, (0, 0, 0, 0)) := by decide +kernel
theorem fX2_payment_1 : ftc 1 (me_ci mX2_payment) = some (1, .aload_n 0, 1, (0, 0, 0, 0)) := by decide +kernel
theorem fX2_payment_2 : ftc 2 (me_ci mX2_payment) = some (2, .getfield 39, 3, (2, 0, 245, 0)) := by decide +kernel
theorem fX2_payment_5 : ftc 5 (me_ci mX2_payment) = some (5, .if_icmp .ne 5, 3, (0, 0, 0, 0)) := by decide +kernel
theorem fX2_payment_8 : ftc 8 (me_ci mX2_payment) = some (8, .iload_n 3, 1, (0, 0, 0, 0)) := by decide +kernel
theorem fX2_payment_9 : ftc 9 (me_ci mX2_payment) = some (9, .ireturn, 1, (0, 0, 0, 0)) := by decide +kernel
theorem fX2_payment_10 : ftc 10 (me_ci mX2_payment) = some (10, .aload_n 0, 1, (0, 0, 0, 0)) := by decide +kernel
theorem fX2_payment_11 : ftc 11 (me_ci mX2_payment) = some (11, .getfield 39, 3, (2, 0, 245, 0)) := by decide +kernel
theorem fX2_payment_14 : ftc 14 (me_ci mX2_payment) = some (14, .iconst (-1), 1, (0, 0, 0, 0)) := by decide +kernel
theorem fX2_payment_15 : ftc 15 (me_ci mX2_payment) = some (15, .if_icmp .eq 11, 3, (0, 0, 0, 0)) := by decide +kernel
theorem fX2_payment_18 : ftc 18 (me_ci mX2_payment) = some (18, .aload_n 1, 1, (0, 0, 0, 0)) := by decide +kernel
theorem fX2_payment_19 : ftc 19 (me_ci mX2_payment) = some (19, .iconst 1, 1, (0, 0, 0, 0)) := by decide +kernel
theorem fX2_payment_20 : ftc 20 (me_ci mX2_payment) = some (20, .iaload, 1, (0, 0, 0, 0)) := by decide +kernel
theorem fX2_payment_21 : ftc 21 (me_ci mX2_payment) = some (21, .iload_n 3, 1, (0, 0, 0, 0)) := by decide +kernel
theorem fX2_payment_22 : ftc 22 (me_ci mX2_payment) = some (22, .invokestatic 52, 3, (394, 4, 0, 0)) := by decide +kernel
theorem fX2_payment_25 : ftc 25 (me_ci mX2_payment) = some (25, .ireturn, 1, (0, 0, 0, 0)) := by decide +kernel
theorem fX2_payment_26 : ftc 26 (me_ci mX2_payment) = some (26, .iload_n 3, 1, (0, 0, 0, 0)) := by decide +kernel
theorem fX2_payment_27 : ftc 27 (me_ci mX2_payment) = some (27, .aload_n 0, 1, (0, 0, 0, 0)) := by decide +kernel
theorem fX2_payment_28 : ftc 28 (me_ci mX2_payment) = some (28, .getfield 46, 3, (2, 1, 248, 0)) := by decide +kernel
theorem fX2_payment_31 : ftc 31 (me_ci mX2_payment) = some (31, .if_icmp .ne 13, 3, (0, 0, 0, 0)) := by decide +kernel
theorem fX2_payment_34 : ftc 34 (me_ci mX2_payment) = some (34, .aload_n 1, 1, (0, 0, 0, 0)) := by decide +kernel
theorem fX2_payment_35 : ftc 35 (me_ci mX2_payment) = some (35, .iconst 0, 1, (0, 0, 0, 0)) := by decide +kernel
theorem fX2_payment_36 : ftc 36 (me_ci mX2_payment) = some (36, .iaload, 1, (0, 0, 0, 0)) := by decide +kernel
theorem fX2_payment_37 : ftc 37 (me_ci mX2_payment) = some (37, .iload_n 3, 1, (0, 0, 0, 0)) := by decide +kernel
theorem fX2_payment_38 : ftc 38 (me_ci mX2_payment) = some (38, .invokestatic 52, 3, (394, 4, 0, 0)) := by decide +kernel
theorem fX2_payment_41 : ftc 41 (me_ci mX2_payment) = some (41, .goto 4, 3, (0, 0, 0, 0)) := by decide +kernel
theorem fX2_payment_44 : ftc 44 (me_ci mX2_payment) = some (44, .iconst 0, 1, (0, 0, 0, 0)) := by decide +kernel
theorem fX2_payment_45 : ftc 45 (me_ci mX2_payment) = some (45, .ireturn, 1, (0, 0, 0, 0)) := by decide +kernel
theorem pX2_payment : pg 13 = some mX2_payment := by decide +kernel
theorem fX2_sharePot_0 : ftc 0 (me_ci mX2_sharePot) = some (0, .iload_n 1, 1, (0, 0, 0, 0)) := by decide +kernel
theorem fX2_sharePot_1 : ftc 1 (me_ci mX2_sharePot) = some (1, .iconst 1, 1, (0, 0, 0, 0)) := by decide +kernel
theorem fX2_sharePot_2 : ftc 2 (me_ci mX2_sharePot) = some (2, .isub, 1, (0, 0, 0, 0)) := by decide +kernel
theorem fX2_sharePot_3 : ftc 3 (me_ci mX2_sharePot) = some (3, .istore_n 2, 1, (0, 0, 0, 0)) := by decide +kernel
theorem fX2_sharePot_4 : ftc 4 (me_ci mX2_sharePot) = some (4, .iload_n 2, 1, (0, 0, 0, 0)) := by decide +kernel
theorem fX2_sharePot_5 : ftc 5 (me_ci mX2_sharePot) = some (5, .iconst 1, 1, (0, 0, 0, 0)) := by decide +kernel
theorem fX2_sharePot_6 : ftc 6 (me_ci mX2_sharePot) = some (6, .if_icmp .ge 4, 3, (0, 0, 0, 0)) := by decide +kernel
theorem fX2_sharePot_9 : ftc 9 (me_ci mX2_sharePot) = some (9, .return_, 1, (0, 0, 0, 0)) := by decide +kernel
theorem fX2_sharePot_10 : ftc 10 (me_ci mX2_sharePot) = some (10, .aload_n 0, 1, (0, 0, 0, 0)) := by decide +kernel
theorem fX2_sharePot_11 : ftc 11 (me_ci mX2_sharePot) = some (11, .getfield 31, 3, (2, 3, 252, 0)) := by decide +kernel
theorem fX2_sharePot_14 : ftc 14 (me_ci mX2_sharePot) = some (14, .iload_n 2, 1, (0, 0, 0, 0)) := by decide +kernel
theorem fX2_sharePot_15 : ftc 15 (me_ci mX2_sharePot) = some (15, .idiv, 1, (0, 0, 0, 0)) := by decide +kernel
theorem fX2_sharePot_16 : ftc 16 (me_ci mX2_sharePot) = some (16, .istore_n 3, 1, (0, 0, 0, 0)) := by decide +kernel
theorem fX2_sharePot_17 : ftc 17 (me_ci mX2_sharePot) = some (17, .iconst 0, 1, (0, 0, 0, 0)) := by decide +kernel
theorem fX2_sharePot_18 : ftc 18 (me_ci mX2_sharePot) = some (18, .istore 4, 2, (0, 0, 0, 0)) := by decide +kernel
theorem fX2_sharePot_20 : ftc 20 (me_ci mX2_sharePot) = some (20, .iload 4, 2, (0, 0, 0, 0)) := by decide +kernel
theorem fX2_sharePot_22 : ftc 22 (me_ci mX2_sharePot) = some (22, .iload_n 1, 1, (0, 0, 0, 0)) := by decide +kernel
theorem fX2_sharePot_23 : ftc 23 (me_ci mX2_sharePot) = some (23, .if_icmp .ge 26, 3, (0, 0, 0, 0)) := by decide +kernel
theorem fX2_sharePot_26 : ftc 26 (me_ci mX2_sharePot) = some (26, .iload 4, 2, (0, 0, 0, 0)) := by decide +kernel
theorem fX2_sharePot_28 : ftc 28 (me_ci mX2_sharePot) = some (28, .aload_n 0, 1, (0, 0, 0, 0)) := by decide +kernel
theorem fX2_sharePot_29 : ftc 29 (me_ci mX2_sharePot) = some (29, .getfield 39, 3, (2, 0, 245, 0)) := by decide +kernel
theorem fX2_sharePot_32 : ftc 32 (me_ci mX2_sharePot) = some (32, .if_icmp .eq 11, 3, (0, 0, 0, 0)) := by decide +kernel
theorem fX2_sharePot_35 : ftc 35 (me_ci mX2_sharePot) = some (35, .aload_n 0, 1, (0, 0, 0, 0)) := by decide +kernel
theorem fX2_sharePot_36 : ftc 36 (me_ci mX2_sharePot) = some (36, .getfield 15, 3, (2, 5, 256, 0)) := by decide +kernel
theorem fX2_sharePot_39 : ftc 39 (me_ci mX2_sharePot) = some (39, .iload 4, 2, (0, 0, 0, 0)) := by decide +kernel
theorem fX2_sharePot_41 : ftc 41 (me_ci mX2_sharePot) = some (41, .iload_n 3, 1, (0, 0, 0, 0)) := by decide +kernel
theorem fX2_sharePot_42 : ftc 42 (me_ci mX2_sharePot) = some (42, .iastore, 1, (0, 0, 0, 0)) := by decide +kernel
theorem fX2_sharePot_43 : ftc 43 (me_ci mX2_sharePot) = some (43, .iinc 4 1, 3, (0, 0, 0, 0)) := by decide +kernel
theorem fX2_sharePot_46 : ftc 46 (me_ci mX2_sharePot) = some (46, .goto (-26), 3, (0, 0, 0, 0)) := by decide +kernel
theorem fX2_sharePot_49 : ftc 49 (me_ci mX2_sharePot) = some (49, .aload_n 0, 1, (0, 0, 0, 0)) := by decide +kernel
theorem fX2_sharePot_50 : ftc 50 (me_ci mX2_sharePot) = some (50, .dup, 1, (0, 0, 0, 0)) := by decide +kernel
theorem fX2_sharePot_51 : ftc 51 (me_ci mX2_sharePot) = some (51, .getfield 31, 3, (2, 3, 252, 0)) := by decide +kernel
theorem fX2_sharePot_54 : ftc 54 (me_ci mX2_sharePot) = some (54, .iload_n 3, 1, (0, 0, 0, 0)) := by decide +kernel
theorem fX2_sharePot_55 : ftc 55 (me_ci mX2_sharePot) = some (55, .iload_n 2, 1, (0, 0, 0, 0)) := by decide +kernel
theorem fX2_sharePot_56 : ftc 56 (me_ci mX2_sharePot) = some (56, .imul, 1, (0, 0, 0, 0)) := by decide +kernel
theorem fX2_sharePot_57 : ftc 57 (me_ci mX2_sharePot) = some (57, .isub, 1, (0, 0, 0, 0)) := by decide +kernel
theorem fX2_sharePot_58 : ftc 58 (me_ci mX2_sharePot) = some (58, .putfield 31, 3, (2, 3, 252, 0)) := by decide +kernel
theorem fX2_sharePot_61 : ftc 61 (me_ci mX2_sharePot) = some (61, .return_, 1, (0, 0, 0, 0)) := by decide +kernel
theorem pX2_sharePot : pg 14 = some mX2_sharePot := by decide +kernel
theorem fX2_coinsBehind_0 : ftc 0 (me_ci mX2_coinsBehind) = some (0, .aload_n 1, 1, (0, 0, 0, 0)) := by decide +kernel
theorem fX2_coinsBehind_1 : ftc 1 (me_ci mX2_coinsBehind) = some (1, .getfield 58, 3, (5, 7, 136, 0)) := by decide +kernel
theorem fX2_coinsBehind_4 : ftc 4 (me_ci mX2_coinsBehind) = some (4, .iload_n 2, 1, (0, 0, 0, 0)) := by decide +kernel
theorem fX2_coinsBehind_5 : ftc 5 (me_ci mX2_coinsBehind) = some (5, .iaload, 1, (0, 0, 0, 0)) := by decide +kernel
theorem fX2_coinsBehind_6 : ftc 6 (me_ci mX2_coinsBehind) = some (6, .aload_n 0, 1, (0, 0, 0, 0)) := by decide +kernel
theorem fX2_coinsBehind_7 : ftc 7 (me_ci mX2_coinsBehind) = some (7, .getfield 9, 3, (2, 4, 254, 0)) := by decide +kernel
theorem fX2_coinsBehind_10 : ftc 10 (me_ci mX2_coinsBehind) = some (10, .iload_n 2, 1, (0, 0, 0, 0)) := by decide +kernel
theorem fX2_coinsBehind_11 : ftc 11 (me_ci mX2_coinsBehind) = some (11, .iaload, 1, (0, 0, 0, 0)) := by decide +kernel
theorem fX2_coinsBehind_12 : ftc 12 (me_ci mX2_coinsBehind) = some (12, .isub, 1, (0, 0, 0, 0)) := by decide +kernel
theorem fX2_coinsBehind_13 : ftc 13 (me_ci mX2_coinsBehind) = some (13, .aload_n 0, 1, (0, 0, 0, 0)) := by decide +kernel
theorem fX2_coinsBehind_14 : ftc 14 (me_ci mX2_coinsBehind) = some (14, .getfield 15, 3, (2, 5, 256, 0)) := by decide +kernel
theorem fX2_coinsBehind_17 : ftc 17 (me_ci mX2_coinsBehind) = some (17, .iload_n 2, 1, (0, 0, 0, 0)) := by decide +kernel
theorem fX2_coinsBehind_18 : ftc 18 (me_ci mX2_coinsBehind) = some (18, .iaload, 1, (0, 0, 0, 0)) := by decide +kernel
theorem fX2_coinsBehind_19 : ftc 19 (me_ci mX2_coinsBehind) = some (19, .iadd, 1, (0, 0, 0, 0)) := by decide +kernel
theorem fX2_coinsBehind_20 : ftc 20 (me_ci mX2_coinsBehind) = some (20, .ireturn, 1, (0, 0, 0, 0)) := by decide +kernel
theorem pX2_coinsBehind : pg 15 = some mX2_coinsBehind := by decide +kernel
theorem fX3_init_0 : ftc 0 (me_ci mX3_init) = some (0, .aload_n 0, 1, (0, 0, 0, 0)) := by decide +kernel
theorem fX3_init_1 : ftc 1 (me_ci mX3_init) = some (1, .invokespecial 3, 3, (81, 5, 0, 0)) := by decide +kernel
theorem fX3_init_4 : ftc 4 (me_ci mX3_init) = some (4, .aload_n 0, 1, (0, 0, 0, 0)) := by decide +kernel
theorem fX3_init_5 : ftc 5 (me_ci mX3_init) = some (5, .sipush 484, 3, (0, 0, 0, 0)) := by decide +kernel
theorem fX3_init_8 : ftc 8 (me_ci mX3_init) = some (8, .newarray .int, 2, (0, 0, 0, 0)) := by decide +kernel
theorem fX3_init_10 : ftc 10 (me_ci mX3_init) = some (10, .putfield 11, 3, (3, 0, 82, 0)) := by decide +kernel
theorem fX3_init_13 : ftc 13 (me_ci mX3_init) = some (13, .aload_n 0, 1, (0, 0, 0, 0)) := by decide +kernel
theorem fX3_init_14 : ftc 14 (me_ci mX3_init) = some (14, .sipush 484, 3, (0, 0, 0, 0)) := by decide +kernel
theorem fX3_init_17 : ftc 17 (me_ci mX3_init) = some (17, .newarray .int, 2, (0, 0, 0, 0)) := by decide +kernel
theorem fX3_init_19 : ftc 19 (me_ci mX3_init) = some (19, .putfield 15, 3, (3, 1, 83, 0)) := by decide +kernel
theorem fX3_init_22 : ftc 22 (me_ci mX3_init) = some (22, .aload_n 0, 1, (0, 0, 0, 0)) := by decide +kernel
theorem fX3_init_23 : ftc 23 (me_ci mX3_init) = some (23, .sipush 484, 3, (0, 0, 0, 0)) := by decide +kernel
theorem fX3_init_26 : ftc 26 (me_ci mX3_init) = some (26, .newarray .int, 2, (0, 0, 0, 0)) := by decide +kernel
theorem fX3_init_28 : ftc 28 (me_ci mX3_init) = some (28, .putfield 18, 3, (3, 2, 84, 0)) := by decide +kernel
theorem fX3_init_31 : ftc 31 (me_ci mX3_init) = some (31, .aload_n 0, 1, (0, 0, 0, 0)) := by decide +kernel
theorem fX3_init_32 : ftc 32 (me_ci mX3_init) = some (32, .sipush 484, 3, (0, 0, 0, 0)) := by decide +kernel
theorem fX3_init_35 : ftc 35 (me_ci mX3_init) = some (35, .newarray .int, 2, (0, 0, 0, 0)) := by decide +kernel
theorem fX3_init_37 : ftc 37 (me_ci mX3_init) = some (37, .putfield 21, 3, (3, 3, 85, 0)) := by decide +kernel
theorem fX3_init_40 : ftc 40 (me_ci mX3_init) = some (40, .return_, 1, (0, 0, 0, 0)) := by decide +kernel
theorem pX3_init : pg 16 = some mX3_init := by decide +kernel
theorem fX3_empty_0 : ftc 0 (me_ci mX3_empty) = some (0, .aload_n 0, 1, (0, 0, 0, 0)) := by decide +kernel
theorem fX3_empty_1 : ftc 1 (me_ci mX3_empty) = some (1, .iconst 0, 1, (0, 0, 0, 0)) := by decide +kernel
theorem fX3_empty_2 : ftc 2 (me_ci mX3_empty) = some (2, .putfield 24, 3, (3, 4, 86, 0)) := by decide +kernel
theorem fX3_empty_5 : ftc 5 (me_ci mX3_empty) = some (5, .return_, 1, (0, 0, 0, 0)) := by decide +kernel
theorem pX3_empty : pg 17 = some mX3_empty := by decide +kernel
theorem fX3_copyFrom_0 : ftc 0 (me_ci mX3_copyFrom) = some (0, .aload_n 0, 1, (0, 0, 0, 0)) := by decide +kernel
theorem fX3_copyFrom_1 : ftc 1 (me_ci mX3_copyFrom) = some (1, .aload_n 1, 1, (0, 0, 0, 0)) := by decide +kernel
theorem fX3_copyFrom_2 : ftc 2 (me_ci mX3_copyFrom) = some (2, .getfield 24, 3, (3, 4, 86, 0)) := by decide +kernel
theorem fX3_copyFrom_5 : ftc 5 (me_ci mX3_copyFrom) = some (5, .putfield 24, 3, (3, 4, 86, 0)) := by decide +kernel
theorem fX3_copyFrom_8 : ftc 8 (me_ci mX3_copyFrom) = some (8, .aload_n 1, 1, (0, 0, 0, 0)) := by decide +kernel
theorem fX3_copyFrom_9 : ftc 9 (me_ci mX3_copyFrom) = some (9, .getfield 11, 3, (3, 0, 82, 0)) := by decide +kernel
theorem fX3_copyFrom_12 : ftc 12 (me_ci mX3_copyFrom) = some (12, .iconst 0, 1, (0, 0, 0, 0)) := by decide +kernel
theorem fX3_copyFrom_13 : ftc 13 (me_ci mX3_copyFrom) = some (13, .aload_n 0, 1, (0, 0, 0, 0)) := by decide +kernel
theorem fX3_copyFrom_14 : ftc 14 (me_ci mX3_copyFrom) = some (14, .getfield 11, 3, (3, 0, 82, 0)) := by decide +kernel
theorem fX3_copyFrom_17 : ftc 17 (me_ci mX3_copyFrom) = some (17, .iconst 0, 1, (0, 0, 0, 0)) := by decide +kernel
theorem fX3_copyFrom_18 : ftc 18 (me_ci mX3_copyFrom) = some (18, .aload_n 0, 1, (0, 0, 0, 0)) := by decide +kernel
theorem fX3_copyFrom_19 : ftc 19 (me_ci mX3_copyFrom) = some (19, .getfield 24, 3, (3, 4, 86, 0)) := by decide +kernel
theorem fX3_copyFrom_22 : ftc 22 (me_ci mX3_copyFrom) = some (22, .invokestatic 28, 3, (330, 2, 0, 0)) := by decide +kernel
theorem fX3_copyFrom_25 : ftc 25 (me_ci mX3_copyFrom) = some (25, .aload_n 1, 1, (0, 0, 0, 0)) := by decide +kernel
theorem fX3_copyFrom_26 : ftc 26 (me_ci mX3_copyFrom) = some (26, .getfield 15, 3, (3, 1, 83, 0)) := by decide +kernel
theorem fX3_copyFrom_29 : ftc 29 (me_ci mX3_copyFrom) = some (29, .iconst 0, 1, (0, 0, 0, 0)) := by decide +kernel
theorem fX3_copyFrom_30 : ftc 30 (me_ci mX3_copyFrom) = some (30, .aload_n 0, 1, (0, 0, 0, 0)) := by decide +kernel
theorem fX3_copyFrom_31 : ftc 31 (me_ci mX3_copyFrom) = some (31, .getfield 15, 3, (3, 1, 83, 0)) := by decide +kernel
theorem fX3_copyFrom_34 : ftc 34 (me_ci mX3_copyFrom) = some (34, .iconst 0, 1, (0, 0, 0, 0)) := by decide +kernel
theorem fX3_copyFrom_35 : ftc 35 (me_ci mX3_copyFrom) = some (35, .aload_n 0, 1, (0, 0, 0, 0)) := by decide +kernel
theorem fX3_copyFrom_36 : ftc 36 (me_ci mX3_copyFrom) = some (36, .getfield 24, 3, (3, 4, 86, 0)) := by decide +kernel
theorem fX3_copyFrom_39 : ftc 39 (me_ci mX3_copyFrom) = some (39, .invokestatic 28, 3, (330, 2, 0, 0)) := by decide +kernel
theorem fX3_copyFrom_42 : ftc 42 (me_ci mX3_copyFrom) = some (42, .aload_n 1, 1, (0, 0, 0, 0)) := by decide +kernel
theorem fX3_copyFrom_43 : ftc 43 (me_ci mX3_copyFrom) = some (43, .getfield 18, 3, (3, 2, 84, 0)) := by decide +kernel
theorem fX3_copyFrom_46 : ftc 46 (me_ci mX3_copyFrom) = some (46, .iconst 0, 1, (0, 0, 0, 0)) := by decide +kernel
theorem fX3_copyFrom_47 : ftc 47 (me_ci mX3_copyFrom) = some (47, .aload_n 0, 1, (0, 0, 0, 0)) := by decide +kernel
theorem fX3_copyFrom_48 : ftc 48 (me_ci mX3_copyFrom) = some (48, .getfield 18, 3, (3, 2, 84, 0)) := by decide +kernel
theorem fX3_copyFrom_51 : ftc 51 (me_ci mX3_copyFrom) = some (51, .iconst 0, 1, (0, 0, 0, 0)) := by decide +kernel
theorem fX3_copyFrom_52 : ftc 52 (me_ci mX3_copyFrom) = some (52, .aload_n 0, 1, (0, 0, 0, 0)) := by decide +kernel
theorem fX3_copyFrom_53 : ftc 53 (me_ci mX3_copyFrom) = some (53, .getfield 24, 3, (3, 4, 86, 0)) := by decide +kernel
theorem fX3_copyFrom_56 : ftc 56 (me_ci mX3_copyFrom) = some (56, .invokestatic 28, 3, (330, 2, 0, 0)) := by decide +kernel
theorem fX3_copyFrom_59 : ftc 59 (me_ci mX3_copyFrom) = some (59, .aload_n 1, 1, (0, 0, 0, 0)) := by decide +kernel
theorem fX3_copyFrom_60 : ftc 60 (me_ci mX3_copyFrom) = some (60, .getfield 21, 3, (3, 3, 85, 0)) := by decide +kernel
theorem fX3_copyFrom_63 : ftc 63 (me_ci mX3_copyFrom) = some (63, .iconst 0, 1, (0, 0, 0, 0)) := by decide +kernel
theorem fX3_copyFrom_64 : ftc 64 (me_ci mX3_copyFrom) = some (64, .aload_n 0, 1, (0, 0, 0, 0)) := by decide +kernel
theorem fX3_copyFrom_65 : ftc 65 (me_ci mX3_copyFrom) = some (65, .getfield 21, 3, (3, 3, 85, 0)) := by decide +kernel
theorem fX3_copyFrom_68 : ftc 68 (me_ci mX3_copyFrom) = some (68, .iconst 0, 1, (0, 0, 0, 0)) := by decide +kernel
theorem fX3_copyFrom_69 : ftc 69 (me_ci mX3_copyFrom) = some (69, .aload_n 0, 1, (0, 0, 0, 0)) := by decide +kernel
theorem fX3_copyFrom_70 : ftc 70 (me_ci mX3_copyFrom) = some (70, .getfield 24, 3, (3, 4, 86, 0)) := by decide +kernel
theorem fX3_copyFrom_73 : ftc 73 (me_ci mX3_copyFrom) = some (73, .invokestatic 28, 3, (330, 2, 0, 0)) := by decide +kernel
theorem fX3_copyFrom_76 : ftc 76 (me_ci mX3_copyFrom) = some (76, .return_, 1, (0, 0, 0, 0)) := by decide +kernel
theorem pX3_copyFrom : pg 18 = some mX3_copyFrom := by decide +kernel
theorem fX3_note_0 : ftc 0 (me_ci mX3_note) = some (0, .aload_n 0, 1, (0, 0, 0, 0)) := by decide +kernel
theorem fX3_note_1 : ftc 1 (me_ci mX3_note) = some (1, .iload_n 1, 1, (0, 0, 0, 0)) := by decide +kernel
theorem fX3_note_2 : ftc 2 (me_ci mX3_note) = some (2, .iload_n 2, 1, (0, 0, 0, 0)) := by decide +kernel
theorem fX3_note_3 : ftc 3 (me_ci mX3_note) = some (3, .invokevirtual 34, 3, (20, 0, 414, 0)) := by decide +kernel
theorem fX3_note_6 : ftc 6 (me_ci mX3_note) = some (6, .istore 4, 2, (0, 0, 0, 0)) := by decide +kernel
theorem fX3_note_8 : ftc 8 (me_ci mX3_note) = some (8, .iload 4, 2, (0, 0, 0, 0)) := by decide +kernel
theorem fX3_note_10 : ftc 10 (me_ci mX3_note) = some (10, .sipush 484, 3, (0, 0, 0, 0)) := by decide +kernel
theorem fX3_note_13 : ftc 13 (me_ci mX3_note) = some (13, .if_icmp .lt 4, 3, (0, 0, 0, 0)) := by decide +kernel
theorem fX3_note_16 : ftc 16 (me_ci mX3_note) = some (16, .return_, 1, (0, 0, 0, 0)) := by decide +kernel
theorem fX3_note_17 : ftc 17 (me_ci mX3_note) = some (17, .iload 4, 2, (0, 0, 0, 0)) := by decide +kernel
theorem fX3_note_19 : ftc 19 (me_ci mX3_note) = some (19, .aload_n 0, 1, (0, 0, 0, 0)) := by decide +kernel
theorem fX3_note_20 : ftc 20 (me_ci mX3_note) = some (20, .getfield 24, 3, (3, 4, 86, 0)) := by decide +kernel
theorem fX3_note_23 : ftc 23 (me_ci mX3_note) = some (23, .if_icmp .ne 45, 3, (0, 0, 0, 0)) := by decide +kernel
theorem fX3_note_26 : ftc 26 (me_ci mX3_note) = some (26, .aload_n 0, 1, (0, 0, 0, 0)) := by decide +kernel
theorem fX3_note_27 : ftc 27 (me_ci mX3_note) = some (27, .getfield 11, 3, (3, 0, 82, 0)) := by decide +kernel
theorem fX3_note_30 : ftc 30 (me_ci mX3_note) = some (30, .iload 4, 2, (0, 0, 0, 0)) := by decide +kernel
theorem fX3_note_32 : ftc 32 (me_ci mX3_note) = some (32, .iload_n 1, 1, (0, 0, 0, 0)) := by decide +kernel
theorem fX3_note_33 : ftc 33 (me_ci mX3_note) = some (33, .iastore, 1, (0, 0, 0, 0)) := by decide +kernel
theorem fX3_note_34 : ftc 34 (me_ci mX3_note) = some (34, .aload_n 0, 1, (0, 0, 0, 0)) := by decide +kernel
theorem fX3_note_35 : ftc 35 (me_ci mX3_note) = some (35, .getfield 15, 3, (3, 1, 83, 0)) := by decide +kernel
theorem fX3_note_38 : ftc 38 (me_ci mX3_note) = some (38, .iload 4, 2, (0, 0, 0, 0)) := by decide +kernel
theorem fX3_note_40 : ftc 40 (me_ci mX3_note) = some (40, .iload_n 2, 1, (0, 0, 0, 0)) := by decide +kernel
theorem fX3_note_41 : ftc 41 (me_ci mX3_note) = some (41, .iastore, 1, (0, 0, 0, 0)) := by decide +kernel
theorem fX3_note_42 : ftc 42 (me_ci mX3_note) = some (42, .aload_n 0, 1, (0, 0, 0, 0)) := by decide +kernel
theorem fX3_note_43 : ftc 43 (me_ci mX3_note) = some (43, .getfield 18, 3, (3, 2, 84, 0)) := by decide +kernel
theorem fX3_note_46 : ftc 46 (me_ci mX3_note) = some (46, .iload 4, 2, (0, 0, 0, 0)) := by decide +kernel
theorem fX3_note_48 : ftc 48 (me_ci mX3_note) = some (48, .iconst 0, 1, (0, 0, 0, 0)) := by decide +kernel
theorem fX3_note_49 : ftc 49 (me_ci mX3_note) = some (49, .iastore, 1, (0, 0, 0, 0)) := by decide +kernel
theorem fX3_note_50 : ftc 50 (me_ci mX3_note) = some (50, .aload_n 0, 1, (0, 0, 0, 0)) := by decide +kernel
theorem fX3_note_51 : ftc 51 (me_ci mX3_note) = some (51, .getfield 21, 3, (3, 3, 85, 0)) := by decide +kernel
theorem fX3_note_54 : ftc 54 (me_ci mX3_note) = some (54, .iload 4, 2, (0, 0, 0, 0)) := by decide +kernel
theorem fX3_note_56 : ftc 56 (me_ci mX3_note) = some (56, .iconst 0, 1, (0, 0, 0, 0)) := by decide +kernel
theorem fX3_note_57 : ftc 57 (me_ci mX3_note) = some (57, .iastore, 1, (0, 0, 0, 0)) := by decide +kernel
theorem fX3_note_58 : ftc 58 (me_ci mX3_note) = some (58, .aload_n 0, 1, (0, 0, 0, 0)) := by decide +kernel
theorem fX3_note_59 : ftc 59 (me_ci mX3_note) = some (59, .dup, 1, (0, 0, 0, 0)) := by decide +kernel
theorem fX3_note_60 : ftc 60 (me_ci mX3_note) = some (60, .getfield 24, 3, (3, 4, 86, 0)) := by decide +kernel
theorem fX3_note_63 : ftc 63 (me_ci mX3_note) = some (63, .iconst 1, 1, (0, 0, 0, 0)) := by decide +kernel
theorem fX3_note_64 : ftc 64 (me_ci mX3_note) = some (64, .iadd, 1, (0, 0, 0, 0)) := by decide +kernel
theorem fX3_note_65 : ftc 65 (me_ci mX3_note) = some (65, .putfield 24, 3, (3, 4, 86, 0)) := by decide +kernel
theorem fX3_note_68 : ftc 68 (me_ci mX3_note) = some (68, .aload_n 0, 1, (0, 0, 0, 0)) := by decide +kernel
theorem fX3_note_69 : ftc 69 (me_ci mX3_note) = some (69, .getfield 18, 3, (3, 2, 84, 0)) := by decide +kernel
theorem fX3_note_72 : ftc 72 (me_ci mX3_note) = some (72, .iload 4, 2, (0, 0, 0, 0)) := by decide +kernel
theorem fX3_note_74 : ftc 74 (me_ci mX3_note) = some (74, .dup2, 1, (0, 0, 0, 0)) := by decide +kernel
theorem fX3_note_75 : ftc 75 (me_ci mX3_note) = some (75, .iaload, 1, (0, 0, 0, 0)) := by decide +kernel
theorem fX3_note_76 : ftc 76 (me_ci mX3_note) = some (76, .iconst 1, 1, (0, 0, 0, 0)) := by decide +kernel
theorem fX3_note_77 : ftc 77 (me_ci mX3_note) = some (77, .iadd, 1, (0, 0, 0, 0)) := by decide +kernel
theorem fX3_note_78 : ftc 78 (me_ci mX3_note) = some (78, .iastore, 1, (0, 0, 0, 0)) := by decide +kernel
theorem fX3_note_79 : ftc 79 (me_ci mX3_note) = some (79, .iload_n 3, 1, (0, 0, 0, 0)) := by decide +kernel
theorem fX3_note_80 : ftc 80 (me_ci mX3_note) = some (80, .ifCond .eq 14, 3, (0, 0, 0, 0)) := by decide +kernel
theorem fX3_note_83 : ftc 83 (me_ci mX3_note) = some (83, .aload_n 0, 1, (0, 0, 0, 0)) := by decide +kernel
theorem fX3_note_84 : ftc 84 (me_ci mX3_note) = some (84, .getfield 21, 3, (3, 3, 85, 0)) := by decide +kernel
theorem fX3_note_87 : ftc 87 (me_ci mX3_note) = some (87, .iload 4, 2, (0, 0, 0, 0)) := by decide +kernel
theorem fX3_note_89 : ftc 89 (me_ci mX3_note) = some (89, .dup2, 1, (0, 0, 0, 0)) := by decide +kernel
theorem fX3_note_90 : ftc 90 (me_ci mX3_note) = some (90, .iaload, 1, (0, 0, 0, 0)) := by decide +kernel
theorem fX3_note_91 : ftc 91 (me_ci mX3_note) = some (91, .iconst 1, 1, (0, 0, 0, 0)) := by decide +kernel
theorem fX3_note_92 : ftc 92 (me_ci mX3_note) = some (92, .iadd, 1, (0, 0, 0, 0)) := by decide +kernel
theorem fX3_note_93 : ftc 93 (me_ci mX3_note) = some (93, .iastore, 1, (0, 0, 0, 0)) := by decide +kernel
theorem fX3_note_94 : ftc 94 (me_ci mX3_note) = some (94, .return_, 1, (0, 0, 0, 0)) := by decide +kernel
theorem pX3_note : pg 19 = some mX3_note := by decide +kernel
theorem fX3_indexOf_0 : ftc 0 (me_ci mX3_indexOf) = some (0, .iconst 0, 1, (0, 0, 0, 0)) := by decide +kernel
theorem fX3_indexOf_1 : ftc 1 (me_ci mX3_indexOf) = some (1, .istore_n 3, 1, (0, 0, 0, 0)) := by decide +kernel
theorem fX3_indexOf_2 : ftc 2 (me_ci mX3_indexOf) = some (2, .iload_n 3, 1, (0, 0, 0, 0)) := by decide +kernel
theorem fX3_indexOf_3 : ftc 3 (me_ci mX3_indexOf) = some (3, .aload_n 0, 1, (0, 0, 0, 0)) := by decide +kernel
theorem fX3_indexOf_4 : ftc 4 (me_ci mX3_indexOf) = some (4, .getfield 24, 3, (3, 4, 86, 0)) := by decide +kernel
theorem fX3_indexOf_7 : ftc 7 (me_ci mX3_indexOf) = some (7, .if_icmp .ge 31, 3, (0, 0, 0, 0)) := by decide +kernel
theorem fX3_indexOf_10 : ftc 10 (me_ci mX3_indexOf) = some (10, .aload_n 0, 1, (0, 0, 0, 0)) := by decide +kernel
theorem fX3_indexOf_11 : ftc 11 (me_ci mX3_indexOf) = some (11, .getfield 11, 3, (3, 0, 82, 0)) := by decide +kernel
theorem fX3_indexOf_14 : ftc 14 (me_ci mX3_indexOf) = some (14, .iload_n 3, 1, (0, 0, 0, 0)) := by decide +kernel
theorem fX3_indexOf_15 : ftc 15 (me_ci mX3_indexOf) = some (15, .iaload, 1, (0, 0, 0, 0)) := by decide +kernel
theorem fX3_indexOf_16 : ftc 16 (me_ci mX3_indexOf) = some (16, .iload_n 1, 1, (0, 0, 0, 0)) := by decide +kernel
theorem fX3_indexOf_17 : ftc 17 (me_ci mX3_indexOf) = some (17, .if_icmp .ne 15, 3, (0, 0, 0, 0)) := by decide +kernel
theorem fX3_indexOf_20 : ftc 20 (me_ci mX3_indexOf) = some (20, .aload_n 0, 1, (0, 0, 0, 0)) := by decide +kernel
theorem fX3_indexOf_21 : ftc 21 (me_ci mX3_indexOf) = some (21, .getfield 15, 3, (3, 1, 83, 0)) := by decide +kernel
theorem fX3_indexOf_24 : ftc 24 (me_ci mX3_indexOf) = some (24, .iload_n 3, 1, (0, 0, 0, 0)) := by decide +kernel
theorem fX3_indexOf_25 : ftc 25 (me_ci mX3_indexOf) = some (25, .iaload, 1, (0, 0, 0, 0)) := by decide +kernel
theorem fX3_indexOf_26 : ftc 26 (me_ci mX3_indexOf) = some (26, .iload_n 2, 1, (0, 0, 0, 0)) := by decide +kernel
theorem fX3_indexOf_27 : ftc 27 (me_ci mX3_indexOf) = some (27, .if_icmp .ne 5, 3, (0, 0, 0, 0)) := by decide +kernel
theorem fX3_indexOf_30 : ftc 30 (me_ci mX3_indexOf) = some (30, .iload_n 3, 1, (0, 0, 0, 0)) := by decide +kernel
theorem fX3_indexOf_31 : ftc 31 (me_ci mX3_indexOf) = some (31, .ireturn, 1, (0, 0, 0, 0)) := by decide +kernel
theorem fX3_indexOf_32 : ftc 32 (me_ci mX3_indexOf) = some (32, .iinc 3 1, 3, (0, 0, 0, 0)) := by decide +kernel
theorem fX3_indexOf_35 : ftc 35 (me_ci mX3_indexOf) = some (35, .goto (-33), 3, (0, 0, 0, 0)) := by decide +kernel
theorem fX3_indexOf_38 : ftc 38 (me_ci mX3_indexOf) = some (38, .aload_n 0, 1, (0, 0, 0, 0)) := by decide +kernel
theorem fX3_indexOf_39 : ftc 39 (me_ci mX3_indexOf) = some (39, .getfield 24, 3, (3, 4, 86, 0)) := by decide +kernel
theorem fX3_indexOf_42 : ftc 42 (me_ci mX3_indexOf) = some (42, .ireturn, 1, (0, 0, 0, 0)) := by decide +kernel
theorem pX3_indexOf : pg 20 = some mX3_indexOf := by decide +kernel
theorem fX3_numberOfPair_0 : ftc 0 (me_ci mX3_numberOfPair) = some (0, .iload_n 1, 1, (0, 0, 0, 0)) := by decide +kernel
theorem fX3_numberOfPair_1 : ftc 1 (me_ci mX3_numberOfPair) = some (1, .ifCond .lt 12, 3, (0, 0, 0, 0)) := by decide +kernel
theorem fX3_numberOfPair_4 : ftc 4 (me_ci mX3_numberOfPair) = some (4, .iload_n 2, 1, (0, 0, 0, 0)) := by decide +kernel
theorem fX3_numberOfPair_5 : ftc 5 (me_ci mX3_numberOfPair) = some (5, .ifCond .lt 8, 3, (0, 0, 0, 0)) := by decide +kernel
theorem fX3_numberOfPair_8 : ftc 8 (me_ci mX3_numberOfPair) = some (8, .iload_n 2, 1, (0, 0, 0, 0)) := by decide +kernel
theorem fX3_numberOfPair_9 : ftc 9 (me_ci mX3_numberOfPair) = some (9, .iconst 3, 1, (0, 0, 0, 0)) := by decide +kernel
theorem fX3_numberOfPair_10 : ftc 10 (me_ci mX3_numberOfPair) = some (10, .if_icmp .le 6, 3, (0, 0, 0, 0)) := by decide +kernel
theorem fX3_numberOfPair_13 : ftc 13 (me_ci mX3_numberOfPair) = some (13, .ldc 38, 2, (474, 0, 0, -1000001)) := by decide +kernel
theorem fX3_numberOfPair_15 : ftc 15 (me_ci mX3_numberOfPair) = some (15, .ireturn, 1, (0, 0, 0, 0)) := by decide +kernel
theorem fX3_numberOfPair_16 : ftc 16 (me_ci mX3_numberOfPair) = some (16, .iload_n 1, 1, (0, 0, 0, 0)) := by decide +kernel
theorem fX3_numberOfPair_17 : ftc 17 (me_ci mX3_numberOfPair) = some (17, .aload_n 0, 1, (0, 0, 0, 0)) := by decide +kernel
theorem fX3_numberOfPair_18 : ftc 18 (me_ci mX3_numberOfPair) = some (18, .getfield 24, 3, (3, 4, 86, 0)) := by decide +kernel
theorem fX3_numberOfPair_21 : ftc 21 (me_ci mX3_numberOfPair) = some (21, .if_icmp .lt 6, 3, (0, 0, 0, 0)) := by decide +kernel
theorem fX3_numberOfPair_24 : ftc 24 (me_ci mX3_numberOfPair) = some (24, .ldc 39, 2, (475, 0, 0, -1000004)) := by decide +kernel
theorem fX3_numberOfPair_26 : ftc 26 (me_ci mX3_numberOfPair) = some (26, .ireturn, 1, (0, 0, 0, 0)) := by decide +kernel
theorem fX3_numberOfPair_27 : ftc 27 (me_ci mX3_numberOfPair) = some (27, .iload_n 2, 1, (0, 0, 0, 0)) := by decide +kernel
theorem fX3_numberOfPair_28 : ftc 28 (me_ci mX3_numberOfPair) = some (28, .tableswitch 49 0 2 #[28, 35, 42], 28, (0, 0, 0, 0)) := by decide +kernel
theorem fX3_numberOfPair_56 : ftc 56 (me_ci mX3_numberOfPair) = some (56, .aload_n 0, 1, (0, 0, 0, 0)) := by decide +kernel
theorem fX3_numberOfPair_57 : ftc 57 (me_ci mX3_numberOfPair) = some (57, .getfield 11, 3, (3, 0, 82, 0)) := by decide +kernel
theorem fX3_numberOfPair_60 : ftc 60 (me_ci mX3_numberOfPair) = some (60, .iload_n 1, 1, (0, 0, 0, 0)) := by decide +kernel
theorem fX3_numberOfPair_61 : ftc 61 (me_ci mX3_numberOfPair) = some (61, .iaload, 1, (0, 0, 0, 0)) := by decide +kernel
theorem fX3_numberOfPair_62 : ftc 62 (me_ci mX3_numberOfPair) = some (62, .ireturn, 1, (0, 0, 0, 0)) := by decide +kernel
theorem fX3_numberOfPair_63 : ftc 63 (me_ci mX3_numberOfPair) = some (63, .aload_n 0, 1, (0, 0, 0, 0)) := by decide +kernel
theorem fX3_numberOfPair_64 : ftc 64 (me_ci mX3_numberOfPair) = some (64, .getfield 15, 3, (3, 1, 83, 0)) := by decide +kernel
theorem fX3_numberOfPair_67 : ftc 67 (me_ci mX3_numberOfPair) = some (67, .iload_n 1, 1, (0, 0, 0, 0)) := by decide +kernel
theorem fX3_numberOfPair_68 : ftc 68 (me_ci mX3_numberOfPair) = some (68, .iaload, 1, (0, 0, 0, 0)) := by decide +kernel
theorem fX3_numberOfPair_69 : ftc 69 (me_ci mX3_numberOfPair) = some (69, .ireturn, 1, (0, 0, 0, 0)) := by decide +kernel
theorem fX3_numberOfPair_70 : ftc 70 (me_ci mX3_numberOfPair) = some (70, .aload_n 0, 1, (0, 0, 0, 0)) := by decide +kernel
theorem fX3_numberOfPair_71 : ftc 71 (me_ci mX3_numberOfPair) = some (71, .getfield 18, 3, (3, 2, 84, 0)) := by decide +kernel
theorem fX3_numberOfPair_74 : ftc 74 (me_ci mX3_numberOfPair) = some (74, .iload_n 1, 1, (0, 0, 0, 0)) := by decide +kernel
theorem fX3_numberOfPair_75 : ftc 75 (me_ci mX3_numberOfPair) = some (75, .iaload, 1, (0, 0, 0, 0)) := by decide +kernel
theorem fX3_numberOfPair_76 : ftc 76 (me_ci mX3_numberOfPair) = some (76, .ireturn, 1, (0, 0, 0, 0)) := by decide +kernel
theorem fX3_numberOfPair_77 : ftc 77 (me_ci mX3_numberOfPair) = some (77, .aload_n 0, 1, (0, 0, 0, 0)) := by decide +kernel
theorem fX3_numberOfPair_78 : ftc 78 (me_ci mX3_numberOfPair) = some (78, .getfield 21, 3, (3, 3, 85, 0)) := by decide +kernel
theorem fX3_numberOfPair_81 : ftc 81 (me_ci mX3_numberOfPair) = some (81, .iload_n 1, 1, (0, 0, 0, 0)) := by decide +kernel
theorem fX3_numberOfPair_82 : ftc 82 (me_ci mX3_numberOfPair) = some (82, .iaload, 1, (0, 0, 0, 0)) := by decide +kernel
theorem fX3_numberOfPair_83 : ftc 83 (me_ci mX3_numberOfPair) = some (83, .ireturn, 1, (0, 0, 0, 0)) := by decide +kernel
theorem pX3_numberOfPair : pg 21 = some mX3_numberOfPair := by decide +kernel
theorem fX4_init_0 : ftc 0 (me_ci mX4_init) = some (0, .aload_n 0, 1, (0, 0, 0, 0)) := by decide +kernel
theorem fX4_init_1 : ftc 1 (me_ci mX4_init) = some (1, .invokespecial 5, 3, (64, 5, 0, 0)) := by decide +kernel
theorem fX4_init_4 : ftc 4 (me_ci mX4_init) = some (4, .aload_n 0, 1, (0, 0, 0, 0)) := by decide +kernel
theorem fX4_init_5 : ftc 5 (me_ci mX4_init) = some (5, .bipush 96, 2, (0, 0, 0, 0)) := by decide +kernel
theorem fX4_init_7 : ftc 7 (me_ci mX4_init) = some (7, .newarray .int, 2, (0, 0, 0, 0)) := by decide +kernel
theorem fX4_init_9 : ftc 9 (me_ci mX4_init) = some (9, .putfield 11, 3, (4, 0, 65, 0)) := by decide +kernel
theorem fX4_init_12 : ftc 12 (me_ci mX4_init) = some (12, .return_, 1, (0, 0, 0, 0)) := by decide +kernel
theorem pX4_init : pg 22 = some mX4_init := by decide +kernel
theorem fX4_empty_0 : ftc 0 (me_ci mX4_empty) = some (0, .aload_n 0, 1, (0, 0, 0, 0)) := by decide +kernel
theorem fX4_empty_1 : ftc 1 (me_ci mX4_empty) = some (1, .iconst 0, 1, (0, 0, 0, 0)) := by decide +kernel
theorem fX4_empty_2 : ftc 2 (me_ci mX4_empty) = some (2, .putfield 15, 3, (4, 1, 66, 0)) := by decide +kernel
theorem fX4_empty_5 : ftc 5 (me_ci mX4_empty) = some (5, .aload_n 0, 1, (0, 0, 0, 0)) := by decide +kernel
theorem fX4_empty_6 : ftc 6 (me_ci mX4_empty) = some (6, .iconst 0, 1, (0, 0, 0, 0)) := by decide +kernel
theorem fX4_empty_7 : ftc 7 (me_ci mX4_empty) = some (7, .putfield 19, 3, (4, 2, 67, 0)) := by decide +kernel
theorem fX4_empty_10 : ftc 10 (me_ci mX4_empty) = some (10, .return_, 1, (0, 0, 0, 0)) := by decide +kernel
theorem pX4_empty : pg 23 = some mX4_empty := by decide +kernel
theorem fX4_copyFrom_0 : ftc 0 (me_ci mX4_copyFrom) = some (0, .aload_n 0, 1, (0, 0, 0, 0)) := by decide +kernel
theorem fX4_copyFrom_1 : ftc 1 (me_ci mX4_copyFrom) = some (1, .aload_n 1, 1, (0, 0, 0, 0)) := by decide +kernel
theorem fX4_copyFrom_2 : ftc 2 (me_ci mX4_copyFrom) = some (2, .getfield 15, 3, (4, 1, 66, 0)) := by decide +kernel
theorem fX4_copyFrom_5 : ftc 5 (me_ci mX4_copyFrom) = some (5, .putfield 15, 3, (4, 1, 66, 0)) := by decide +kernel
theorem fX4_copyFrom_8 : ftc 8 (me_ci mX4_copyFrom) = some (8, .aload_n 0, 1, (0, 0, 0, 0)) := by decide +kernel
theorem fX4_copyFrom_9 : ftc 9 (me_ci mX4_copyFrom) = some (9, .aload_n 1, 1, (0, 0, 0, 0)) := by decide +kernel
theorem fX4_copyFrom_10 : ftc 10 (me_ci mX4_copyFrom) = some (10, .getfield 19, 3, (4, 2, 67, 0)) := by decide +kernel
theorem fX4_copyFrom_13 : ftc 13 (me_ci mX4_copyFrom) = some (13, .putfield 19, 3, (4, 2, 67, 0)) := by decide +kernel
theorem fX4_copyFrom_16 : ftc 16 (me_ci mX4_copyFrom) = some (16, .aload_n 1, 1, (0, 0, 0, 0)) := by decide +kernel
theorem fX4_copyFrom_17 : ftc 17 (me_ci mX4_copyFrom) = some (17, .getfield 11, 3, (4, 0, 65, 0)) := by decide +kernel
theorem fX4_copyFrom_20 : ftc 20 (me_ci mX4_copyFrom) = some (20, .iconst 0, 1, (0, 0, 0, 0)) := by decide +kernel
theorem fX4_copyFrom_21 : ftc 21 (me_ci mX4_copyFrom) = some (21, .aload_n 0, 1, (0, 0, 0, 0)) := by decide +kernel
theorem fX4_copyFrom_22 : ftc 22 (me_ci mX4_copyFrom) = some (22, .getfield 11, 3, (4, 0, 65, 0)) := by decide +kernel
theorem fX4_copyFrom_25 : ftc 25 (me_ci mX4_copyFrom) = some (25, .iconst 0, 1, (0, 0, 0, 0)) := by decide +kernel
theorem fX4_copyFrom_26 : ftc 26 (me_ci mX4_copyFrom) = some (26, .bipush 96, 2, (0, 0, 0, 0)) := by decide +kernel
theorem fX4_copyFrom_28 : ftc 28 (me_ci mX4_copyFrom) = some (28, .invokestatic 22, 3, (325, 2, 0, 0)) := by decide +kernel
theorem fX4_copyFrom_31 : ftc 31 (me_ci mX4_copyFrom) = some (31, .return_, 1, (0, 0, 0, 0)) := by decide +kernel
theorem pX4_copyFrom : pg 24 = some mX4_copyFrom := by decide +kernel
theorem fX4_add_0 : ftc 0 (me_ci mX4_add) = some (0, .aload_n 0, 1, (0, 0, 0, 0)) := by decide +kernel
theorem fX4_add_1 : ftc 1 (me_ci mX4_add) = some (1, .aload_n 0, 1, (0, 0, 0, 0)) := by decide +kernel
theorem fX4_add_2 : ftc 2 (me_ci mX4_add) = some (2, .getfield 19, 3, (4, 2, 67, 0)) := by decide +kernel
theorem fX4_add_5 : ftc 5 (me_ci mX4_add) = some (5, .iconst 1, 1, (0, 0, 0, 0)) := by decide +kernel
theorem fX4_add_6 : ftc 6 (me_ci mX4_add) = some (6, .iadd, 1, (0, 0, 0, 0)) := by decide +kernel
theorem fX4_add_7 : ftc 7 (me_ci mX4_add) = some (7, .bipush 12, 2, (0, 0, 0, 0)) := by decide +kernel
theorem fX4_add_9 : ftc 9 (me_ci mX4_add) = some (9, .irem, 1, (0, 0, 0, 0)) := by decide +kernel
theorem fX4_add_10 : ftc 10 (me_ci mX4_add) = some (10, .putfield 19, 3, (4, 2, 67, 0)) := by decide +kernel
theorem fX4_add_13 : ftc 13 (me_ci mX4_add) = some (13, .aload_n 0, 1, (0, 0, 0, 0)) := by decide +kernel
theorem fX4_add_14 : ftc 14 (me_ci mX4_add) = some (14, .aload_n 0, 1, (0, 0, 0, 0)) := by decide +kernel
theorem fX4_add_15 : ftc 15 (me_ci mX4_add) = some (15, .getfield 15, 3, (4, 1, 66, 0)) := by decide +kernel
theorem fX4_add_18 : ftc 18 (me_ci mX4_add) = some (18, .iconst 1, 1, (0, 0, 0, 0)) := by decide +kernel
theorem fX4_add_19 : ftc 19 (me_ci mX4_add) = some (19, .iadd, 1, (0, 0, 0, 0)) := by decide +kernel
theorem fX4_add_20 : ftc 20 (me_ci mX4_add) = some (20, .bipush 12, 2, (0, 0, 0, 0)) := by decide +kernel
theorem fX4_add_22 : ftc 22 (me_ci mX4_add) = some (22, .invokestatic 28, 3, (409, 4, 0, 0)) := by decide +kernel
theorem fX4_add_25 : ftc 25 (me_ci mX4_add) = some (25, .putfield 15, 3, (4, 1, 66, 0)) := by decide +kernel
theorem fX4_add_28 : ftc 28 (me_ci mX4_add) = some (28, .aload_n 0, 1, (0, 0, 0, 0)) := by decide +kernel
theorem fX4_add_29 : ftc 29 (me_ci mX4_add) = some (29, .getfield 19, 3, (4, 2, 67, 0)) := by decide +kernel
theorem fX4_add_32 : ftc 32 (me_ci mX4_add) = some (32, .bipush 8, 2, (0, 0, 0, 0)) := by decide +kernel
theorem fX4_add_34 : ftc 34 (me_ci mX4_add) = some (34, .imul, 1, (0, 0, 0, 0)) := by decide +kernel
theorem fX4_add_35 : ftc 35 (me_ci mX4_add) = some (35, .istore 4, 2, (0, 0, 0, 0)) := by decide +kernel
theorem fX4_add_37 : ftc 37 (me_ci mX4_add) = some (37, .aload_n 0, 1, (0, 0, 0, 0)) := by decide +kernel
theorem fX4_add_38 : ftc 38 (me_ci mX4_add) = some (38, .getfield 11, 3, (4, 0, 65, 0)) := by decide +kernel
theorem fX4_add_41 : ftc 41 (me_ci mX4_add) = some (41, .iload 4, 2, (0, 0, 0, 0)) := by decide +kernel
theorem fX4_add_43 : ftc 43 (me_ci mX4_add) = some (43, .iconst 0, 1, (0, 0, 0, 0)) := by decide +kernel
theorem fX4_add_44 : ftc 44 (me_ci mX4_add) = some (44, .iadd, 1, (0, 0, 0, 0)) := by decide +kernel
theorem fX4_add_45 : ftc 45 (me_ci mX4_add) = some (45, .aload_n 1, 1, (0, 0, 0, 0)) := by decide +kernel
theorem fX4_add_46 : ftc 46 (me_ci mX4_add) = some (46, .getfield 34, 3, (2, 0, 246, 0)) := by decide +kernel
theorem fX4_add_49 : ftc 49 (me_ci mX4_add) = some (49, .iastore, 1, (0, 0, 0, 0)) := by decide +kernel
theorem fX4_add_50 : ftc 50 (me_ci mX4_add) = some (50, .aload_n 0, 1, (0, 0, 0, 0)) := by decide +kernel
theorem fX4_add_51 : ftc 51 (me_ci mX4_add) = some (51, .getfield 11, 3, (4, 0, 65, 0)) := by decide +kernel
theorem fX4_add_54 : ftc 54 (me_ci mX4_add) = some (54, .iload 4, 2, (0, 0, 0, 0)) := by decide +kernel
theorem fX4_add_56 : ftc 56 (me_ci mX4_add) = some (56, .iconst 1, 1, (0, 0, 0, 0)) := by decide +kernel
theorem fX4_add_57 : ftc 57 (me_ci mX4_add) = some (57, .iadd, 1, (0, 0, 0, 0)) := by decide +kernel
theorem fX4_add_58 : ftc 58 (me_ci mX4_add) = some (58, .aload_n 1, 1, (0, 0, 0, 0)) := by decide +kernel
theorem fX4_add_59 : ftc 59 (me_ci mX4_add) = some (59, .getfield 39, 3, (2, 1, 249, 0)) := by decide +kernel
theorem fX4_add_62 : ftc 62 (me_ci mX4_add) = some (62, .iastore, 1, (0, 0, 0, 0)) := by decide +kernel
theorem fX4_add_63 : ftc 63 (me_ci mX4_add) = some (63, .aload_n 0, 1, (0, 0, 0, 0)) := by decide +kernel
theorem fX4_add_64 : ftc 64 (me_ci mX4_add) = some (64, .getfield 11, 3, (4, 0, 65, 0)) := by decide +kernel
theorem fX4_add_67 : ftc 67 (me_ci mX4_add) = some (67, .iload 4, 2, (0, 0, 0, 0)) := by decide +kernel
theorem fX4_add_69 : ftc 69 (me_ci mX4_add) = some (69, .iconst 2, 1, (0, 0, 0, 0)) := by decide +kernel
theorem fX4_add_70 : ftc 70 (me_ci mX4_add) = some (70, .iadd, 1, (0, 0, 0, 0)) := by decide +kernel
theorem fX4_add_71 : ftc 71 (me_ci mX4_add) = some (71, .iload_n 2, 1, (0, 0, 0, 0)) := by decide +kernel
theorem fX4_add_72 : ftc 72 (me_ci mX4_add) = some (72, .iastore, 1, (0, 0, 0, 0)) := by decide +kernel
theorem fX4_add_73 : ftc 73 (me_ci mX4_add) = some (73, .aload_n 0, 1, (0, 0, 0, 0)) := by decide +kernel
theorem fX4_add_74 : ftc 74 (me_ci mX4_add) = some (74, .getfield 11, 3, (4, 0, 65, 0)) := by decide +kernel
theorem fX4_add_77 : ftc 77 (me_ci mX4_add) = some (77, .iload 4, 2, (0, 0, 0, 0)) := by decide +kernel
theorem fX4_add_79 : ftc 79 (me_ci mX4_add) = some (79, .iconst 3, 1, (0, 0, 0, 0)) := by decide +kernel
theorem fX4_add_80 : ftc 80 (me_ci mX4_add) = some (80, .iadd, 1, (0, 0, 0, 0)) := by decide +kernel
theorem fX4_add_81 : ftc 81 (me_ci mX4_add) = some (81, .aload_n 1, 1, (0, 0, 0, 0)) := by decide +kernel
theorem fX4_add_82 : ftc 82 (me_ci mX4_add) = some (82, .getfield 42, 3, (2, 2, 251, 0)) := by decide +kernel
theorem fX4_add_85 : ftc 85 (me_ci mX4_add) = some (85, .iastore, 1, (0, 0, 0, 0)) := by decide +kernel
theorem fX4_add_86 : ftc 86 (me_ci mX4_add) = some (86, .aload_n 3, 1, (0, 0, 0, 0)) := by decide +kernel
theorem fX4_add_87 : ftc 87 (me_ci mX4_add) = some (87, .iconst 0, 1, (0, 0, 0, 0)) := by decide +kernel
theorem fX4_add_88 : ftc 88 (me_ci mX4_add) = some (88, .aload_n 0, 1, (0, 0, 0, 0)) := by decide +kernel
theorem fX4_add_89 : ftc 89 (me_ci mX4_add) = some (89, .getfield 11, 3, (4, 0, 65, 0)) := by decide +kernel
theorem fX4_add_92 : ftc 92 (me_ci mX4_add) = some (92, .iload 4, 2, (0, 0, 0, 0)) := by decide +kernel
theorem fX4_add_94 : ftc 94 (me_ci mX4_add) = some (94, .iconst 4, 1, (0, 0, 0, 0)) := by decide +kernel
theorem fX4_add_95 : ftc 95 (me_ci mX4_add) = some (95, .iadd, 1, (0, 0, 0, 0)) := by decide +kernel
theorem fX4_add_96 : ftc 96 (me_ci mX4_add) = some (96, .iconst 4, 1, (0, 0, 0, 0)) := by decide +kernel
theorem fX4_add_97 : ftc 97 (me_ci mX4_add) = some (97, .invokestatic 22, 3, (325, 2, 0, 0)) := by decide +kernel
theorem fX4_add_100 : ftc 100 (me_ci mX4_add) = some (100, .return_, 1, (0, 0, 0, 0)) := by decide +kernel
theorem pX4_add : pg 25 = some mX4_add := by decide +kernel
theorem fX4_numberOfRound_0 : ftc 0 (me_ci mX4_numberOfRound) = some (0, .iload_n 2, 1, (0, 0, 0, 0)) := by decide +kernel
theorem fX4_numberOfRound_1 : ftc 1 (me_ci mX4_numberOfRound) = some (1, .iload_n 3, 1, (0, 0, 0, 0)) := by decide +kernel
theorem fX4_numberOfRound_2 : ftc 2 (me_ci mX4_numberOfRound) = some (2, .invokestatic 45, 3, (27, 0, 461, 0)) := by decide +kernel
theorem fX4_numberOfRound_5 : ftc 5 (me_ci mX4_numberOfRound) = some (5, .istore 4, 2, (0, 0, 0, 0)) := by decide +kernel
theorem fX4_numberOfRound_7 : ftc 7 (me_ci mX4_numberOfRound) = some (7, .iload_n 1, 1, (0, 0, 0, 0)) := by decide +kernel
theorem fX4_numberOfRound_8 : ftc 8 (me_ci mX4_numberOfRound) = some (8, .ifCond .lt 8, 3, (0, 0, 0, 0)) := by decide +kernel
theorem fX4_numberOfRound_11 : ftc 11 (me_ci mX4_numberOfRound) = some (11, .iload 4, 2, (0, 0, 0, 0)) := by decide +kernel
theorem fX4_numberOfRound_13 : ftc 13 (me_ci mX4_numberOfRound) = some (13, .ifCond .ge 6, 3, (0, 0, 0, 0)) := by decide +kernel
theorem fX4_numberOfRound_16 : ftc 16 (me_ci mX4_numberOfRound) = some (16, .ldc 48, 2, (464, 0, 0, -1000001)) := by decide +kernel
theorem fX4_numberOfRound_18 : ftc 18 (me_ci mX4_numberOfRound) = some (18, .ireturn, 1, (0, 0, 0, 0)) := by decide +kernel
theorem fX4_numberOfRound_19 : ftc 19 (me_ci mX4_numberOfRound) = some (19, .iload_n 1, 1, (0, 0, 0, 0)) := by decide +kernel
theorem fX4_numberOfRound_20 : ftc 20 (me_ci mX4_numberOfRound) = some (20, .aload_n 0, 1, (0, 0, 0, 0)) := by decide +kernel
theorem fX4_numberOfRound_21 : ftc 21 (me_ci mX4_numberOfRound) = some (21, .getfield 15, 3, (4, 1, 66, 0)) := by decide +kernel
theorem fX4_numberOfRound_24 : ftc 24 (me_ci mX4_numberOfRound) = some (24, .if_icmp .lt 6, 3, (0, 0, 0, 0)) := by decide +kernel
theorem fX4_numberOfRound_27 : ftc 27 (me_ci mX4_numberOfRound) = some (27, .ldc 49, 2, (465, 0, 0, -1000004)) := by decide +kernel
theorem fX4_numberOfRound_29 : ftc 29 (me_ci mX4_numberOfRound) = some (29, .ireturn, 1, (0, 0, 0, 0)) := by decide +kernel
theorem fX4_numberOfRound_30 : ftc 30 (me_ci mX4_numberOfRound) = some (30, .aload_n 0, 1, (0, 0, 0, 0)) := by decide +kernel
theorem fX4_numberOfRound_31 : ftc 31 (me_ci mX4_numberOfRound) = some (31, .getfield 19, 3, (4, 2, 67, 0)) := by decide +kernel
theorem fX4_numberOfRound_34 : ftc 34 (me_ci mX4_numberOfRound) = some (34, .bipush 12, 2, (0, 0, 0, 0)) := by decide +kernel
theorem fX4_numberOfRound_36 : ftc 36 (me_ci mX4_numberOfRound) = some (36, .iadd, 1, (0, 0, 0, 0)) := by decide +kernel
theorem fX4_numberOfRound_37 : ftc 37 (me_ci mX4_numberOfRound) = some (37, .iload_n 1, 1, (0, 0, 0, 0)) := by decide +kernel
theorem fX4_numberOfRound_38 : ftc 38 (me_ci mX4_numberOfRound) = some (38, .isub, 1, (0, 0, 0, 0)) := by decide +kernel
theorem fX4_numberOfRound_39 : ftc 39 (me_ci mX4_numberOfRound) = some (39, .bipush 12, 2, (0, 0, 0, 0)) := by decide +kernel
theorem fX4_numberOfRound_41 : ftc 41 (me_ci mX4_numberOfRound) = some (41, .irem, 1, (0, 0, 0, 0)) := by decide +kernel
theorem fX4_numberOfRound_42 : ftc 42 (me_ci mX4_numberOfRound) = some (42, .istore 5, 2, (0, 0, 0, 0)) := by decide +kernel
theorem fX4_numberOfRound_44 : ftc 44 (me_ci mX4_numberOfRound) = some (44, .aload_n 0, 1, (0, 0, 0, 0)) := by decide +kernel
theorem fX4_numberOfRound_45 : ftc 45 (me_ci mX4_numberOfRound) = some (45, .getfield 11, 3, (4, 0, 65, 0)) := by decide +kernel
theorem fX4_numberOfRound_48 : ftc 48 (me_ci mX4_numberOfRound) = some (48, .iload 5, 2, (0, 0, 0, 0)) := by decide +kernel
theorem fX4_numberOfRound_50 : ftc 50 (me_ci mX4_numberOfRound) = some (50, .bipush 8, 2, (0, 0, 0, 0)) := by decide +kernel
theorem fX4_numberOfRound_52 : ftc 52 (me_ci mX4_numberOfRound) = some (52, .imul, 1, (0, 0, 0, 0)) := by decide +kernel
theorem fX4_numberOfRound_53 : ftc 53 (me_ci mX4_numberOfRound) = some (53, .iload 4, 2, (0, 0, 0, 0)) := by decide +kernel
theorem fX4_numberOfRound_55 : ftc 55 (me_ci mX4_numberOfRound) = some (55, .iadd, 1, (0, 0, 0, 0)) := by decide +kernel
theorem fX4_numberOfRound_56 : ftc 56 (me_ci mX4_numberOfRound) = some (56, .iaload, 1, (0, 0, 0, 0)) := by decide +kernel
theorem fX4_numberOfRound_57 : ftc 57 (me_ci mX4_numberOfRound) = some (57, .ireturn, 1, (0, 0, 0, 0)) := by decide +kernel
theorem pX4_numberOfRound : pg 26 = some mX4_numberOfRound := by decide +kernel
theorem fX4_columnOf_0 : ftc 0 (me_ci mX4_columnOf) = some (0, .iload_n 0, 1, (0, 0, 0, 0)) := by decide +kernel
theorem fX4_columnOf_1 : ftc 1 (me_ci mX4_columnOf) = some (1, .ifCond .lt 10, 3, (0, 0, 0, 0)) := by decide +kernel
theorem fX4_columnOf_4 : ftc 4 (me_ci mX4_columnOf) = some (4, .iload_n 0, 1, (0, 0, 0, 0)) := by decide +kernel
theorem fX4_columnOf_5 : ftc 5 (me_ci mX4_columnOf) = some (5, .iconst 3, 1, (0, 0, 0, 0)) := by decide +kernel
theorem fX4_columnOf_6 : ftc 6 (me_ci mX4_columnOf) = some (6, .if_icmp .gt 5, 3, (0, 0, 0, 0)) := by decide +kernel
theorem fX4_columnOf_9 : ftc 9 (me_ci mX4_columnOf) = some (9, .iload_n 0, 1, (0, 0, 0, 0)) := by decide +kernel
theorem fX4_columnOf_10 : ftc 10 (me_ci mX4_columnOf) = some (10, .ireturn, 1, (0, 0, 0, 0)) := by decide +kernel
theorem fX4_columnOf_11 : ftc 11 (me_ci mX4_columnOf) = some (11, .iload_n 0, 1, (0, 0, 0, 0)) := by decide +kernel
theorem fX4_columnOf_12 : ftc 12 (me_ci mX4_columnOf) = some (12, .bipush 10, 2, (0, 0, 0, 0)) := by decide +kernel
theorem fX4_columnOf_14 : ftc 14 (me_ci mX4_columnOf) = some (14, .if_icmp .lt 18, 3, (0, 0, 0, 0)) := by decide +kernel
theorem fX4_columnOf_17 : ftc 17 (me_ci mX4_columnOf) = some (17, .iload_n 0, 1, (0, 0, 0, 0)) := by decide +kernel
theorem fX4_columnOf_18 : ftc 18 (me_ci mX4_columnOf) = some (18, .bipush 10, 2, (0, 0, 0, 0)) := by decide +kernel
theorem fX4_columnOf_20 : ftc 20 (me_ci mX4_columnOf) = some (20, .iload_n 1, 1, (0, 0, 0, 0)) := by decide +kernel
theorem fX4_columnOf_21 : ftc 21 (me_ci mX4_columnOf) = some (21, .iadd, 1, (0, 0, 0, 0)) := by decide +kernel
theorem fX4_columnOf_22 : ftc 22 (me_ci mX4_columnOf) = some (22, .if_icmp .ge 10, 3, (0, 0, 0, 0)) := by decide +kernel
theorem fX4_columnOf_25 : ftc 25 (me_ci mX4_columnOf) = some (25, .iconst 4, 1, (0, 0, 0, 0)) := by decide +kernel
theorem fX4_columnOf_26 : ftc 26 (me_ci mX4_columnOf) = some (26, .iload_n 0, 1, (0, 0, 0, 0)) := by decide +kernel
theorem fX4_columnOf_27 : ftc 27 (me_ci mX4_columnOf) = some (27, .iadd, 1, (0, 0, 0, 0)) := by decide +kernel
theorem fX4_columnOf_28 : ftc 28 (me_ci mX4_columnOf) = some (28, .bipush 10, 2, (0, 0, 0, 0)) := by decide +kernel
theorem fX4_columnOf_30 : ftc 30 (me_ci mX4_columnOf) = some (30, .isub, 1, (0, 0, 0, 0)) := by decide +kernel
theorem fX4_columnOf_31 : ftc 31 (me_ci mX4_columnOf) = some (31, .ireturn, 1, (0, 0, 0, 0)) := by decide +kernel
theorem fX4_columnOf_32 : ftc 32 (me_ci mX4_columnOf) = some (32, .iconst (-1), 1, (0, 0, 0, 0)) := by decide +kernel
theorem fX4_columnOf_33 : ftc 33 (me_ci mX4_columnOf) = some (33, .ireturn, 1, (0, 0, 0, 0)) := by decide +kernel
theorem pX4_columnOf : pg 27 = some mX4_columnOf := by decide +kernel
theorem fX5_init_0 : ftc 0 (me_ci mX5_init) = some (0, .aload_n 0, 1, (0, 0, 0, 0)) := by decide +kernel
theorem fX5_init_1 : ftc 1 (me_ci mX5_init) = some (1, .invokespecial 3, 3, (58, 5, 0, 0)) := by decide +kernel
theorem fX5_init_4 : ftc 4 (me_ci mX5_init) = some (4, .aload_n 0, 1, (0, 0, 0, 0)) := by decide +kernel
theorem fX5_init_5 : ftc 5 (me_ci mX5_init) = some (5, .iconst 4, 1, (0, 0, 0, 0)) := by decide +kernel
theorem fX5_init_6 : ftc 6 (me_ci mX5_init) = some (6, .newarray .int, 2, (0, 0, 0, 0)) := by decide +kernel
theorem fX5_init_8 : ftc 8 (me_ci mX5_init) = some (8, .putfield 9, 3, (5, 7, 134, 0)) := by decide +kernel
theorem fX5_init_11 : ftc 11 (me_ci mX5_init) = some (11, .aload_n 0, 1, (0, 0, 0, 0)) := by decide +kernel
theorem fX5_init_12 : ftc 12 (me_ci mX5_init) = some (12, .iconst 4, 1, (0, 0, 0, 0)) := by decide +kernel
theorem fX5_init_13 : ftc 13 (me_ci mX5_init) = some (13, .newarray .int, 2, (0, 0, 0, 0)) := by decide +kernel
theorem fX5_init_15 : ftc 15 (me_ci mX5_init) = some (15, .putfield 15, 3, (5, 8, 138, 0)) := by decide +kernel
theorem fX5_init_18 : ftc 18 (me_ci mX5_init) = some (18, .aload_n 0, 1, (0, 0, 0, 0)) := by decide +kernel
theorem fX5_init_19 : ftc 19 (me_ci mX5_init) = some (19, .iconst 4, 1, (0, 0, 0, 0)) := by decide +kernel
theorem fX5_init_20 : ftc 20 (me_ci mX5_init) = some (20, .newarray .int, 2, (0, 0, 0, 0)) := by decide +kernel
theorem fX5_init_22 : ftc 22 (me_ci mX5_init) = some (22, .putfield 18, 3, (5, 9, 140, 0)) := by decide +kernel
theorem fX5_init_25 : ftc 25 (me_ci mX5_init) = some (25, .aload_n 0, 1, (0, 0, 0, 0)) := by decide +kernel
theorem fX5_init_26 : ftc 26 (me_ci mX5_init) = some (26, .iconst 4, 1, (0, 0, 0, 0)) := by decide +kernel
theorem fX5_init_27 : ftc 27 (me_ci mX5_init) = some (27, .newarray .int, 2, (0, 0, 0, 0)) := by decide +kernel
theorem fX5_init_29 : ftc 29 (me_ci mX5_init) = some (29, .putfield 21, 3, (5, 10, 142, 0)) := by decide +kernel
theorem fX5_init_32 : ftc 32 (me_ci mX5_init) = some (32, .aload_n 0, 1, (0, 0, 0, 0)) := by decide +kernel
theorem fX5_init_33 : ftc 33 (me_ci mX5_init) = some (33, .iconst 4, 1, (0, 0, 0, 0)) := by decide +kernel
theorem fX5_init_34 : ftc 34 (me_ci mX5_init) = some (34, .newarray .int, 2, (0, 0, 0, 0)) := by decide +kernel
theorem fX5_init_36 : ftc 36 (me_ci mX5_init) = some (36, .putfield 24, 3, (5, 11, 143, 0)) := by decide +kernel
theorem fX5_init_39 : ftc 39 (me_ci mX5_init) = some (39, .aload_n 0, 1, (0, 0, 0, 0)) := by decide +kernel
theorem fX5_init_40 : ftc 40 (me_ci mX5_init) = some (40, .iconst 4, 1, (0, 0, 0, 0)) := by decide +kernel
theorem fX5_init_41 : ftc 41 (me_ci mX5_init) = some (41, .newarray .int, 2, (0, 0, 0, 0)) := by decide +kernel
theorem fX5_init_43 : ftc 43 (me_ci mX5_init) = some (43, .putfield 27, 3, (5, 12, 144, 0)) := by decide +kernel
theorem fX5_init_46 : ftc 46 (me_ci mX5_init) = some (46, .aload_n 0, 1, (0, 0, 0, 0)) := by decide +kernel
theorem fX5_init_47 : ftc 47 (me_ci mX5_init) = some (47, .iconst 3, 1, (0, 0, 0, 0)) := by decide +kernel
theorem fX5_init_48 : ftc 48 (me_ci mX5_init) = some (48, .newarray .int, 2, (0, 0, 0, 0)) := by decide +kernel
theorem fX5_init_50 : ftc 50 (me_ci mX5_init) = some (50, .putfield 30, 3, (5, 13, 145, 0)) := by decide +kernel
theorem fX5_init_53 : ftc 53 (me_ci mX5_init) = some (53, .aload_n 0, 1, (0, 0, 0, 0)) := by decide +kernel
theorem fX5_init_54 : ftc 54 (me_ci mX5_init) = some (54, .bipush 20, 2, (0, 0, 0, 0)) := by decide +kernel
theorem fX5_init_56 : ftc 56 (me_ci mX5_init) = some (56, .newarray .int, 2, (0, 0, 0, 0)) := by decide +kernel
theorem fX5_init_58 : ftc 58 (me_ci mX5_init) = some (58, .putfield 33, 3, (5, 14, 147, 0)) := by decide +kernel
theorem fX5_init_61 : ftc 61 (me_ci mX5_init) = some (61, .aload_n 0, 1, (0, 0, 0, 0)) := by decide +kernel
theorem fX5_init_62 : ftc 62 (me_ci mX5_init) = some (62, .new 36, 3, (4, 3, 59, 0)) := by decide +kernel
theorem fX5_init_65 : ftc 65 (me_ci mX5_init) = some (65, .dup, 1, (0, 0, 0, 0)) := by decide +kernel
theorem fX5_init_66 : ftc 66 (me_ci mX5_init) = some (66, .invokespecial 38, 3, (22, 1, 0, 0)) := by decide +kernel
theorem fX5_init_69 : ftc 69 (me_ci mX5_init) = some (69, .putfield 39, 3, (5, 15, 149, 0)) := by decide +kernel
theorem fX5_init_72 : ftc 72 (me_ci mX5_init) = some (72, .aload_n 0, 1, (0, 0, 0, 0)) := by decide +kernel
theorem fX5_init_73 : ftc 73 (me_ci mX5_init) = some (73, .new 43, 3, (3, 5, 76, 0)) := by decide +kernel
theorem fX5_init_76 : ftc 76 (me_ci mX5_init) = some (76, .dup, 1, (0, 0, 0, 0)) := by decide +kernel
theorem fX5_init_77 : ftc 77 (me_ci mX5_init) = some (77, .invokespecial 45, 3, (16, 1, 1, 0)) := by decide +kernel
theorem fX5_init_80 : ftc 80 (me_ci mX5_init) = some (80, .putfield 46, 3, (5, 16, 151, 0)) := by decide +kernel
theorem fX5_init_83 : ftc 83 (me_ci mX5_init) = some (83, .getstatic 50, 3, (1, 5, 0, 0)) := by decide +kernel
theorem fX5_init_86 : ftc 86 (me_ci mX5_init) = some (86, .iconst 0, 1, (0, 0, 0, 0)) := by decide +kernel
theorem fX5_init_87 : ftc 87 (me_ci mX5_init) = some (87, .aload_n 0, 1, (0, 0, 0, 0)) := by decide +kernel
theorem fX5_init_88 : ftc 88 (me_ci mX5_init) = some (88, .getfield 30, 3, (5, 13, 145, 0)) := by decide +kernel
theorem fX5_init_91 : ftc 91 (me_ci mX5_init) = some (91, .iconst 0, 1, (0, 0, 0, 0)) := by decide +kernel
theorem fX5_init_92 : ftc 92 (me_ci mX5_init) = some (92, .iconst 3, 1, (0, 0, 0, 0)) := by decide +kernel
theorem fX5_init_93 : ftc 93 (me_ci mX5_init) = some (93, .invokestatic 53, 3, (101, 2, 0, 0)) := by decide +kernel
theorem fX5_init_96 : ftc 96 (me_ci mX5_init) = some (96, .aload_n 0, 1, (0, 0, 0, 0)) := by decide +kernel
theorem fX5_init_97 : ftc 97 (me_ci mX5_init) = some (97, .iconst 2, 1, (0, 0, 0, 0)) := by decide +kernel
theorem fX5_init_98 : ftc 98 (me_ci mX5_init) = some (98, .bipush 20, 2, (0, 0, 0, 0)) := by decide +kernel
theorem fX5_init_100 : ftc 100 (me_ci mX5_init) = some (100, .invokevirtual 59, 3, (30, 0, 104, 0)) := by decide +kernel
theorem fX5_init_103 : ftc 103 (me_ci mX5_init) = some (103, .pop, 1, (0, 0, 0, 0)) := by decide +kernel
theorem fX5_init_104 : ftc 104 (me_ci mX5_init) = some (104, .return_, 1, (0, 0, 0, 0)) := by decide +kernel
theorem pX5_init : pg 28 = some mX5_init := by decide +kernel
theorem fX5_copyFrom_0 : ftc 0 (me_ci mX5_copyFrom) = some (0, .aload_n 0, 1, (0, 0, 0, 0)) := by decide +kernel
theorem fX5_copyFrom_1 : ftc 1 (me_ci mX5_copyFrom) = some (1, .aload_n 1, 1, (0, 0, 0, 0)) := by decide +kernel
theorem fX5_copyFrom_2 : ftc 2 (me_ci mX5_copyFrom) = some (2, .getfield 63, 3, (5, 0, 121, 0)) := by decide +kernel
theorem fX5_copyFrom_5 : ftc 5 (me_ci mX5_copyFrom) = some (5, .putfield 63, 3, (5, 0, 121, 0)) := by decide +kernel
theorem fX5_copyFrom_8 : ftc 8 (me_ci mX5_copyFrom) = some (8, .aload_n 0, 1, (0, 0, 0, 0)) := by decide +kernel
theorem fX5_copyFrom_9 : ftc 9 (me_ci mX5_copyFrom) = some (9, .aload_n 1, 1, (0, 0, 0, 0)) := by decide +kernel
theorem fX5_copyFrom_10 : ftc 10 (me_ci mX5_copyFrom) = some (10, .getfield 67, 3, (5, 1, 124, 0)) := by decide +kernel
theorem fX5_copyFrom_13 : ftc 13 (me_ci mX5_copyFrom) = some (13, .putfield 67, 3, (5, 1, 124, 0)) := by decide +kernel
theorem fX5_copyFrom_16 : ftc 16 (me_ci mX5_copyFrom) = some (16, .aload_n 0, 1, (0, 0, 0, 0)) := by decide +kernel
theorem fX5_copyFrom_17 : ftc 17 (me_ci mX5_copyFrom) = some (17, .aload_n 1, 1, (0, 0, 0, 0)) := by decide +kernel
theorem fX5_copyFrom_18 : ftc 18 (me_ci mX5_copyFrom) = some (18, .getfield 70, 3, (5, 2, 126, 0)) := by decide +kernel
theorem fX5_copyFrom_21 : ftc 21 (me_ci mX5_copyFrom) = some (21, .putfield 70, 3, (5, 2, 126, 0)) := by decide +kernel
theorem fX5_copyFrom_24 : ftc 24 (me_ci mX5_copyFrom) = some (24, .aload_n 0, 1, (0, 0, 0, 0)) := by decide +kernel
theorem fX5_copyFrom_25 : ftc 25 (me_ci mX5_copyFrom) = some (25, .aload_n 1, 1, (0, 0, 0, 0)) := by decide +kernel
theorem fX5_copyFrom_26 : ftc 26 (me_ci mX5_copyFrom) = some (26, .getfield 73, 3, (5, 3, 128, 0)) := by decide +kernel
theorem fX5_copyFrom_29 : ftc 29 (me_ci mX5_copyFrom) = some (29, .putfield 73, 3, (5, 3, 128, 0)) := by decide +kernel
theorem fX5_copyFrom_32 : ftc 32 (me_ci mX5_copyFrom) = some (32, .aload_n 0, 1, (0, 0, 0, 0)) := by decide +kernel
theorem fX5_copyFrom_33 : ftc 33 (me_ci mX5_copyFrom) = some (33, .aload_n 1, 1, (0, 0, 0, 0)) := by decide +kernel
theorem fX5_copyFrom_34 : ftc 34 (me_ci mX5_copyFrom) = some (34, .getfield 76, 3, (5, 4, 129, 0)) := by decide +kernel
theorem fX5_copyFrom_37 : ftc 37 (me_ci mX5_copyFrom) = some (37, .putfield 76, 3, (5, 4, 129, 0)) := by decide +kernel
theorem fX5_copyFrom_40 : ftc 40 (me_ci mX5_copyFrom) = some (40, .aload_n 0, 1, (0, 0, 0, 0)) := by decide +kernel
theorem fX5_copyFrom_41 : ftc 41 (me_ci mX5_copyFrom) = some (41, .aload_n 1, 1, (0, 0, 0, 0)) := by decide +kernel
theorem fX5_copyFrom_42 : ftc 42 (me_ci mX5_copyFrom) = some (42, .getfield 79, 3, (5, 5, 131, 0)) := by decide +kernel
theorem fX5_copyFrom_45 : ftc 45 (me_ci mX5_copyFrom) = some (45, .putfield 79, 3, (5, 5, 131, 0)) := by decide +kernel
theorem fX5_copyFrom_48 : ftc 48 (me_ci mX5_copyFrom) = some (48, .aload_n 0, 1, (0, 0, 0, 0)) := by decide +kernel
theorem fX5_copyFrom_49 : ftc 49 (me_ci mX5_copyFrom) = some (49, .aload_n 1, 1, (0, 0, 0, 0)) := by decide +kernel
theorem fX5_copyFrom_50 : ftc 50 (me_ci mX5_copyFrom) = some (50, .getfield 82, 3, (5, 6, 132, 0)) := by decide +kernel
theorem fX5_copyFrom_53 : ftc 53 (me_ci mX5_copyFrom) = some (53, .putfield 82, 3, (5, 6, 132, 0)) := by decide +kernel
theorem fX5_copyFrom_56 : ftc 56 (me_ci mX5_copyFrom) = some (56, .aload_n 1, 1, (0, 0, 0, 0)) := by decide +kernel
theorem fX5_copyFrom_57 : ftc 57 (me_ci mX5_copyFrom) = some (57, .getfield 9, 3, (5, 7, 134, 0)) := by decide +kernel
theorem fX5_copyFrom_60 : ftc 60 (me_ci mX5_copyFrom) = some (60, .iconst 0, 1, (0, 0, 0, 0)) := by decide +kernel
theorem fX5_copyFrom_61 : ftc 61 (me_ci mX5_copyFrom) = some (61, .aload_n 0, 1, (0, 0, 0, 0)) := by decide +kernel
theorem fX5_copyFrom_62 : ftc 62 (me_ci mX5_copyFrom) = some (62, .getfield 9, 3, (5, 7, 134, 0)) := by decide +kernel
theorem fX5_copyFrom_65 : ftc 65 (me_ci mX5_copyFrom) = some (65, .iconst 0, 1, (0, 0, 0, 0)) := by decide +kernel
theorem fX5_copyFrom_66 : ftc 66 (me_ci mX5_copyFrom) = some (66, .iconst 4, 1, (0, 0, 0, 0)) := by decide +kernel
theorem fX5_copyFrom_67 : ftc 67 (me_ci mX5_copyFrom) = some (67, .invokestatic 53, 3, (101, 2, 0, 0)) := by decide +kernel
theorem fX5_copyFrom_70 : ftc 70 (me_ci mX5_copyFrom) = some (70, .aload_n 1, 1, (0, 0, 0, 0)) := by decide +kernel
theorem fX5_copyFrom_71 : ftc 71 (me_ci mX5_copyFrom) = some (71, .getfield 15, 3, (5, 8, 138, 0)) := by decide +kernel
theorem fX5_copyFrom_74 : ftc 74 (me_ci mX5_copyFrom) = some (74, .iconst 0, 1, (0, 0, 0, 0)) := by decide +kernel
theorem fX5_copyFrom_75 : ftc 75 (me_ci mX5_copyFrom) = some (75, .aload_n 0, 1, (0, 0, 0, 0)) := by decide +kernel
theorem fX5_copyFrom_76 : ftc 76 (me_ci mX5_copyFrom) = some (76, .getfield 15, 3, (5, 8, 138, 0)) := by decide +kernel
theorem fX5_copyFrom_79 : ftc 79 (me_ci mX5_copyFrom) = some (79, .iconst 0, 1, (0, 0, 0, 0)) := by decide +kernel
theorem fX5_copyFrom_80 : ftc 80 (me_ci mX5_copyFrom) = some (80, .iconst 4, 1, (0, 0, 0, 0)) := by decide +kernel
theorem fX5_copyFrom_81 : ftc 81 (me_ci mX5_copyFrom) = some (81, .invokestatic 53, 3, (101, 2, 0, 0)) := by decide +kernel
theorem fX5_copyFrom_84 : ftc 84 (me_ci mX5_copyFrom) = some (84, .aload_n 1, 1, (0, 0, 0, 0)) := by decide +kernel
theorem fX5_copyFrom_85 : ftc 85 (me_ci mX5_copyFrom) = some (85, .getfield 18, 3, (5, 9, 140, 0)) := by decide +kernel
theorem fX5_copyFrom_88 : ftc 88 (me_ci mX5_copyFrom) = some (88, .iconst 0, 1, (0, 0, 0, 0)) := by decide +kernel
theorem fX5_copyFrom_89 : ftc 89 (me_ci mX5_copyFrom) = some (89, .aload_n 0, 1, (0, 0, 0, 0)) := by decide +kernel
theorem fX5_copyFrom_90 : ftc 90 (me_ci mX5_copyFrom) = some (90, .getfield 18, 3, (5, 9, 140, 0)) := by decide +kernel
theorem fX5_copyFrom_93 : ftc 93 (me_ci mX5_copyFrom) = some (93, .iconst 0, 1, (0, 0, 0, 0)) := by decide +kernel
theorem fX5_copyFrom_94 : ftc 94 (me_ci mX5_copyFrom) = some (94, .iconst 4, 1, (0, 0, 0, 0)) := by decide +kernel
theorem fX5_copyFrom_95 : ftc 95 (me_ci mX5_copyFrom) = some (95, .invokestatic 53, 3, (101, 2, 0, 0)) := by decide +kernel
theorem fX5_copyFrom_98 : ftc 98 (me_ci mX5_copyFrom) = some (98, .aload_n 1, 1, (0, 0, 0, 0)) := by decide +kernel
theorem fX5_copyFrom_99 : ftc 99 (me_ci mX5_copyFrom) = some (99, .getfield 21, 3, (5, 10, 142, 0)) := by decide +kernel
theorem fX5_copyFrom_102 : ftc 102 (me_ci mX5_copyFrom) = some (102, .iconst 0, 1, (0, 0, 0, 0)) := by decide +kernel
theorem fX5_copyFrom_103 : ftc 103 (me_ci mX5_copyFrom) = some (103, .aload_n 0, 1, (0, 0, 0, 0)) := by decide +kernel
theorem fX5_copyFrom_104 : ftc 104 (me_ci mX5_copyFrom) = some (104, .getfield 21, 3, (5, 10, 142, 0)) := by decide +kernel
theorem fX5_copyFrom_107 : ftc 107 (me_ci mX5_copyFrom) = some (107, .iconst 0, 1, (0, 0, 0, 0)) := by decide +kernel
theorem fX5_copyFrom_108 : ftc 108 (me_ci mX5_copyFrom) = some (108, .iconst 4, 1, (0, 0, 0, 0)) := by decide +kernel
theorem fX5_copyFrom_109 : ftc 109 (me_ci mX5_copyFrom) = some (109, .invokestatic 53, 3, (101, 2, 0, 0)) := by decide +kernel
theorem fX5_copyFrom_112 : ftc 112 (me_ci mX5_copyFrom) = some (112, .aload_n 1, 1, (0, 0, 0, 0)) := by decide +kernel
theorem fX5_copyFrom_113 : ftc 113 (me_ci mX5_copyFrom) = some (113, .getfield 24, 3, (5, 11, 143, 0)) := by decide +kernel
theorem fX5_copyFrom_116 : ftc 116 (me_ci mX5_copyFrom) = some (116, .iconst 0, 1, (0, 0, 0, 0)) := by decide +kernel
theorem fX5_copyFrom_117 : ftc 117 (me_ci mX5_copyFrom) = some (117, .aload_n 0, 1, (0, 0, 0, 0)) := by decide +kernel
theorem fX5_copyFrom_118 : ftc 118 (me_ci mX5_copyFrom) = some (118, .getfield 24, 3, (5, 11, 143, 0)) := by decide +kernel
theorem fX5_copyFrom_121 : ftc 121 (me_ci mX5_copyFrom) = some (121, .iconst 0, 1, (0, 0, 0, 0)) := by decide +kernel
theorem fX5_copyFrom_122 : ftc 122 (me_ci mX5_copyFrom) = some (122, .iconst 4, 1, (0, 0, 0, 0)) := by decide +kernel
theorem fX5_copyFrom_123 : ftc 123 (me_ci mX5_copyFrom) = some (123, .invokestatic 53, 3, (101, 2, 0, 0)) := by decide +kernel
theorem fX5_copyFrom_126 : ftc 126 (me_ci mX5_copyFrom) = some (126, .aload_n 1, 1, (0, 0, 0, 0)) := by decide +kernel
theorem fX5_copyFrom_127 : ftc 127 (me_ci mX5_copyFrom) = some (127, .getfield 27, 3, (5, 12, 144, 0)) := by decide +kernel
theorem fX5_copyFrom_130 : ftc 130 (me_ci mX5_copyFrom) = some (130, .iconst 0, 1, (0, 0, 0, 0)) := by decide +kernel
theorem fX5_copyFrom_131 : ftc 131 (me_ci mX5_copyFrom) = some (131, .aload_n 0, 1, (0, 0, 0, 0)) := by decide +kernel
theorem fX5_copyFrom_132 : ftc 132 (me_ci mX5_copyFrom) = some (132, .getfield 27, 3, (5, 12, 144, 0)) := by decide +kernel
theorem fX5_copyFrom_135 : ftc 135 (me_ci mX5_copyFrom) = some (135, .iconst 0, 1, (0, 0, 0, 0)) := by decide +kernel
theorem fX5_copyFrom_136 : ftc 136 (me_ci mX5_copyFrom) = some (136, .iconst 4, 1, (0, 0, 0, 0)) := by decide +kernel
theorem fX5_copyFrom_137 : ftc 137 (me_ci mX5_copyFrom) = some (137, .invokestatic 53, 3, (101, 2, 0, 0)) := by decide +kernel
theorem fX5_copyFrom_140 : ftc 140 (me_ci mX5_copyFrom) = some (140, .aload_n 1, 1, (0, 0, 0, 0)) := by decide +kernel
theorem fX5_copyFrom_141 : ftc 141 (me_ci mX5_copyFrom) = some (141, .getfield 30, 3, (5, 13, 145, 0)) := by decide +kernel
theorem fX5_copyFrom_144 : ftc 144 (me_ci mX5_copyFrom) = some (144, .iconst 0, 1, (0, 0, 0, 0)) := by decide +kernel
theorem fX5_copyFrom_145 : ftc 145 (me_ci mX5_copyFrom) = some (145, .aload_n 0, 1, (0, 0, 0, 0)) := by decide +kernel
theorem fX5_copyFrom_146 : ftc 146 (me_ci mX5_copyFrom) = some (146, .getfield 30, 3, (5, 13, 145, 0)) := by decide +kernel
theorem fX5_copyFrom_149 : ftc 149 (me_ci mX5_copyFrom) = some (149, .iconst 0, 1, (0, 0, 0, 0)) := by decide +kernel
theorem fX5_copyFrom_150 : ftc 150 (me_ci mX5_copyFrom) = some (150, .iconst 3, 1, (0, 0, 0, 0)) := by decide +kernel
theorem fX5_copyFrom_151 : ftc 151 (me_ci mX5_copyFrom) = some (151, .invokestatic 53, 3, (101, 2, 0, 0)) := by decide +kernel
theorem fX5_copyFrom_154 : ftc 154 (me_ci mX5_copyFrom) = some (154, .aload_n 1, 1, (0, 0, 0, 0)) := by decide +kernel
theorem fX5_copyFrom_155 : ftc 155 (me_ci mX5_copyFrom) = some (155, .getfield 33, 3, (5, 14, 147, 0)) := by decide +kernel
theorem fX5_copyFrom_158 : ftc 158 (me_ci mX5_copyFrom) = some (158, .iconst 0, 1, (0, 0, 0, 0)) := by decide +kernel
theorem fX5_copyFrom_159 : ftc 159 (me_ci mX5_copyFrom) = some (159, .aload_n 0, 1, (0, 0, 0, 0)) := by decide +kernel
theorem fX5_copyFrom_160 : ftc 160 (me_ci mX5_copyFrom) = some (160, .getfield 33, 3, (5, 14, 147, 0)) := by decide +kernel
theorem fX5_copyFrom_163 : ftc 163 (me_ci mX5_copyFrom) = some (163, .iconst 0, 1, (0, 0, 0, 0)) := by decide +kernel
theorem fX5_copyFrom_164 : ftc 164 (me_ci mX5_copyFrom) = some (164, .bipush 20, 2, (0, 0, 0, 0)) := by decide +kernel
theorem fX5_copyFrom_166 : ftc 166 (me_ci mX5_copyFrom) = some (166, .invokestatic 53, 3, (101, 2, 0, 0)) := by decide +kernel
theorem fX5_copyFrom_169 : ftc 169 (me_ci mX5_copyFrom) = some (169, .aload_n 0, 1, (0, 0, 0, 0)) := by decide +kernel
theorem fX5_copyFrom_170 : ftc 170 (me_ci mX5_copyFrom) = some (170, .getfield 39, 3, (5, 15, 149, 0)) := by decide +kernel
theorem fX5_copyFrom_173 : ftc 173 (me_ci mX5_copyFrom) = some (173, .aload_n 1, 1, (0, 0, 0, 0)) := by decide +kernel
theorem fX5_copyFrom_174 : ftc 174 (me_ci mX5_copyFrom) = some (174, .getfield 39, 3, (5, 15, 149, 0)) := by decide +kernel
theorem fX5_copyFrom_177 : ftc 177 (me_ci mX5_copyFrom) = some (177, .invokevirtual 85, 3, (24, 0, 321, 0)) := by decide +kernel
theorem fX5_copyFrom_180 : ftc 180 (me_ci mX5_copyFrom) = some (180, .aload_n 0, 1, (0, 0, 0, 0)) := by decide +kernel
theorem fX5_copyFrom_181 : ftc 181 (me_ci mX5_copyFrom) = some (181, .getfield 46, 3, (5, 16, 151, 0)) := by decide +kernel
theorem fX5_copyFrom_184 : ftc 184 (me_ci mX5_copyFrom) = some (184, .aload_n 1, 1, (0, 0, 0, 0)) := by decide +kernel
theorem fX5_copyFrom_185 : ftc 185 (me_ci mX5_copyFrom) = some (185, .getfield 46, 3, (5, 16, 151, 0)) := by decide +kernel
theorem fX5_copyFrom_188 : ftc 188 (me_ci mX5_copyFrom) = some (188, .invokevirtual 89, 3, (18, 0, 326, 0)) := by decide +kernel
theorem fX5_copyFrom_191 : ftc 191 (me_ci mX5_copyFrom) = some (191, .return_, 1, (0, 0, 0, 0)) := by decide +kernel
theorem pX5_copyFrom : pg 29 = some mX5_copyFrom := by decide +kernel
theorem fX5_startGame_0 : ftc 0 (me_ci mX5_startGame) = some (0, .iload_n 1, 1, (0, 0, 0, 0)) := by decide +kernel
theorem fX5_startGame_1 : ftc 1 (me_ci mX5_startGame) = some (1, .iconst 2, 1, (0, 0, 0, 0)) := by decide +kernel
theorem fX5_startGame_2 : ftc 2 (me_ci mX5_startGame) = some (2, .if_icmp .lt 8, 3, (0, 0, 0, 0)) := by decide +kernel
theorem fX5_startGame_5 : ftc 5 (me_ci mX5_startGame) = some (5, .iload_n 1, 1, (0, 0, 0, 0)) := by decide +kernel
theorem fX5_startGame_6 : ftc 6 (me_ci mX5_startGame) = some (6, .iconst 4, 1, (0, 0, 0, 0)) := by decide +kernel
theorem fX5_startGame_7 : ftc 7 (me_ci mX5_startGame) = some (7, .if_icmp .le 6, 3, (0, 0, 0, 0)) := by decide +kernel
theorem fX5_startGame_10 : ftc 10 (me_ci mX5_startGame) = some (10, .ldc 92, 2, (108, 0, 0, -1000001)) := by decide +kernel
theorem fX5_startGame_12 : ftc 12 (me_ci mX5_startGame) = some (12, .ireturn, 1, (0, 0, 0, 0)) := by decide +kernel
theorem fX5_startGame_13 : ftc 13 (me_ci mX5_startGame) = some (13, .iload_n 2, 1, (0, 0, 0, 0)) := by decide +kernel
theorem fX5_startGame_14 : ftc 14 (me_ci mX5_startGame) = some (14, .ifCond .lt 9, 3, (0, 0, 0, 0)) := by decide +kernel
theorem fX5_startGame_17 : ftc 17 (me_ci mX5_startGame) = some (17, .iload_n 2, 1, (0, 0, 0, 0)) := by decide +kernel
theorem fX5_startGame_18 : ftc 18 (me_ci mX5_startGame) = some (18, .bipush 30, 2, (0, 0, 0, 0)) := by decide +kernel
theorem fX5_startGame_20 : ftc 20 (me_ci mX5_startGame) = some (20, .if_icmp .le 6, 3, (0, 0, 0, 0)) := by decide +kernel
theorem fX5_startGame_23 : ftc 23 (me_ci mX5_startGame) = some (23, .ldc 92, 2, (108, 0, 0, -1000001)) := by decide +kernel
theorem fX5_startGame_25 : ftc 25 (me_ci mX5_startGame) = some (25, .ireturn, 1, (0, 0, 0, 0)) := by decide +kernel
theorem fX5_startGame_26 : ftc 26 (me_ci mX5_startGame) = some (26, .aload_n 0, 1, (0, 0, 0, 0)) := by decide +kernel
theorem fX5_startGame_27 : ftc 27 (me_ci mX5_startGame) = some (27, .iload_n 1, 1, (0, 0, 0, 0)) := by decide +kernel
theorem fX5_startGame_28 : ftc 28 (me_ci mX5_startGame) = some (28, .putfield 63, 3, (5, 0, 121, 0)) := by decide +kernel
theorem fX5_startGame_31 : ftc 31 (me_ci mX5_startGame) = some (31, .aload_n 0, 1, (0, 0, 0, 0)) := by decide +kernel
theorem fX5_startGame_32 : ftc 32 (me_ci mX5_startGame) = some (32, .iconst 0, 1, (0, 0, 0, 0)) := by decide +kernel
theorem fX5_startGame_33 : ftc 33 (me_ci mX5_startGame) = some (33, .putfield 67, 3, (5, 1, 124, 0)) := by decide +kernel
theorem fX5_startGame_36 : ftc 36 (me_ci mX5_startGame) = some (36, .aload_n 0, 1, (0, 0, 0, 0)) := by decide +kernel
theorem fX5_startGame_37 : ftc 37 (me_ci mX5_startGame) = some (37, .iconst 0, 1, (0, 0, 0, 0)) := by decide +kernel
theorem fX5_startGame_38 : ftc 38 (me_ci mX5_startGame) = some (38, .putfield 70, 3, (5, 2, 126, 0)) := by decide +kernel
theorem fX5_startGame_41 : ftc 41 (me_ci mX5_startGame) = some (41, .aload_n 0, 1, (0, 0, 0, 0)) := by decide +kernel
theorem fX5_startGame_42 : ftc 42 (me_ci mX5_startGame) = some (42, .iconst 0, 1, (0, 0, 0, 0)) := by decide +kernel
theorem fX5_startGame_43 : ftc 43 (me_ci mX5_startGame) = some (43, .putfield 73, 3, (5, 3, 128, 0)) := by decide +kernel
theorem fX5_startGame_46 : ftc 46 (me_ci mX5_startGame) = some (46, .aload_n 0, 1, (0, 0, 0, 0)) := by decide +kernel
theorem fX5_startGame_47 : ftc 47 (me_ci mX5_startGame) = some (47, .iconst 0, 1, (0, 0, 0, 0)) := by decide +kernel
theorem fX5_startGame_48 : ftc 48 (me_ci mX5_startGame) = some (48, .putfield 76, 3, (5, 4, 129, 0)) := by decide +kernel
theorem fX5_startGame_51 : ftc 51 (me_ci mX5_startGame) = some (51, .aload_n 0, 1, (0, 0, 0, 0)) := by decide +kernel
theorem fX5_startGame_52 : ftc 52 (me_ci mX5_startGame) = some (52, .iconst 0, 1, (0, 0, 0, 0)) := by decide +kernel
theorem fX5_startGame_53 : ftc 53 (me_ci mX5_startGame) = some (53, .putfield 79, 3, (5, 5, 131, 0)) := by decide +kernel
theorem fX5_startGame_56 : ftc 56 (me_ci mX5_startGame) = some (56, .aload_n 0, 1, (0, 0, 0, 0)) := by decide +kernel
theorem fX5_startGame_57 : ftc 57 (me_ci mX5_startGame) = some (57, .iconst 0, 1, (0, 0, 0, 0)) := by decide +kernel
theorem fX5_startGame_58 : ftc 58 (me_ci mX5_startGame) = some (58, .putfield 82, 3, (5, 6, 132, 0)) := by decide +kernel
theorem fX5_startGame_61 : ftc 61 (me_ci mX5_startGame) = some (61, .iconst 0, 1, (0, 0, 0, 0)) := by decide +kernel
theorem fX5_startGame_62 : ftc 62 (me_ci mX5_startGame) = some (62, .istore_n 3, 1, (0, 0, 0, 0)) := by decide +kernel
theorem fX5_startGame_63 : ftc 63 (me_ci mX5_startGame) = some (63, .iload_n 3, 1, (0, 0, 0, 0)) := by decide +kernel
theorem fX5_startGame_64 : ftc 64 (me_ci mX5_startGame) = some (64, .iconst 4, 1, (0, 0, 0, 0)) := by decide +kernel
theorem fX5_startGame_65 : ftc 65 (me_ci mX5_startGame) = some (65, .if_icmp .ge 63, 3, (0, 0, 0, 0)) := by decide +kernel
theorem fX5_startGame_68 : ftc 68 (me_ci mX5_startGame) = some (68, .aload_n 0, 1, (0, 0, 0, 0)) := by decide +kernel
theorem fX5_startGame_69 : ftc 69 (me_ci mX5_startGame) = some (69, .getfield 9, 3, (5, 7, 134, 0)) := by decide +kernel
theorem fX5_startGame_72 : ftc 72 (me_ci mX5_startGame) = some (72, .iload_n 3, 1, (0, 0, 0, 0)) := by decide +kernel
theorem fX5_startGame_73 : ftc 73 (me_ci mX5_startGame) = some (73, .iload_n 3, 1, (0, 0, 0, 0)) := by decide +kernel
theorem fX5_startGame_74 : ftc 74 (me_ci mX5_startGame) = some (74, .aload_n 0, 1, (0, 0, 0, 0)) := by decide +kernel
theorem fX5_startGame_75 : ftc 75 (me_ci mX5_startGame) = some (75, .getfield 63, 3, (5, 0, 121, 0)) := by decide +kernel
theorem fX5_startGame_78 : ftc 78 (me_ci mX5_startGame) = some (78, .if_icmp .ge 7, 3, (0, 0, 0, 0)) := by decide +kernel
theorem fX5_startGame_81 : ftc 81 (me_ci mX5_startGame) = some (81, .iload_n 2, 1, (0, 0, 0, 0)) := by decide +kernel
theorem fX5_startGame_82 : ftc 82 (me_ci mX5_startGame) = some (82, .goto 4, 3, (0, 0, 0, 0)) := by decide +kernel
theorem fX5_startGame_85 : ftc 85 (me_ci mX5_startGame) = some (85, .iconst 0, 1, (0, 0, 0, 0)) := by decide +kernel
theorem fX5_startGame_86 : ftc 86 (me_ci mX5_startGame) = some (86, .iastore, 1, (0, 0, 0, 0)) := by decide +kernel
theorem fX5_startGame_87 : ftc 87 (me_ci mX5_startGame) = some (87, .aload_n 0, 1, (0, 0, 0, 0)) := by decide +kernel
theorem fX5_startGame_88 : ftc 88 (me_ci mX5_startGame) = some (88, .getfield 15, 3, (5, 8, 138, 0)) := by decide +kernel
theorem fX5_startGame_91 : ftc 91 (me_ci mX5_startGame) = some (91, .iload_n 3, 1, (0, 0, 0, 0)) := by decide +kernel
theorem fX5_startGame_92 : ftc 92 (me_ci mX5_startGame) = some (92, .iconst 0, 1, (0, 0, 0, 0)) := by decide +kernel
theorem fX5_startGame_93 : ftc 93 (me_ci mX5_startGame) = some (93, .iastore, 1, (0, 0, 0, 0)) := by decide +kernel
theorem fX5_startGame_94 : ftc 94 (me_ci mX5_startGame) = some (94, .aload_n 0, 1, (0, 0, 0, 0)) := by decide +kernel
theorem fX5_startGame_95 : ftc 95 (me_ci mX5_startGame) = some (95, .getfield 18, 3, (5, 9, 140, 0)) := by decide +kernel
theorem fX5_startGame_98 : ftc 98 (me_ci mX5_startGame) = some (98, .iload_n 3, 1, (0, 0, 0, 0)) := by decide +kernel
theorem fX5_startGame_99 : ftc 99 (me_ci mX5_startGame) = some (99, .iconst (-1), 1, (0, 0, 0, 0)) := by decide +kernel
theorem fX5_startGame_100 : ftc 100 (me_ci mX5_startGame) = some (100, .iastore, 1, (0, 0, 0, 0)) := by decide +kernel
theorem fX5_startGame_101 : ftc 101 (me_ci mX5_startGame) = some (101, .aload_n 0, 1, (0, 0, 0, 0)) := by decide +kernel
theorem fX5_startGame_102 : ftc 102 (me_ci mX5_startGame) = some (102, .getfield 21, 3, (5, 10, 142, 0)) := by decide +kernel
theorem fX5_startGame_105 : ftc 105 (me_ci mX5_startGame) = some (105, .iload_n 3, 1, (0, 0, 0, 0)) := by decide +kernel
theorem fX5_startGame_106 : ftc 106 (me_ci mX5_startGame) = some (106, .iconst 0, 1, (0, 0, 0, 0)) := by decide +kernel
theorem fX5_startGame_107 : ftc 107 (me_ci mX5_startGame) = some (107, .iastore, 1, (0, 0, 0, 0)) := by decide +kernel
theorem fX5_startGame_108 : ftc 108 (me_ci mX5_startGame) = some (108, .aload_n 0, 1, (0, 0, 0, 0)) := by decide +kernel
theorem fX5_startGame_109 : ftc 109 (me_ci mX5_startGame) = some (109, .getfield 24, 3, (5, 11, 143, 0)) := by decide +kernel
theorem fX5_startGame_112 : ftc 112 (me_ci mX5_startGame) = some (112, .iload_n 3, 1, (0, 0, 0, 0)) := by decide +kernel
theorem fX5_startGame_113 : ftc 113 (me_ci mX5_startGame) = some (113, .iconst 0, 1, (0, 0, 0, 0)) := by decide +kernel
theorem fX5_startGame_114 : ftc 114 (me_ci mX5_startGame) = some (114, .iastore, 1, (0, 0, 0, 0)) := by decide +kernel
theorem fX5_startGame_115 : ftc 115 (me_ci mX5_startGame) = some (115, .aload_n 0, 1, (0, 0, 0, 0)) := by decide +kernel
theorem fX5_startGame_116 : ftc 116 (me_ci mX5_startGame) = some (116, .getfield 27, 3, (5, 12, 144, 0)) := by decide +kernel
theorem fX5_startGame_119 : ftc 119 (me_ci mX5_startGame) = some (119, .iload_n 3, 1, (0, 0, 0, 0)) := by decide +kernel
theorem fX5_startGame_120 : ftc 120 (me_ci mX5_startGame) = some (120, .iconst 0, 1, (0, 0, 0, 0)) := by decide +kernel
theorem fX5_startGame_121 : ftc 121 (me_ci mX5_startGame) = some (121, .iastore, 1, (0, 0, 0, 0)) := by decide +kernel
theorem fX5_startGame_122 : ftc 122 (me_ci mX5_startGame) = some (122, .iinc 3 1, 3, (0, 0, 0, 0)) := by decide +kernel
theorem fX5_startGame_125 : ftc 125 (me_ci mX5_startGame) = some (125, .goto (-62), 3, (0, 0, 0, 0)) := by decide +kernel
theorem fX5_startGame_128 : ftc 128 (me_ci mX5_startGame) = some (128, .aload_n 0, 1, (0, 0, 0, 0)) := by decide +kernel
theorem fX5_startGame_129 : ftc 129 (me_ci mX5_startGame) = some (129, .getfield 39, 3, (5, 15, 149, 0)) := by decide +kernel
theorem fX5_startGame_132 : ftc 132 (me_ci mX5_startGame) = some (132, .invokevirtual 93, 3, (23, 0, 109, 0)) := by decide +kernel
theorem fX5_startGame_135 : ftc 135 (me_ci mX5_startGame) = some (135, .aload_n 0, 1, (0, 0, 0, 0)) := by decide +kernel
theorem fX5_startGame_136 : ftc 136 (me_ci mX5_startGame) = some (136, .getfield 46, 3, (5, 16, 151, 0)) := by decide +kernel
theorem fX5_startGame_139 : ftc 139 (me_ci mX5_startGame) = some (139, .invokevirtual 96, 3, (17, 0, 113, 0)) := by decide +kernel
theorem fX5_startGame_142 : ftc 142 (me_ci mX5_startGame) = some (142, .aload_n 0, 1, (0, 0, 0, 0)) := by decide +kernel
theorem fX5_startGame_143 : ftc 143 (me_ci mX5_startGame) = some (143, .invokevirtual 97, 3, (42, 0, 117, 0)) := by decide +kernel
theorem fX5_startGame_146 : ftc 146 (me_ci mX5_startGame) = some (146, .ireturn, 1, (0, 0, 0, 0)) := by decide +kernel
theorem pX5_startGame : pg 30 = some mX5_startGame := by decide +kernel
theorem fX5_addLot_0 : ftc 0 (me_ci mX5_addLot) = some (0, .iload_n 1, 1, (0, 0, 0, 0)) := by decide +kernel
theorem fX5_addLot_1 : ftc 1 (me_ci mX5_addLot) = some (1, .bipush (-9), 2, (0, 0, 0, 0)) := by decide +kernel
theorem fX5_addLot_3 : ftc 3 (me_ci mX5_addLot) = some (3, .if_icmp .lt 9, 3, (0, 0, 0, 0)) := by decide +kernel
theorem fX5_addLot_6 : ftc 6 (me_ci mX5_addLot) = some (6, .iload_n 1, 1, (0, 0, 0, 0)) := by decide +kernel
theorem fX5_addLot_7 : ftc 7 (me_ci mX5_addLot) = some (7, .bipush 20, 2, (0, 0, 0, 0)) := by decide +kernel
theorem fX5_addLot_9 : ftc 9 (me_ci mX5_addLot) = some (9, .if_icmp .le 6, 3, (0, 0, 0, 0)) := by decide +kernel
theorem fX5_addLot_12 : ftc 12 (me_ci mX5_addLot) = some (12, .ldc 92, 2, (108, 0, 0, -1000001)) := by decide +kernel
theorem fX5_addLot_14 : ftc 14 (me_ci mX5_addLot) = some (14, .ireturn, 1, (0, 0, 0, 0)) := by decide +kernel
theorem fX5_addLot_15 : ftc 15 (me_ci mX5_addLot) = some (15, .aload_n 0, 1, (0, 0, 0, 0)) := by decide +kernel
theorem fX5_addLot_16 : ftc 16 (me_ci mX5_addLot) = some (16, .getfield 76, 3, (5, 4, 129, 0)) := by decide +kernel
theorem fX5_addLot_19 : ftc 19 (me_ci mX5_addLot) = some (19, .aload_n 0, 1, (0, 0, 0, 0)) := by decide +kernel
theorem fX5_addLot_20 : ftc 20 (me_ci mX5_addLot) = some (20, .getfield 82, 3, (5, 6, 132, 0)) := by decide +kernel
theorem fX5_addLot_23 : ftc 23 (me_ci mX5_addLot) = some (23, .iadd, 1, (0, 0, 0, 0)) := by decide +kernel
theorem fX5_addLot_24 : ftc 24 (me_ci mX5_addLot) = some (24, .bipush 20, 2, (0, 0, 0, 0)) := by decide +kernel
theorem fX5_addLot_26 : ftc 26 (me_ci mX5_addLot) = some (26, .if_icmp .lt 6, 3, (0, 0, 0, 0)) := by decide +kernel
theorem fX5_addLot_29 : ftc 29 (me_ci mX5_addLot) = some (29, .ldc 101, 2, (352, 0, 0, -1000003)) := by decide +kernel
theorem fX5_addLot_31 : ftc 31 (me_ci mX5_addLot) = some (31, .ireturn, 1, (0, 0, 0, 0)) := by decide +kernel
theorem fX5_addLot_32 : ftc 32 (me_ci mX5_addLot) = some (32, .aload_n 0, 1, (0, 0, 0, 0)) := by decide +kernel
theorem fX5_addLot_33 : ftc 33 (me_ci mX5_addLot) = some (33, .getfield 33, 3, (5, 14, 147, 0)) := by decide +kernel
theorem fX5_addLot_36 : ftc 36 (me_ci mX5_addLot) = some (36, .aload_n 0, 1, (0, 0, 0, 0)) := by decide +kernel
theorem fX5_addLot_37 : ftc 37 (me_ci mX5_addLot) = some (37, .getfield 76, 3, (5, 4, 129, 0)) := by decide +kernel
theorem fX5_addLot_40 : ftc 40 (me_ci mX5_addLot) = some (40, .aload_n 0, 1, (0, 0, 0, 0)) := by decide +kernel
theorem fX5_addLot_41 : ftc 41 (me_ci mX5_addLot) = some (41, .getfield 82, 3, (5, 6, 132, 0)) := by decide +kernel
theorem fX5_addLot_44 : ftc 44 (me_ci mX5_addLot) = some (44, .iadd, 1, (0, 0, 0, 0)) := by decide +kernel
theorem fX5_addLot_45 : ftc 45 (me_ci mX5_addLot) = some (45, .iload_n 1, 1, (0, 0, 0, 0)) := by decide +kernel
theorem fX5_addLot_46 : ftc 46 (me_ci mX5_addLot) = some (46, .iastore, 1, (0, 0, 0, 0)) := by decide +kernel
theorem fX5_addLot_47 : ftc 47 (me_ci mX5_addLot) = some (47, .aload_n 0, 1, (0, 0, 0, 0)) := by decide +kernel
theorem fX5_addLot_48 : ftc 48 (me_ci mX5_addLot) = some (48, .dup, 1, (0, 0, 0, 0)) := by decide +kernel
theorem fX5_addLot_49 : ftc 49 (me_ci mX5_addLot) = some (49, .getfield 82, 3, (5, 6, 132, 0)) := by decide +kernel
theorem fX5_addLot_52 : ftc 52 (me_ci mX5_addLot) = some (52, .iconst 1, 1, (0, 0, 0, 0)) := by decide +kernel
theorem fX5_addLot_53 : ftc 53 (me_ci mX5_addLot) = some (53, .iadd, 1, (0, 0, 0, 0)) := by decide +kernel
theorem fX5_addLot_54 : ftc 54 (me_ci mX5_addLot) = some (54, .putfield 82, 3, (5, 6, 132, 0)) := by decide +kernel
theorem fX5_addLot_57 : ftc 57 (me_ci mX5_addLot) = some (57, .aload_n 0, 1, (0, 0, 0, 0)) := by decide +kernel
theorem fX5_addLot_58 : ftc 58 (me_ci mX5_addLot) = some (58, .getfield 82, 3, (5, 6, 132, 0)) := by decide +kernel
theorem fX5_addLot_61 : ftc 61 (me_ci mX5_addLot) = some (61, .ireturn, 1, (0, 0, 0, 0)) := by decide +kernel
theorem pX5_addLot : pg 31 = some mX5_addLot := by decide +kernel
theorem fX5_makeBid_0 : ftc 0 (me_ci mX5_makeBid) = some (0, .aload_n 0, 1, (0, 0, 0, 0)) := by decide +kernel
theorem fX5_makeBid_1 : ftc 1 (me_ci mX5_makeBid) = some (1, .iload_n 1, 1, (0, 0, 0, 0)) := by decide +kernel
theorem fX5_makeBid_2 : ftc 2 (me_ci mX5_makeBid) = some (2, .invokevirtual 102, 3, (36, 0, 361, 0)) := by decide +kernel
theorem fX5_makeBid_5 : ftc 5 (me_ci mX5_makeBid) = some (5, .ifCond .eq 7, 3, (0, 0, 0, 0)) := by decide +kernel
theorem fX5_makeBid_8 : ftc 8 (me_ci mX5_makeBid) = some (8, .iload_n 2, 1, (0, 0, 0, 0)) := by decide +kernel
theorem fX5_makeBid_9 : ftc 9 (me_ci mX5_makeBid) = some (9, .ifCond .ge 6, 3, (0, 0, 0, 0)) := by decide +kernel
theorem fX5_makeBid_12 : ftc 12 (me_ci mX5_makeBid) = some (12, .ldc 92, 2, (108, 0, 0, -1000001)) := by decide +kernel
theorem fX5_makeBid_14 : ftc 14 (me_ci mX5_makeBid) = some (14, .ireturn, 1, (0, 0, 0, 0)) := by decide +kernel
theorem fX5_makeBid_15 : ftc 15 (me_ci mX5_makeBid) = some (15, .aload_n 0, 1, (0, 0, 0, 0)) := by decide +kernel
theorem fX5_makeBid_16 : ftc 16 (me_ci mX5_makeBid) = some (16, .invokevirtual 106, 3, (37, 0, 365, 0)) := by decide +kernel
theorem fX5_makeBid_19 : ftc 19 (me_ci mX5_makeBid) = some (19, .ifCond .ne 13, 3, (0, 0, 0, 0)) := by decide +kernel
theorem fX5_makeBid_22 : ftc 22 (me_ci mX5_makeBid) = some (22, .iload_n 2, 1, (0, 0, 0, 0)) := by decide +kernel
theorem fX5_makeBid_23 : ftc 23 (me_ci mX5_makeBid) = some (23, .aload_n 0, 1, (0, 0, 0, 0)) := by decide +kernel
theorem fX5_makeBid_24 : ftc 24 (me_ci mX5_makeBid) = some (24, .getfield 9, 3, (5, 7, 134, 0)) := by decide +kernel
theorem fX5_makeBid_27 : ftc 27 (me_ci mX5_makeBid) = some (27, .iload_n 1, 1, (0, 0, 0, 0)) := by decide +kernel
theorem fX5_makeBid_28 : ftc 28 (me_ci mX5_makeBid) = some (28, .iaload, 1, (0, 0, 0, 0)) := by decide +kernel
theorem fX5_makeBid_29 : ftc 29 (me_ci mX5_makeBid) = some (29, .if_icmp .le 6, 3, (0, 0, 0, 0)) := by decide +kernel
theorem fX5_makeBid_32 : ftc 32 (me_ci mX5_makeBid) = some (32, .ldc 110, 2, (369, 0, 0, -1000002)) := by decide +kernel
theorem fX5_makeBid_34 : ftc 34 (me_ci mX5_makeBid) = some (34, .ireturn, 1, (0, 0, 0, 0)) := by decide +kernel
theorem fX5_makeBid_35 : ftc 35 (me_ci mX5_makeBid) = some (35, .aload_n 0, 1, (0, 0, 0, 0)) := by decide +kernel
theorem fX5_makeBid_36 : ftc 36 (me_ci mX5_makeBid) = some (36, .getfield 18, 3, (5, 9, 140, 0)) := by decide +kernel
theorem fX5_makeBid_39 : ftc 39 (me_ci mX5_makeBid) = some (39, .iload_n 1, 1, (0, 0, 0, 0)) := by decide +kernel
theorem fX5_makeBid_40 : ftc 40 (me_ci mX5_makeBid) = some (40, .iload_n 2, 1, (0, 0, 0, 0)) := by decide +kernel
theorem fX5_makeBid_41 : ftc 41 (me_ci mX5_makeBid) = some (41, .iastore, 1, (0, 0, 0, 0)) := by decide +kernel
theorem fX5_makeBid_42 : ftc 42 (me_ci mX5_makeBid) = some (42, .aload_n 0, 1, (0, 0, 0, 0)) := by decide +kernel
theorem fX5_makeBid_43 : ftc 43 (me_ci mX5_makeBid) = some (43, .invokevirtual 111, 3, (39, 0, 370, 0)) := by decide +kernel
theorem fX5_makeBid_46 : ftc 46 (me_ci mX5_makeBid) = some (46, .ireturn, 1, (0, 0, 0, 0)) := by decide +kernel
theorem pX5_makeBid : pg 32 = some mX5_makeBid := by decide +kernel
theorem fX5_changeSetting_0 : ftc 0 (me_ci mX5_changeSetting) = some (0, .iload_n 1, 1, (0, 0, 0, 0)) := by decide +kernel
theorem fX5_changeSetting_1 : ftc 1 (me_ci mX5_changeSetting) = some (1, .ifCond .lt 8, 3, (0, 0, 0, 0)) := by decide +kernel
theorem fX5_changeSetting_4 : ftc 4 (me_ci mX5_changeSetting) = some (4, .iload_n 1, 1, (0, 0, 0, 0)) := by decide +kernel
theorem fX5_changeSetting_5 : ftc 5 (me_ci mX5_changeSetting) = some (5, .iconst 3, 1, (0, 0, 0, 0)) := by decide +kernel
theorem fX5_changeSetting_6 : ftc 6 (me_ci mX5_changeSetting) = some (6, .if_icmp .lt 6, 3, (0, 0, 0, 0)) := by decide +kernel
theorem fX5_changeSetting_9 : ftc 9 (me_ci mX5_changeSetting) = some (9, .ldc 92, 2, (108, 0, 0, -1000001)) := by decide +kernel
theorem fX5_changeSetting_11 : ftc 11 (me_ci mX5_changeSetting) = some (11, .ireturn, 1, (0, 0, 0, 0)) := by decide +kernel
theorem fX5_changeSetting_12 : ftc 12 (me_ci mX5_changeSetting) = some (12, .iload_n 2, 1, (0, 0, 0, 0)) := by decide +kernel
theorem fX5_changeSetting_13 : ftc 13 (me_ci mX5_changeSetting) = some (13, .ifCond .lt 12, 3, (0, 0, 0, 0)) := by decide +kernel
theorem fX5_changeSetting_16 : ftc 16 (me_ci mX5_changeSetting) = some (16, .iload_n 2, 1, (0, 0, 0, 0)) := by decide +kernel
theorem fX5_changeSetting_17 : ftc 17 (me_ci mX5_changeSetting) = some (17, .getstatic 114, 3, (2, 6, 0, 0)) := by decide +kernel
theorem fX5_changeSetting_20 : ftc 20 (me_ci mX5_changeSetting) = some (20, .iload_n 1, 1, (0, 0, 0, 0)) := by decide +kernel
theorem fX5_changeSetting_21 : ftc 21 (me_ci mX5_changeSetting) = some (21, .iaload, 1, (0, 0, 0, 0)) := by decide +kernel
theorem fX5_changeSetting_22 : ftc 22 (me_ci mX5_changeSetting) = some (22, .if_icmp .le 6, 3, (0, 0, 0, 0)) := by decide +kernel
theorem fX5_changeSetting_25 : ftc 25 (me_ci mX5_changeSetting) = some (25, .ldc 92, 2, (108, 0, 0, -1000001)) := by decide +kernel
theorem fX5_changeSetting_27 : ftc 27 (me_ci mX5_changeSetting) = some (27, .ireturn, 1, (0, 0, 0, 0)) := by decide +kernel
theorem fX5_changeSetting_28 : ftc 28 (me_ci mX5_changeSetting) = some (28, .aload_n 0, 1, (0, 0, 0, 0)) := by decide +kernel
theorem fX5_changeSetting_29 : ftc 29 (me_ci mX5_changeSetting) = some (29, .getfield 30, 3, (5, 13, 145, 0)) := by decide +kernel
theorem fX5_changeSetting_32 : ftc 32 (me_ci mX5_changeSetting) = some (32, .iload_n 1, 1, (0, 0, 0, 0)) := by decide +kernel
theorem fX5_changeSetting_33 : ftc 33 (me_ci mX5_changeSetting) = some (33, .iaload, 1, (0, 0, 0, 0)) := by decide +kernel
theorem fX5_changeSetting_34 : ftc 34 (me_ci mX5_changeSetting) = some (34, .istore_n 3, 1, (0, 0, 0, 0)) := by decide +kernel
theorem fX5_changeSetting_35 : ftc 35 (me_ci mX5_changeSetting) = some (35, .aload_n 0, 1, (0, 0, 0, 0)) := by decide +kernel
theorem fX5_changeSetting_36 : ftc 36 (me_ci mX5_changeSetting) = some (36, .getfield 30, 3, (5, 13, 145, 0)) := by decide +kernel
theorem fX5_changeSetting_39 : ftc 39 (me_ci mX5_changeSetting) = some (39, .iload_n 1, 1, (0, 0, 0, 0)) := by decide +kernel
theorem fX5_changeSetting_40 : ftc 40 (me_ci mX5_changeSetting) = some (40, .iload_n 2, 1, (0, 0, 0, 0)) := by decide +kernel
theorem fX5_changeSetting_41 : ftc 41 (me_ci mX5_changeSetting) = some (41, .iastore, 1, (0, 0, 0, 0)) := by decide +kernel
theorem fX5_changeSetting_42 : ftc 42 (me_ci mX5_changeSetting) = some (42, .iload_n 3, 1, (0, 0, 0, 0)) := by decide +kernel
theorem fX5_changeSetting_43 : ftc 43 (me_ci mX5_changeSetting) = some (43, .ireturn, 1, (0, 0, 0, 0)) := by decide +kernel
theorem pX5_changeSetting : pg 33 = some mX5_changeSetting := by decide +kernel
theorem fX5_settle_0 : ftc 0 (me_ci mX5_settle) = some (0, .aload_n 0, 1, (0, 0, 0, 0)) := by decide +kernel
theorem fX5_settle_1 : ftc 1 (me_ci mX5_settle) = some (1, .invokevirtual 106, 3, (37, 0, 365, 0)) := by decide +kernel
theorem fX5_settle_4 : ftc 4 (me_ci mX5_settle) = some (4, .ifCond .ne 14, 3, (0, 0, 0, 0)) := by decide +kernel
theorem fX5_settle_7 : ftc 7 (me_ci mX5_settle) = some (7, .aload_n 0, 1, (0, 0, 0, 0)) := by decide +kernel
theorem fX5_settle_8 : ftc 8 (me_ci mX5_settle) = some (8, .invokevirtual 111, 3, (39, 0, 370, 0)) := by decide +kernel
theorem fX5_settle_11 : ftc 11 (me_ci mX5_settle) = some (11, .aload_n 0, 1, (0, 0, 0, 0)) := by decide +kernel
theorem fX5_settle_12 : ftc 12 (me_ci mX5_settle) = some (12, .getfield 63, 3, (5, 0, 121, 0)) := by decide +kernel
theorem fX5_settle_15 : ftc 15 (me_ci mX5_settle) = some (15, .if_icmp .ge 6, 3, (0, 0, 0, 0)) := by decide +kernel
theorem fX5_settle_18 : ftc 18 (me_ci mX5_settle) = some (18, .ldc 110, 2, (369, 0, 0, -1000002)) := by decide +kernel
theorem fX5_settle_20 : ftc 20 (me_ci mX5_settle) = some (20, .ireturn, 1, (0, 0, 0, 0)) := by decide +kernel
theorem fX5_settle_21 : ftc 21 (me_ci mX5_settle) = some (21, .aload_n 1, 1, (0, 0, 0, 0)) := by decide +kernel
theorem fX5_settle_22 : ftc 22 (me_ci mX5_settle) = some (22, .aload_n 0, 1, (0, 0, 0, 0)) := by decide +kernel
theorem fX5_settle_23 : ftc 23 (me_ci mX5_settle) = some (23, .aload_n 0, 1, (0, 0, 0, 0)) := by decide +kernel
theorem fX5_settle_24 : ftc 24 (me_ci mX5_settle) = some (24, .getfield 18, 3, (5, 9, 140, 0)) := by decide +kernel
theorem fX5_settle_27 : ftc 27 (me_ci mX5_settle) = some (27, .invokevirtual 117, 3, (11, 0, 382, 0)) := by decide +kernel
theorem fX5_settle_30 : ftc 30 (me_ci mX5_settle) = some (30, .aload_n 0, 1, (0, 0, 0, 0)) := by decide +kernel
theorem fX5_settle_31 : ftc 31 (me_ci mX5_settle) = some (31, .invokevirtual 123, 3, (38, 0, 401, 0)) := by decide +kernel
theorem fX5_settle_34 : ftc 34 (me_ci mX5_settle) = some (34, .istore_n 2, 1, (0, 0, 0, 0)) := by decide +kernel
theorem fX5_settle_35 : ftc 35 (me_ci mX5_settle) = some (35, .aload_n 0, 1, (0, 0, 0, 0)) := by decide +kernel
theorem fX5_settle_36 : ftc 36 (me_ci mX5_settle) = some (36, .getfield 39, 3, (5, 15, 149, 0)) := by decide +kernel
theorem fX5_settle_39 : ftc 39 (me_ci mX5_settle) = some (39, .aload_n 1, 1, (0, 0, 0, 0)) := by decide +kernel
theorem fX5_settle_40 : ftc 40 (me_ci mX5_settle) = some (40, .iload_n 2, 1, (0, 0, 0, 0)) := by decide +kernel
theorem fX5_settle_41 : ftc 41 (me_ci mX5_settle) = some (41, .aload_n 0, 1, (0, 0, 0, 0)) := by decide +kernel
theorem fX5_settle_42 : ftc 42 (me_ci mX5_settle) = some (42, .getfield 18, 3, (5, 9, 140, 0)) := by decide +kernel
theorem fX5_settle_45 : ftc 45 (me_ci mX5_settle) = some (45, .invokevirtual 126, 3, (25, 0, 405, 0)) := by decide +kernel
theorem fX5_settle_48 : ftc 48 (me_ci mX5_settle) = some (48, .iconst 0, 1, (0, 0, 0, 0)) := by decide +kernel
theorem fX5_settle_49 : ftc 49 (me_ci mX5_settle) = some (49, .istore_n 3, 1, (0, 0, 0, 0)) := by decide +kernel
theorem fX5_settle_50 : ftc 50 (me_ci mX5_settle) = some (50, .iload_n 3, 1, (0, 0, 0, 0)) := by decide +kernel
theorem fX5_settle_51 : ftc 51 (me_ci mX5_settle) = some (51, .aload_n 0, 1, (0, 0, 0, 0)) := by decide +kernel
theorem fX5_settle_52 : ftc 52 (me_ci mX5_settle) = some (52, .getfield 63, 3, (5, 0, 121, 0)) := by decide +kernel
theorem fX5_settle_55 : ftc 55 (me_ci mX5_settle) = some (55, .if_icmp .ge 85, 3, (0, 0, 0, 0)) := by decide +kernel
theorem fX5_settle_58 : ftc 58 (me_ci mX5_settle) = some (58, .aload_n 0, 1, (0, 0, 0, 0)) := by decide +kernel
theorem fX5_settle_59 : ftc 59 (me_ci mX5_settle) = some (59, .getfield 46, 3, (5, 16, 151, 0)) := by decide +kernel
theorem fX5_settle_62 : ftc 62 (me_ci mX5_settle) = some (62, .iload_n 3, 1, (0, 0, 0, 0)) := by decide +kernel
theorem fX5_settle_63 : ftc 63 (me_ci mX5_settle) = some (63, .aload_n 0, 1, (0, 0, 0, 0)) := by decide +kernel
theorem fX5_settle_64 : ftc 64 (me_ci mX5_settle) = some (64, .getfield 18, 3, (5, 9, 140, 0)) := by decide +kernel
theorem fX5_settle_67 : ftc 67 (me_ci mX5_settle) = some (67, .iload_n 3, 1, (0, 0, 0, 0)) := by decide +kernel
theorem fX5_settle_68 : ftc 68 (me_ci mX5_settle) = some (68, .iaload, 1, (0, 0, 0, 0)) := by decide +kernel
theorem fX5_settle_69 : ftc 69 (me_ci mX5_settle) = some (69, .iload_n 3, 1, (0, 0, 0, 0)) := by decide +kernel
theorem fX5_settle_70 : ftc 70 (me_ci mX5_settle) = some (70, .aload_n 1, 1, (0, 0, 0, 0)) := by decide +kernel
theorem fX5_settle_71 : ftc 71 (me_ci mX5_settle) = some (71, .getfield 130, 3, (2, 0, 247, 0)) := by decide +kernel
theorem fX5_settle_74 : ftc 74 (me_ci mX5_settle) = some (74, .if_icmp .ne 7, 3, (0, 0, 0, 0)) := by decide +kernel
theorem fX5_settle_77 : ftc 77 (me_ci mX5_settle) = some (77, .iconst 1, 1, (0, 0, 0, 0)) := by decide +kernel
theorem fX5_settle_78 : ftc 78 (me_ci mX5_settle) = some (78, .goto 4, 3, (0, 0, 0, 0)) := by decide +kernel
theorem fX5_settle_81 : ftc 81 (me_ci mX5_settle) = some (81, .iconst 0, 1, (0, 0, 0, 0)) := by decide +kernel
theorem fX5_settle_82 : ftc 82 (me_ci mX5_settle) = some (82, .invokevirtual 133, 3, (19, 0, 410, 0)) := by decide +kernel
theorem fX5_settle_85 : ftc 85 (me_ci mX5_settle) = some (85, .aload_n 0, 1, (0, 0, 0, 0)) := by decide +kernel
theorem fX5_settle_86 : ftc 86 (me_ci mX5_settle) = some (86, .getfield 9, 3, (5, 7, 134, 0)) := by decide +kernel
theorem fX5_settle_89 : ftc 89 (me_ci mX5_settle) = some (89, .iload_n 3, 1, (0, 0, 0, 0)) := by decide +kernel
theorem fX5_settle_90 : ftc 90 (me_ci mX5_settle) = some (90, .aload_n 1, 1, (0, 0, 0, 0)) := by decide +kernel
theorem fX5_settle_91 : ftc 91 (me_ci mX5_settle) = some (91, .aload_n 0, 1, (0, 0, 0, 0)) := by decide +kernel
theorem fX5_settle_92 : ftc 92 (me_ci mX5_settle) = some (92, .iload_n 3, 1, (0, 0, 0, 0)) := by decide +kernel
theorem fX5_settle_93 : ftc 93 (me_ci mX5_settle) = some (93, .invokevirtual 137, 3, (15, 0, 418, 0)) := by decide +kernel
theorem fX5_settle_96 : ftc 96 (me_ci mX5_settle) = some (96, .iastore, 1, (0, 0, 0, 0)) := by decide +kernel
theorem fX5_settle_97 : ftc 97 (me_ci mX5_settle) = some (97, .aload_n 0, 1, (0, 0, 0, 0)) := by decide +kernel
theorem fX5_settle_98 : ftc 98 (me_ci mX5_settle) = some (98, .getfield 24, 3, (5, 11, 143, 0)) := by decide +kernel
theorem fX5_settle_101 : ftc 101 (me_ci mX5_settle) = some (101, .iload_n 3, 1, (0, 0, 0, 0)) := by decide +kernel
theorem fX5_settle_102 : ftc 102 (me_ci mX5_settle) = some (102, .dup2, 1, (0, 0, 0, 0)) := by decide +kernel
theorem fX5_settle_103 : ftc 103 (me_ci mX5_settle) = some (103, .iaload, 1, (0, 0, 0, 0)) := by decide +kernel
theorem fX5_settle_104 : ftc 104 (me_ci mX5_settle) = some (104, .aload_n 1, 1, (0, 0, 0, 0)) := by decide +kernel
theorem fX5_settle_105 : ftc 105 (me_ci mX5_settle) = some (105, .getfield 141, 3, (2, 4, 255, 0)) := by decide +kernel
theorem fX5_settle_108 : ftc 108 (me_ci mX5_settle) = some (108, .iload_n 3, 1, (0, 0, 0, 0)) := by decide +kernel
theorem fX5_settle_109 : ftc 109 (me_ci mX5_settle) = some (109, .iaload, 1, (0, 0, 0, 0)) := by decide +kernel
theorem fX5_settle_110 : ftc 110 (me_ci mX5_settle) = some (110, .iadd, 1, (0, 0, 0, 0)) := by decide +kernel
theorem fX5_settle_111 : ftc 111 (me_ci mX5_settle) = some (111, .iastore, 1, (0, 0, 0, 0)) := by decide +kernel
theorem fX5_settle_112 : ftc 112 (me_ci mX5_settle) = some (112, .aload_n 0, 1, (0, 0, 0, 0)) := by decide +kernel
theorem fX5_settle_113 : ftc 113 (me_ci mX5_settle) = some (113, .getfield 27, 3, (5, 12, 144, 0)) := by decide +kernel
theorem fX5_settle_116 : ftc 116 (me_ci mX5_settle) = some (116, .iload_n 3, 1, (0, 0, 0, 0)) := by decide +kernel
theorem fX5_settle_117 : ftc 117 (me_ci mX5_settle) = some (117, .dup2, 1, (0, 0, 0, 0)) := by decide +kernel
theorem fX5_settle_118 : ftc 118 (me_ci mX5_settle) = some (118, .iaload, 1, (0, 0, 0, 0)) := by decide +kernel
theorem fX5_settle_119 : ftc 119 (me_ci mX5_settle) = some (119, .aload_n 1, 1, (0, 0, 0, 0)) := by decide +kernel
theorem fX5_settle_120 : ftc 120 (me_ci mX5_settle) = some (120, .getfield 142, 3, (2, 5, 257, 0)) := by decide +kernel
theorem fX5_settle_123 : ftc 123 (me_ci mX5_settle) = some (123, .iload_n 3, 1, (0, 0, 0, 0)) := by decide +kernel
theorem fX5_settle_124 : ftc 124 (me_ci mX5_settle) = some (124, .iaload, 1, (0, 0, 0, 0)) := by decide +kernel
theorem fX5_settle_125 : ftc 125 (me_ci mX5_settle) = some (125, .iadd, 1, (0, 0, 0, 0)) := by decide +kernel
theorem fX5_settle_126 : ftc 126 (me_ci mX5_settle) = some (126, .iastore, 1, (0, 0, 0, 0)) := by decide +kernel
theorem fX5_settle_127 : ftc 127 (me_ci mX5_settle) = some (127, .aload_n 0, 1, (0, 0, 0, 0)) := by decide +kernel
theorem fX5_settle_128 : ftc 128 (me_ci mX5_settle) = some (128, .getfield 18, 3, (5, 9, 140, 0)) := by decide +kernel
theorem fX5_settle_131 : ftc 131 (me_ci mX5_settle) = some (131, .iload_n 3, 1, (0, 0, 0, 0)) := by decide +kernel
theorem fX5_settle_132 : ftc 132 (me_ci mX5_settle) = some (132, .iconst (-1), 1, (0, 0, 0, 0)) := by decide +kernel
theorem fX5_settle_133 : ftc 133 (me_ci mX5_settle) = some (133, .iastore, 1, (0, 0, 0, 0)) := by decide +kernel
theorem fX5_settle_134 : ftc 134 (me_ci mX5_settle) = some (134, .iinc 3 1, 3, (0, 0, 0, 0)) := by decide +kernel
theorem fX5_settle_137 : ftc 137 (me_ci mX5_settle) = some (137, .goto (-87), 3, (0, 0, 0, 0)) := by decide +kernel
theorem fX5_settle_140 : ftc 140 (me_ci mX5_settle) = some (140, .aload_n 0, 1, (0, 0, 0, 0)) := by decide +kernel
theorem fX5_settle_141 : ftc 141 (me_ci mX5_settle) = some (141, .aload_n 1, 1, (0, 0, 0, 0)) := by decide +kernel
theorem fX5_settle_142 : ftc 142 (me_ci mX5_settle) = some (142, .getfield 143, 3, (2, 3, 253, 0)) := by decide +kernel
theorem fX5_settle_145 : ftc 145 (me_ci mX5_settle) = some (145, .putfield 67, 3, (5, 1, 124, 0)) := by decide +kernel
theorem fX5_settle_148 : ftc 148 (me_ci mX5_settle) = some (148, .aload_n 0, 1, (0, 0, 0, 0)) := by decide +kernel
theorem fX5_settle_149 : ftc 149 (me_ci mX5_settle) = some (149, .dup, 1, (0, 0, 0, 0)) := by decide +kernel
theorem fX5_settle_150 : ftc 150 (me_ci mX5_settle) = some (150, .getfield 70, 3, (5, 2, 126, 0)) := by decide +kernel
theorem fX5_settle_153 : ftc 153 (me_ci mX5_settle) = some (153, .iconst 1, 1, (0, 0, 0, 0)) := by decide +kernel
theorem fX5_settle_154 : ftc 154 (me_ci mX5_settle) = some (154, .iadd, 1, (0, 0, 0, 0)) := by decide +kernel
theorem fX5_settle_155 : ftc 155 (me_ci mX5_settle) = some (155, .putfield 70, 3, (5, 2, 126, 0)) := by decide +kernel
theorem fX5_settle_158 : ftc 158 (me_ci mX5_settle) = some (158, .aload_n 0, 1, (0, 0, 0, 0)) := by decide +kernel
theorem fX5_settle_159 : ftc 159 (me_ci mX5_settle) = some (159, .dup, 1, (0, 0, 0, 0)) := by decide +kernel
theorem fX5_settle_160 : ftc 160 (me_ci mX5_settle) = some (160, .getfield 76, 3, (5, 4, 129, 0)) := by decide +kernel
theorem fX5_settle_163 : ftc 163 (me_ci mX5_settle) = some (163, .iconst 1, 1, (0, 0, 0, 0)) := by decide +kernel
theorem fX5_settle_164 : ftc 164 (me_ci mX5_settle) = some (164, .iadd, 1, (0, 0, 0, 0)) := by decide +kernel
theorem fX5_settle_165 : ftc 165 (me_ci mX5_settle) = some (165, .putfield 76, 3, (5, 4, 129, 0)) := by decide +kernel
theorem fX5_settle_168 : ftc 168 (me_ci mX5_settle) = some (168, .aload_n 0, 1, (0, 0, 0, 0)) := by decide +kernel
theorem fX5_settle_169 : ftc 169 (me_ci mX5_settle) = some (169, .dup, 1, (0, 0, 0, 0)) := by decide +kernel
theorem fX5_settle_170 : ftc 170 (me_ci mX5_settle) = some (170, .getfield 82, 3, (5, 6, 132, 0)) := by decide +kernel
theorem fX5_settle_173 : ftc 173 (me_ci mX5_settle) = some (173, .iconst 1, 1, (0, 0, 0, 0)) := by decide +kernel
theorem fX5_settle_174 : ftc 174 (me_ci mX5_settle) = some (174, .isub, 1, (0, 0, 0, 0)) := by decide +kernel
theorem fX5_settle_175 : ftc 175 (me_ci mX5_settle) = some (175, .putfield 82, 3, (5, 6, 132, 0)) := by decide +kernel
theorem fX5_settle_178 : ftc 178 (me_ci mX5_settle) = some (178, .aload_n 1, 1, (0, 0, 0, 0)) := by decide +kernel
theorem fX5_settle_179 : ftc 179 (me_ci mX5_settle) = some (179, .getfield 130, 3, (2, 0, 247, 0)) := by decide +kernel
theorem fX5_settle_182 : ftc 182 (me_ci mX5_settle) = some (182, .iconst (-1), 1, (0, 0, 0, 0)) := by decide +kernel
theorem fX5_settle_183 : ftc 183 (me_ci mX5_settle) = some (183, .if_icmp .ne 21, 3, (0, 0, 0, 0)) := by decide +kernel
theorem fX5_settle_186 : ftc 186 (me_ci mX5_settle) = some (186, .aload_n 0, 1, (0, 0, 0, 0)) := by decide +kernel
theorem fX5_settle_187 : ftc 187 (me_ci mX5_settle) = some (187, .dup, 1, (0, 0, 0, 0)) := by decide +kernel
theorem fX5_settle_188 : ftc 188 (me_ci mX5_settle) = some (188, .getfield 73, 3, (5, 3, 128, 0)) := by decide +kernel
theorem fX5_settle_191 : ftc 191 (me_ci mX5_settle) = some (191, .iconst 1, 1, (0, 0, 0, 0)) := by decide +kernel
theorem fX5_settle_192 : ftc 192 (me_ci mX5_settle) = some (192, .iadd, 1, (0, 0, 0, 0)) := by decide +kernel
theorem fX5_settle_193 : ftc 193 (me_ci mX5_settle) = some (193, .putfield 73, 3, (5, 3, 128, 0)) := by decide +kernel
theorem fX5_settle_196 : ftc 196 (me_ci mX5_settle) = some (196, .aload_n 0, 1, (0, 0, 0, 0)) := by decide +kernel
theorem fX5_settle_197 : ftc 197 (me_ci mX5_settle) = some (197, .iload_n 2, 1, (0, 0, 0, 0)) := by decide +kernel
theorem fX5_settle_198 : ftc 198 (me_ci mX5_settle) = some (198, .putfield 79, 3, (5, 5, 131, 0)) := by decide +kernel
theorem fX5_settle_201 : ftc 201 (me_ci mX5_settle) = some (201, .goto 33, 3, (0, 0, 0, 0)) := by decide +kernel
theorem fX5_settle_204 : ftc 204 (me_ci mX5_settle) = some (204, .aload_n 0, 1, (0, 0, 0, 0)) := by decide +kernel
theorem fX5_settle_205 : ftc 205 (me_ci mX5_settle) = some (205, .getfield 21, 3, (5, 10, 142, 0)) := by decide +kernel
theorem fX5_settle_208 : ftc 208 (me_ci mX5_settle) = some (208, .aload_n 1, 1, (0, 0, 0, 0)) := by decide +kernel
theorem fX5_settle_209 : ftc 209 (me_ci mX5_settle) = some (209, .getfield 130, 3, (2, 0, 247, 0)) := by decide +kernel
theorem fX5_settle_212 : ftc 212 (me_ci mX5_settle) = some (212, .dup2, 1, (0, 0, 0, 0)) := by decide +kernel
theorem fX5_settle_213 : ftc 213 (me_ci mX5_settle) = some (213, .iaload, 1, (0, 0, 0, 0)) := by decide +kernel
theorem fX5_settle_214 : ftc 214 (me_ci mX5_settle) = some (214, .iconst 1, 1, (0, 0, 0, 0)) := by decide +kernel
theorem fX5_settle_215 : ftc 215 (me_ci mX5_settle) = some (215, .iadd, 1, (0, 0, 0, 0)) := by decide +kernel
theorem fX5_settle_216 : ftc 216 (me_ci mX5_settle) = some (216, .iastore, 1, (0, 0, 0, 0)) := by decide +kernel
theorem fX5_settle_217 : ftc 217 (me_ci mX5_settle) = some (217, .aload_n 0, 1, (0, 0, 0, 0)) := by decide +kernel
theorem fX5_settle_218 : ftc 218 (me_ci mX5_settle) = some (218, .getfield 15, 3, (5, 8, 138, 0)) := by decide +kernel
theorem fX5_settle_221 : ftc 221 (me_ci mX5_settle) = some (221, .aload_n 1, 1, (0, 0, 0, 0)) := by decide +kernel
theorem fX5_settle_222 : ftc 222 (me_ci mX5_settle) = some (222, .getfield 130, 3, (2, 0, 247, 0)) := by decide +kernel
theorem fX5_settle_225 : ftc 225 (me_ci mX5_settle) = some (225, .dup2, 1, (0, 0, 0, 0)) := by decide +kernel
theorem fX5_settle_226 : ftc 226 (me_ci mX5_settle) = some (226, .iaload, 1, (0, 0, 0, 0)) := by decide +kernel
theorem fX5_settle_227 : ftc 227 (me_ci mX5_settle) = some (227, .iload_n 2, 1, (0, 0, 0, 0)) := by decide +kernel
theorem fX5_settle_228 : ftc 228 (me_ci mX5_settle) = some (228, .iadd, 1, (0, 0, 0, 0)) := by decide +kernel
theorem fX5_settle_229 : ftc 229 (me_ci mX5_settle) = some (229, .iastore, 1, (0, 0, 0, 0)) := by decide +kernel
theorem fX5_settle_230 : ftc 230 (me_ci mX5_settle) = some (230, .aload_n 0, 1, (0, 0, 0, 0)) := by decide +kernel
theorem fX5_settle_231 : ftc 231 (me_ci mX5_settle) = some (231, .invokevirtual 144, 3, (35, 0, 422, 0)) := by decide +kernel
theorem fX5_settle_234 : ftc 234 (me_ci mX5_settle) = some (234, .aload_n 1, 1, (0, 0, 0, 0)) := by decide +kernel
theorem fX5_settle_235 : ftc 235 (me_ci mX5_settle) = some (235, .getfield 130, 3, (2, 0, 247, 0)) := by decide +kernel
theorem fX5_settle_238 : ftc 238 (me_ci mX5_settle) = some (238, .ireturn, 1, (0, 0, 0, 0)) := by decide +kernel
theorem pX5_settle : pg 34 = some mX5_settle := by decide +kernel
theorem fX5_emptyTable_0 : ftc 0 (me_ci mX5_emptyTable) = some (0, .iconst 0, 1, (0, 0, 0, 0)) := by decide +kernel
theorem fX5_emptyTable_1 : ftc 1 (me_ci mX5_emptyTable) = some (1, .istore_n 1, 1, (0, 0, 0, 0)) := by decide +kernel
theorem fX5_emptyTable_2 : ftc 2 (me_ci mX5_emptyTable) = some (2, .iload_n 1, 1, (0, 0, 0, 0)) := by decide +kernel
theorem fX5_emptyTable_3 : ftc 3 (me_ci mX5_emptyTable) = some (3, .aload_n 0, 1, (0, 0, 0, 0)) := by decide +kernel
theorem fX5_emptyTable_4 : ftc 4 (me_ci mX5_emptyTable) = some (4, .getfield 82, 3, (5, 6, 132, 0)) := by decide +kernel
theorem fX5_emptyTable_7 : ftc 7 (me_ci mX5_emptyTable) = some (7, .if_icmp .ge 26, 3, (0, 0, 0, 0)) := by decide +kernel
theorem fX5_emptyTable_10 : ftc 10 (me_ci mX5_emptyTable) = some (10, .aload_n 0, 1, (0, 0, 0, 0)) := by decide +kernel
theorem fX5_emptyTable_11 : ftc 11 (me_ci mX5_emptyTable) = some (11, .getfield 33, 3, (5, 14, 147, 0)) := by decide +kernel
theorem fX5_emptyTable_14 : ftc 14 (me_ci mX5_emptyTable) = some (14, .iload_n 1, 1, (0, 0, 0, 0)) := by decide +kernel
theorem fX5_emptyTable_15 : ftc 15 (me_ci mX5_emptyTable) = some (15, .aload_n 0, 1, (0, 0, 0, 0)) := by decide +kernel
theorem fX5_emptyTable_16 : ftc 16 (me_ci mX5_emptyTable) = some (16, .getfield 33, 3, (5, 14, 147, 0)) := by decide +kernel
theorem fX5_emptyTable_19 : ftc 19 (me_ci mX5_emptyTable) = some (19, .aload_n 0, 1, (0, 0, 0, 0)) := by decide +kernel
theorem fX5_emptyTable_20 : ftc 20 (me_ci mX5_emptyTable) = some (20, .getfield 76, 3, (5, 4, 129, 0)) := by decide +kernel
theorem fX5_emptyTable_23 : ftc 23 (me_ci mX5_emptyTable) = some (23, .iload_n 1, 1, (0, 0, 0, 0)) := by decide +kernel
theorem fX5_emptyTable_24 : ftc 24 (me_ci mX5_emptyTable) = some (24, .iadd, 1, (0, 0, 0, 0)) := by decide +kernel
theorem fX5_emptyTable_25 : ftc 25 (me_ci mX5_emptyTable) = some (25, .iaload, 1, (0, 0, 0, 0)) := by decide +kernel
theorem fX5_emptyTable_26 : ftc 26 (me_ci mX5_emptyTable) = some (26, .iastore, 1, (0, 0, 0, 0)) := by decide +kernel
theorem fX5_emptyTable_27 : ftc 27 (me_ci mX5_emptyTable) = some (27, .iinc 1 1, 3, (0, 0, 0, 0)) := by decide +kernel
theorem fX5_emptyTable_30 : ftc 30 (me_ci mX5_emptyTable) = some (30, .goto (-28), 3, (0, 0, 0, 0)) := by decide +kernel
theorem fX5_emptyTable_33 : ftc 33 (me_ci mX5_emptyTable) = some (33, .aload_n 0, 1, (0, 0, 0, 0)) := by decide +kernel
theorem fX5_emptyTable_34 : ftc 34 (me_ci mX5_emptyTable) = some (34, .iconst 0, 1, (0, 0, 0, 0)) := by decide +kernel
theorem fX5_emptyTable_35 : ftc 35 (me_ci mX5_emptyTable) = some (35, .putfield 76, 3, (5, 4, 129, 0)) := by decide +kernel
theorem fX5_emptyTable_38 : ftc 38 (me_ci mX5_emptyTable) = some (38, .aload_n 0, 1, (0, 0, 0, 0)) := by decide +kernel
theorem fX5_emptyTable_39 : ftc 39 (me_ci mX5_emptyTable) = some (39, .iconst 0, 1, (0, 0, 0, 0)) := by decide +kernel
theorem fX5_emptyTable_40 : ftc 40 (me_ci mX5_emptyTable) = some (40, .putfield 79, 3, (5, 5, 131, 0)) := by decide +kernel
theorem fX5_emptyTable_43 : ftc 43 (me_ci mX5_emptyTable) = some (43, .return_, 1, (0, 0, 0, 0)) := by decide +kernel
theorem pX5_emptyTable : pg 35 = some mX5_emptyTable := by decide +kernel
theorem fX5_hasPlayer_0 : ftc 0 (me_ci mX5_hasPlayer) = some (0, .iload_n 1, 1, (0, 0, 0, 0)) := by decide +kernel
theorem fX5_hasPlayer_1 : ftc 1 (me_ci mX5_hasPlayer) = some (1, .ifCond .lt 15, 3, (0, 0, 0, 0)) := by decide +kernel
theorem fX5_hasPlayer_4 : ftc 4 (me_ci mX5_hasPlayer) = some (4, .iload_n 1, 1, (0, 0, 0, 0)) := by decide +kernel
theorem fX5_hasPlayer_5 : ftc 5 (me_ci mX5_hasPlayer) = some (5, .aload_n 0, 1, (0, 0, 0, 0)) := by decide +kernel
theorem fX5_hasPlayer_6 : ftc 6 (me_ci mX5_hasPlayer) = some (6, .getfield 63, 3, (5, 0, 121, 0)) := by decide +kernel
theorem fX5_hasPlayer_9 : ftc 9 (me_ci mX5_hasPlayer) = some (9, .if_icmp .ge 7, 3, (0, 0, 0, 0)) := by decide +kernel
theorem fX5_hasPlayer_12 : ftc 12 (me_ci mX5_hasPlayer) = some (12, .iconst 1, 1, (0, 0, 0, 0)) := by decide +kernel
theorem fX5_hasPlayer_13 : ftc 13 (me_ci mX5_hasPlayer) = some (13, .goto 4, 3, (0, 0, 0, 0)) := by decide +kernel
theorem fX5_hasPlayer_16 : ftc 16 (me_ci mX5_hasPlayer) = some (16, .iconst 0, 1, (0, 0, 0, 0)) := by decide +kernel
theorem fX5_hasPlayer_17 : ftc 17 (me_ci mX5_hasPlayer) = some (17, .ireturn, 1, (0, 0, 0, 0)) := by decide +kernel
theorem pX5_hasPlayer : pg 36 = some mX5_hasPlayer := by decide +kernel
theorem fX5_isOver_0 : ftc 0 (me_ci mX5_isOver) = some (0, .aload_n 0, 1, (0, 0, 0, 0)) := by decide +kernel
theorem fX5_isOver_1 : ftc 1 (me_ci mX5_isOver) = some (1, .getfield 82, 3, (5, 6, 132, 0)) := by decide +kernel
theorem fX5_isOver_4 : ftc 4 (me_ci mX5_isOver) = some (4, .ifCond .ne 7, 3, (0, 0, 0, 0)) := by decide +kernel
theorem fX5_isOver_7 : ftc 7 (me_ci mX5_isOver) = some (7, .iconst 1, 1, (0, 0, 0, 0)) := by decide +kernel
theorem fX5_isOver_8 : ftc 8 (me_ci mX5_isOver) = some (8, .goto 4, 3, (0, 0, 0, 0)) := by decide +kernel
theorem fX5_isOver_11 : ftc 11 (me_ci mX5_isOver) = some (11, .iconst 0, 1, (0, 0, 0, 0)) := by decide +kernel
theorem fX5_isOver_12 : ftc 12 (me_ci mX5_isOver) = some (12, .ireturn, 1, (0, 0, 0, 0)) := by decide +kernel
theorem pX5_isOver : pg 37 = some mX5_isOver := by decide +kernel
theorem fX5_nextStake_0 : ftc 0 (me_ci mX5_nextStake) = some (0, .aload_n 0, 1, (0, 0, 0, 0)) := by decide +kernel
theorem fX5_nextStake_1 : ftc 1 (me_ci mX5_nextStake) = some (1, .invokevirtual 106, 3, (37, 0, 365, 0)) := by decide +kernel
theorem fX5_nextStake_4 : ftc 4 (me_ci mX5_nextStake) = some (4, .ifCond .eq 10, 3, (0, 0, 0, 0)) := by decide +kernel
theorem fX5_nextStake_7 : ftc 7 (me_ci mX5_nextStake) = some (7, .aload_n 0, 1, (0, 0, 0, 0)) := by decide +kernel
theorem fX5_nextStake_8 : ftc 8 (me_ci mX5_nextStake) = some (8, .getfield 79, 3, (5, 5, 131, 0)) := by decide +kernel
theorem fX5_nextStake_11 : ftc 11 (me_ci mX5_nextStake) = some (11, .goto 17, 3, (0, 0, 0, 0)) := by decide +kernel
theorem fX5_nextStake_14 : ftc 14 (me_ci mX5_nextStake) = some (14, .aload_n 0, 1, (0, 0, 0, 0)) := by decide +kernel
theorem fX5_nextStake_15 : ftc 15 (me_ci mX5_nextStake) = some (15, .getfield 79, 3, (5, 5, 131, 0)) := by decide +kernel
theorem fX5_nextStake_18 : ftc 18 (me_ci mX5_nextStake) = some (18, .aload_n 0, 1, (0, 0, 0, 0)) := by decide +kernel
theorem fX5_nextStake_19 : ftc 19 (me_ci mX5_nextStake) = some (19, .getfield 33, 3, (5, 14, 147, 0)) := by decide +kernel
theorem fX5_nextStake_22 : ftc 22 (me_ci mX5_nextStake) = some (22, .aload_n 0, 1, (0, 0, 0, 0)) := by decide +kernel
theorem fX5_nextStake_23 : ftc 23 (me_ci mX5_nextStake) = some (23, .getfield 76, 3, (5, 4, 129, 0)) := by decide +kernel
theorem fX5_nextStake_26 : ftc 26 (me_ci mX5_nextStake) = some (26, .iaload, 1, (0, 0, 0, 0)) := by decide +kernel
theorem fX5_nextStake_27 : ftc 27 (me_ci mX5_nextStake) = some (27, .iadd, 1, (0, 0, 0, 0)) := by decide +kernel
theorem fX5_nextStake_28 : ftc 28 (me_ci mX5_nextStake) = some (28, .ireturn, 1, (0, 0, 0, 0)) := by decide +kernel
theorem pX5_nextStake : pg 38 = some mX5_nextStake := by decide +kernel
theorem fX5_bidCount_0 : ftc 0 (me_ci mX5_bidCount) = some (0, .iconst 0, 1, (0, 0, 0, 0)) := by decide +kernel
theorem fX5_bidCount_1 : ftc 1 (me_ci mX5_bidCount) = some (1, .istore_n 1, 1, (0, 0, 0, 0)) := by decide +kernel
theorem fX5_bidCount_2 : ftc 2 (me_ci mX5_bidCount) = some (2, .iconst 0, 1, (0, 0, 0, 0)) := by decide +kernel
theorem fX5_bidCount_3 : ftc 3 (me_ci mX5_bidCount) = some (3, .istore_n 2, 1, (0, 0, 0, 0)) := by decide +kernel
theorem fX5_bidCount_4 : ftc 4 (me_ci mX5_bidCount) = some (4, .iload_n 2, 1, (0, 0, 0, 0)) := by decide +kernel
theorem fX5_bidCount_5 : ftc 5 (me_ci mX5_bidCount) = some (5, .aload_n 0, 1, (0, 0, 0, 0)) := by decide +kernel
theorem fX5_bidCount_6 : ftc 6 (me_ci mX5_bidCount) = some (6, .getfield 63, 3, (5, 0, 121, 0)) := by decide +kernel
theorem fX5_bidCount_9 : ftc 9 (me_ci mX5_bidCount) = some (9, .if_icmp .ge 22, 3, (0, 0, 0, 0)) := by decide +kernel
theorem fX5_bidCount_12 : ftc 12 (me_ci mX5_bidCount) = some (12, .aload_n 0, 1, (0, 0, 0, 0)) := by decide +kernel
theorem fX5_bidCount_13 : ftc 13 (me_ci mX5_bidCount) = some (13, .getfield 18, 3, (5, 9, 140, 0)) := by decide +kernel
theorem fX5_bidCount_16 : ftc 16 (me_ci mX5_bidCount) = some (16, .iload_n 2, 1, (0, 0, 0, 0)) := by decide +kernel
theorem fX5_bidCount_17 : ftc 17 (me_ci mX5_bidCount) = some (17, .iaload, 1, (0, 0, 0, 0)) := by decide +kernel
theorem fX5_bidCount_18 : ftc 18 (me_ci mX5_bidCount) = some (18, .iconst (-1), 1, (0, 0, 0, 0)) := by decide +kernel
theorem fX5_bidCount_19 : ftc 19 (me_ci mX5_bidCount) = some (19, .if_icmp .eq 6, 3, (0, 0, 0, 0)) := by decide +kernel
theorem fX5_bidCount_22 : ftc 22 (me_ci mX5_bidCount) = some (22, .iinc 1 1, 3, (0, 0, 0, 0)) := by decide +kernel
theorem fX5_bidCount_25 : ftc 25 (me_ci mX5_bidCount) = some (25, .iinc 2 1, 3, (0, 0, 0, 0)) := by decide +kernel
theorem fX5_bidCount_28 : ftc 28 (me_ci mX5_bidCount) = some (28, .goto (-24), 3, (0, 0, 0, 0)) := by decide +kernel
theorem fX5_bidCount_31 : ftc 31 (me_ci mX5_bidCount) = some (31, .iload_n 1, 1, (0, 0, 0, 0)) := by decide +kernel
theorem fX5_bidCount_32 : ftc 32 (me_ci mX5_bidCount) = some (32, .ireturn, 1, (0, 0, 0, 0)) := by decide +kernel
theorem pX5_bidCount : pg 39 = some mX5_bidCount := by decide +kernel
theorem fX5_othersHaveBids_0 : ftc 0 (me_ci mX5_othersHaveBids) = some (0, .iconst 0, 1, (0, 0, 0, 0)) := by decide +kernel
theorem fX5_othersHaveBids_1 : ftc 1 (me_ci mX5_othersHaveBids) = some (1, .istore_n 2, 1, (0, 0, 0, 0)) := by decide +kernel
theorem fX5_othersHaveBids_2 : ftc 2 (me_ci mX5_othersHaveBids) = some (2, .iload_n 2, 1, (0, 0, 0, 0)) := by decide +kernel
theorem fX5_othersHaveBids_3 : ftc 3 (me_ci mX5_othersHaveBids) = some (3, .aload_n 0, 1, (0, 0, 0, 0)) := by decide +kernel
theorem fX5_othersHaveBids_4 : ftc 4 (me_ci mX5_othersHaveBids) = some (4, .getfield 63, 3, (5, 0, 121, 0)) := by decide +kernel
theorem fX5_othersHaveBids_7 : ftc 7 (me_ci mX5_othersHaveBids) = some (7, .if_icmp .ge 26, 3, (0, 0, 0, 0)) := by decide +kernel
theorem fX5_othersHaveBids_10 : ftc 10 (me_ci mX5_othersHaveBids) = some (10, .iload_n 2, 1, (0, 0, 0, 0)) := by decide +kernel
theorem fX5_othersHaveBids_11 : ftc 11 (me_ci mX5_othersHaveBids) = some (11, .iload_n 1, 1, (0, 0, 0, 0)) := by decide +kernel
theorem fX5_othersHaveBids_12 : ftc 12 (me_ci mX5_othersHaveBids) = some (12, .if_icmp .eq 15, 3, (0, 0, 0, 0)) := by decide +kernel
theorem fX5_othersHaveBids_15 : ftc 15 (me_ci mX5_othersHaveBids) = some (15, .aload_n 0, 1, (0, 0, 0, 0)) := by decide +kernel
theorem fX5_othersHaveBids_16 : ftc 16 (me_ci mX5_othersHaveBids) = some (16, .getfield 18, 3, (5, 9, 140, 0)) := by decide +kernel
theorem fX5_othersHaveBids_19 : ftc 19 (me_ci mX5_othersHaveBids) = some (19, .iload_n 2, 1, (0, 0, 0, 0)) := by decide +kernel
theorem fX5_othersHaveBids_20 : ftc 20 (me_ci mX5_othersHaveBids) = some (20, .iaload, 1, (0, 0, 0, 0)) := by decide +kernel
theorem fX5_othersHaveBids_21 : ftc 21 (me_ci mX5_othersHaveBids) = some (21, .iconst (-1), 1, (0, 0, 0, 0)) := by decide +kernel
theorem fX5_othersHaveBids_22 : ftc 22 (me_ci mX5_othersHaveBids) = some (22, .if_icmp .ne 5, 3, (0, 0, 0, 0)) := by decide +kernel
theorem fX5_othersHaveBids_25 : ftc 25 (me_ci mX5_othersHaveBids) = some (25, .iconst 0, 1, (0, 0, 0, 0)) := by decide +kernel
theorem fX5_othersHaveBids_26 : ftc 26 (me_ci mX5_othersHaveBids) = some (26, .ireturn, 1, (0, 0, 0, 0)) := by decide +kernel
theorem fX5_othersHaveBids_27 : ftc 27 (me_ci mX5_othersHaveBids) = some (27, .iinc 2 1, 3, (0, 0, 0, 0)) := by decide +kernel
theorem fX5_othersHaveBids_30 : ftc 30 (me_ci mX5_othersHaveBids) = some (30, .goto (-28), 3, (0, 0, 0, 0)) := by decide +kernel
theorem fX5_othersHaveBids_33 : ftc 33 (me_ci mX5_othersHaveBids) = some (33, .iconst 1, 1, (0, 0, 0, 0)) := by decide +kernel
theorem fX5_othersHaveBids_34 : ftc 34 (me_ci mX5_othersHaveBids) = some (34, .ireturn, 1, (0, 0, 0, 0)) := by decide +kernel
theorem pX5_othersHaveBids : pg 40 = some mX5_othersHaveBids := by decide +kernel
theorem fX5_mostCoinsOfOthers_0 : ftc 0 (me_ci mX5_mostCoinsOfOthers) = some (0, .iconst 0, 1, (0, 0, 0, 0)) := by decide +kernel
theorem fX5_mostCoinsOfOthers_1 : ftc 1 (me_ci mX5_mostCoinsOfOthers) = some (1, .istore_n 2, 1, (0, 0, 0, 0)) := by decide +kernel
theorem fX5_mostCoinsOfOthers_2 : ftc 2 (me_ci mX5_mostCoinsOfOthers) = some (2, .iconst 0, 1, (0, 0, 0, 0)) := by decide +kernel
theorem fX5_mostCoinsOfOthers_3 : ftc 3 (me_ci mX5_mostCoinsOfOthers) = some (3, .istore_n 3, 1, (0, 0, 0, 0)) := by decide +kernel
theorem fX5_mostCoinsOfOthers_4 : ftc 4 (me_ci mX5_mostCoinsOfOthers) = some (4, .iload_n 3, 1, (0, 0, 0, 0)) := by decide +kernel
theorem fX5_mostCoinsOfOthers_5 : ftc 5 (me_ci mX5_mostCoinsOfOthers) = some (5, .aload_n 0, 1, (0, 0, 0, 0)) := by decide +kernel
theorem fX5_mostCoinsOfOthers_6 : ftc 6 (me_ci mX5_mostCoinsOfOthers) = some (6, .getfield 63, 3, (5, 0, 121, 0)) := by decide +kernel
theorem fX5_mostCoinsOfOthers_9 : ftc 9 (me_ci mX5_mostCoinsOfOthers) = some (9, .if_icmp .ge 25, 3, (0, 0, 0, 0)) := by decide +kernel
theorem fX5_mostCoinsOfOthers_12 : ftc 12 (me_ci mX5_mostCoinsOfOthers) = some (12, .iload_n 3, 1, (0, 0, 0, 0)) := by decide +kernel
theorem fX5_mostCoinsOfOthers_13 : ftc 13 (me_ci mX5_mostCoinsOfOthers) = some (13, .iload_n 1, 1, (0, 0, 0, 0)) := by decide +kernel
theorem fX5_mostCoinsOfOthers_14 : ftc 14 (me_ci mX5_mostCoinsOfOthers) = some (14, .if_icmp .eq 14, 3, (0, 0, 0, 0)) := by decide +kernel
theorem fX5_mostCoinsOfOthers_17 : ftc 17 (me_ci mX5_mostCoinsOfOthers) = some (17, .iload_n 2, 1, (0, 0, 0, 0)) := by decide +kernel
theorem fX5_mostCoinsOfOthers_18 : ftc 18 (me_ci mX5_mostCoinsOfOthers) = some (18, .aload_n 0, 1, (0, 0, 0, 0)) := by decide +kernel
theorem fX5_mostCoinsOfOthers_19 : ftc 19 (me_ci mX5_mostCoinsOfOthers) = some (19, .getfield 9, 3, (5, 7, 134, 0)) := by decide +kernel
theorem fX5_mostCoinsOfOthers_22 : ftc 22 (me_ci mX5_mostCoinsOfOthers) = some (22, .iload_n 3, 1, (0, 0, 0, 0)) := by decide +kernel
theorem fX5_mostCoinsOfOthers_23 : ftc 23 (me_ci mX5_mostCoinsOfOthers) = some (23, .iaload, 1, (0, 0, 0, 0)) := by decide +kernel
theorem fX5_mostCoinsOfOthers_24 : ftc 24 (me_ci mX5_mostCoinsOfOthers) = some (24, .invokestatic 147, 3, (503, 3, 0, 0)) := by decide +kernel
theorem fX5_mostCoinsOfOthers_27 : ftc 27 (me_ci mX5_mostCoinsOfOthers) = some (27, .istore_n 2, 1, (0, 0, 0, 0)) := by decide +kernel
theorem fX5_mostCoinsOfOthers_28 : ftc 28 (me_ci mX5_mostCoinsOfOthers) = some (28, .iinc 3 1, 3, (0, 0, 0, 0)) := by decide +kernel
theorem fX5_mostCoinsOfOthers_31 : ftc 31 (me_ci mX5_mostCoinsOfOthers) = some (31, .goto (-27), 3, (0, 0, 0, 0)) := by decide +kernel
theorem fX5_mostCoinsOfOthers_34 : ftc 34 (me_ci mX5_mostCoinsOfOthers) = some (34, .iload_n 2, 1, (0, 0, 0, 0)) := by decide +kernel
theorem fX5_mostCoinsOfOthers_35 : ftc 35 (me_ci mX5_mostCoinsOfOthers) = some (35, .ireturn, 1, (0, 0, 0, 0)) := by decide +kernel
theorem pX5_mostCoinsOfOthers : pg 41 = some mX5_mostCoinsOfOthers := by decide +kernel
theorem fX5_allCoins_0 : ftc 0 (me_ci mX5_allCoins) = some (0, .aload_n 0, 1, (0, 0, 0, 0)) := by decide +kernel
theorem fX5_allCoins_1 : ftc 1 (me_ci mX5_allCoins) = some (1, .getfield 67, 3, (5, 1, 124, 0)) := by decide +kernel
theorem fX5_allCoins_4 : ftc 4 (me_ci mX5_allCoins) = some (4, .istore_n 1, 1, (0, 0, 0, 0)) := by decide +kernel
theorem fX5_allCoins_5 : ftc 5 (me_ci mX5_allCoins) = some (5, .iconst 0, 1, (0, 0, 0, 0)) := by decide +kernel
theorem fX5_allCoins_6 : ftc 6 (me_ci mX5_allCoins) = some (6, .istore_n 2, 1, (0, 0, 0, 0)) := by decide +kernel
theorem fX5_allCoins_7 : ftc 7 (me_ci mX5_allCoins) = some (7, .iload_n 2, 1, (0, 0, 0, 0)) := by decide +kernel
theorem fX5_allCoins_8 : ftc 8 (me_ci mX5_allCoins) = some (8, .aload_n 0, 1, (0, 0, 0, 0)) := by decide +kernel
theorem fX5_allCoins_9 : ftc 9 (me_ci mX5_allCoins) = some (9, .getfield 63, 3, (5, 0, 121, 0)) := by decide +kernel
theorem fX5_allCoins_12 : ftc 12 (me_ci mX5_allCoins) = some (12, .if_icmp .ge 18, 3, (0, 0, 0, 0)) := by decide +kernel
theorem fX5_allCoins_15 : ftc 15 (me_ci mX5_allCoins) = some (15, .iload_n 1, 1, (0, 0, 0, 0)) := by decide +kernel
theorem fX5_allCoins_16 : ftc 16 (me_ci mX5_allCoins) = some (16, .aload_n 0, 1, (0, 0, 0, 0)) := by decide +kernel
theorem fX5_allCoins_17 : ftc 17 (me_ci mX5_allCoins) = some (17, .getfield 9, 3, (5, 7, 134, 0)) := by decide +kernel
theorem fX5_allCoins_20 : ftc 20 (me_ci mX5_allCoins) = some (20, .iload_n 2, 1, (0, 0, 0, 0)) := by decide +kernel
theorem fX5_allCoins_21 : ftc 21 (me_ci mX5_allCoins) = some (21, .iaload, 1, (0, 0, 0, 0)) := by decide +kernel
theorem fX5_allCoins_22 : ftc 22 (me_ci mX5_allCoins) = some (22, .iadd, 1, (0, 0, 0, 0)) := by decide +kernel
theorem fX5_allCoins_23 : ftc 23 (me_ci mX5_allCoins) = some (23, .istore_n 1, 1, (0, 0, 0, 0)) := by decide +kernel
theorem fX5_allCoins_24 : ftc 24 (me_ci mX5_allCoins) = some (24, .iinc 2 1, 3, (0, 0, 0, 0)) := by decide +kernel
theorem fX5_allCoins_27 : ftc 27 (me_ci mX5_allCoins) = some (27, .goto (-20), 3, (0, 0, 0, 0)) := by decide +kernel
theorem fX5_allCoins_30 : ftc 30 (me_ci mX5_allCoins) = some (30, .iload_n 1, 1, (0, 0, 0, 0)) := by decide +kernel
theorem fX5_allCoins_31 : ftc 31 (me_ci mX5_allCoins) = some (31, .ireturn, 1, (0, 0, 0, 0)) := by decide +kernel
theorem pX5_allCoins : pg 42 = some mX5_allCoins := by decide +kernel
theorem fX5_leader_0 : ftc 0 (me_ci mX5_leader) = some (0, .iconst 0, 1, (0, 0, 0, 0)) := by decide +kernel
theorem fX5_leader_1 : ftc 1 (me_ci mX5_leader) = some (1, .istore_n 1, 1, (0, 0, 0, 0)) := by decide +kernel
theorem fX5_leader_2 : ftc 2 (me_ci mX5_leader) = some (2, .iconst 1, 1, (0, 0, 0, 0)) := by decide +kernel
theorem fX5_leader_3 : ftc 3 (me_ci mX5_leader) = some (3, .istore_n 2, 1, (0, 0, 0, 0)) := by decide +kernel
theorem fX5_leader_4 : ftc 4 (me_ci mX5_leader) = some (4, .iload_n 2, 1, (0, 0, 0, 0)) := by decide +kernel
theorem fX5_leader_5 : ftc 5 (me_ci mX5_leader) = some (5, .aload_n 0, 1, (0, 0, 0, 0)) := by decide +kernel
theorem fX5_leader_6 : ftc 6 (me_ci mX5_leader) = some (6, .getfield 63, 3, (5, 0, 121, 0)) := by decide +kernel
theorem fX5_leader_9 : ftc 9 (me_ci mX5_leader) = some (9, .if_icmp .ge 78, 3, (0, 0, 0, 0)) := by decide +kernel
theorem fX5_leader_12 : ftc 12 (me_ci mX5_leader) = some (12, .aload_n 0, 1, (0, 0, 0, 0)) := by decide +kernel
theorem fX5_leader_13 : ftc 13 (me_ci mX5_leader) = some (13, .getfield 15, 3, (5, 8, 138, 0)) := by decide +kernel
theorem fX5_leader_16 : ftc 16 (me_ci mX5_leader) = some (16, .iload_n 2, 1, (0, 0, 0, 0)) := by decide +kernel
theorem fX5_leader_17 : ftc 17 (me_ci mX5_leader) = some (17, .iaload, 1, (0, 0, 0, 0)) := by decide +kernel
theorem fX5_leader_18 : ftc 18 (me_ci mX5_leader) = some (18, .aload_n 0, 1, (0, 0, 0, 0)) := by decide +kernel
theorem fX5_leader_19 : ftc 19 (me_ci mX5_leader) = some (19, .getfield 15, 3, (5, 8, 138, 0)) := by decide +kernel
theorem fX5_leader_22 : ftc 22 (me_ci mX5_leader) = some (22, .iload_n 1, 1, (0, 0, 0, 0)) := by decide +kernel
theorem fX5_leader_23 : ftc 23 (me_ci mX5_leader) = some (23, .iaload, 1, (0, 0, 0, 0)) := by decide +kernel
theorem fX5_leader_24 : ftc 24 (me_ci mX5_leader) = some (24, .if_icmp .le 7, 3, (0, 0, 0, 0)) := by decide +kernel
theorem fX5_leader_27 : ftc 27 (me_ci mX5_leader) = some (27, .iconst 1, 1, (0, 0, 0, 0)) := by decide +kernel
theorem fX5_leader_28 : ftc 28 (me_ci mX5_leader) = some (28, .goto 4, 3, (0, 0, 0, 0)) := by decide +kernel
theorem fX5_leader_31 : ftc 31 (me_ci mX5_leader) = some (31, .iconst 0, 1, (0, 0, 0, 0)) := by decide +kernel
theorem fX5_leader_32 : ftc 32 (me_ci mX5_leader) = some (32, .istore_n 3, 1, (0, 0, 0, 0)) := by decide +kernel
theorem fX5_leader_33 : ftc 33 (me_ci mX5_leader) = some (33, .aload_n 0, 1, (0, 0, 0, 0)) := by decide +kernel
theorem fX5_leader_34 : ftc 34 (me_ci mX5_leader) = some (34, .getfield 15, 3, (5, 8, 138, 0)) := by decide +kernel
theorem fX5_leader_37 : ftc 37 (me_ci mX5_leader) = some (37, .iload_n 2, 1, (0, 0, 0, 0)) := by decide +kernel
theorem fX5_leader_38 : ftc 38 (me_ci mX5_leader) = some (38, .iaload, 1, (0, 0, 0, 0)) := by decide +kernel
theorem fX5_leader_39 : ftc 39 (me_ci mX5_leader) = some (39, .aload_n 0, 1, (0, 0, 0, 0)) := by decide +kernel
theorem fX5_leader_40 : ftc 40 (me_ci mX5_leader) = some (40, .getfield 15, 3, (5, 8, 138, 0)) := by decide +kernel
theorem fX5_leader_43 : ftc 43 (me_ci mX5_leader) = some (43, .iload_n 1, 1, (0, 0, 0, 0)) := by decide +kernel
theorem fX5_leader_44 : ftc 44 (me_ci mX5_leader) = some (44, .iaload, 1, (0, 0, 0, 0)) := by decide +kernel
theorem fX5_leader_45 : ftc 45 (me_ci mX5_leader) = some (45, .if_icmp .ne 22, 3, (0, 0, 0, 0)) := by decide +kernel
theorem fX5_leader_48 : ftc 48 (me_ci mX5_leader) = some (48, .aload_n 0, 1, (0, 0, 0, 0)) := by decide +kernel
theorem fX5_leader_49 : ftc 49 (me_ci mX5_leader) = some (49, .getfield 9, 3, (5, 7, 134, 0)) := by decide +kernel
theorem fX5_leader_52 : ftc 52 (me_ci mX5_leader) = some (52, .iload_n 2, 1, (0, 0, 0, 0)) := by decide +kernel
theorem fX5_leader_53 : ftc 53 (me_ci mX5_leader) = some (53, .iaload, 1, (0, 0, 0, 0)) := by decide +kernel
theorem fX5_leader_54 : ftc 54 (me_ci mX5_leader) = some (54, .aload_n 0, 1, (0, 0, 0, 0)) := by decide +kernel
theorem fX5_leader_55 : ftc 55 (me_ci mX5_leader) = some (55, .getfield 9, 3, (5, 7, 134, 0)) := by decide +kernel
theorem fX5_leader_58 : ftc 58 (me_ci mX5_leader) = some (58, .iload_n 1, 1, (0, 0, 0, 0)) := by decide +kernel
theorem fX5_leader_59 : ftc 59 (me_ci mX5_leader) = some (59, .iaload, 1, (0, 0, 0, 0)) := by decide +kernel
theorem fX5_leader_60 : ftc 60 (me_ci mX5_leader) = some (60, .if_icmp .le 7, 3, (0, 0, 0, 0)) := by decide +kernel
theorem fX5_leader_63 : ftc 63 (me_ci mX5_leader) = some (63, .iconst 1, 1, (0, 0, 0, 0)) := by decide +kernel
theorem fX5_leader_64 : ftc 64 (me_ci mX5_leader) = some (64, .goto 4, 3, (0, 0, 0, 0)) := by decide +kernel
theorem fX5_leader_67 : ftc 67 (me_ci mX5_leader) = some (67, .iconst 0, 1, (0, 0, 0, 0)) := by decide +kernel
theorem fX5_leader_68 : ftc 68 (me_ci mX5_leader) = some (68, .istore 4, 2, (0, 0, 0, 0)) := by decide +kernel
theorem fX5_leader_70 : ftc 70 (me_ci mX5_leader) = some (70, .iload_n 3, 1, (0, 0, 0, 0)) := by decide +kernel
theorem fX5_leader_71 : ftc 71 (me_ci mX5_leader) = some (71, .ifCond .ne 8, 3, (0, 0, 0, 0)) := by decide +kernel
theorem fX5_leader_74 : ftc 74 (me_ci mX5_leader) = some (74, .iload 4, 2, (0, 0, 0, 0)) := by decide +kernel
theorem fX5_leader_76 : ftc 76 (me_ci mX5_leader) = some (76, .ifCond .eq 5, 3, (0, 0, 0, 0)) := by decide +kernel
theorem fX5_leader_79 : ftc 79 (me_ci mX5_leader) = some (79, .iload_n 2, 1, (0, 0, 0, 0)) := by decide +kernel
theorem fX5_leader_80 : ftc 80 (me_ci mX5_leader) = some (80, .istore_n 1, 1, (0, 0, 0, 0)) := by decide +kernel
theorem fX5_leader_81 : ftc 81 (me_ci mX5_leader) = some (81, .iinc 2 1, 3, (0, 0, 0, 0)) := by decide +kernel
theorem fX5_leader_84 : ftc 84 (me_ci mX5_leader) = some (84, .goto (-80), 3, (0, 0, 0, 0)) := by decide +kernel
theorem fX5_leader_87 : ftc 87 (me_ci mX5_leader) = some (87, .iload_n 1, 1, (0, 0, 0, 0)) := by decide +kernel
theorem fX5_leader_88 : ftc 88 (me_ci mX5_leader) = some (88, .ireturn, 1, (0, 0, 0, 0)) := by decide +kernel
theorem pX5_leader : pg 43 = some mX5_leader := by decide +kernel
theorem fX5_canLead_0 : ftc 0 (me_ci mX5_canLead) = some (0, .aload_n 0, 1, (0, 0, 0, 0)) := by decide +kernel
theorem fX5_canLead_1 : ftc 1 (me_ci mX5_canLead) = some (1, .getfield 15, 3, (5, 8, 138, 0)) := by decide +kernel
theorem fX5_canLead_4 : ftc 4 (me_ci mX5_canLead) = some (4, .iload_n 1, 1, (0, 0, 0, 0)) := by decide +kernel
theorem fX5_canLead_5 : ftc 5 (me_ci mX5_canLead) = some (5, .iaload, 1, (0, 0, 0, 0)) := by decide +kernel
theorem fX5_canLead_6 : ftc 6 (me_ci mX5_canLead) = some (6, .istore_n 2, 1, (0, 0, 0, 0)) := by decide +kernel
theorem fX5_canLead_7 : ftc 7 (me_ci mX5_canLead) = some (7, .iconst 0, 1, (0, 0, 0, 0)) := by decide +kernel
theorem fX5_canLead_8 : ftc 8 (me_ci mX5_canLead) = some (8, .istore_n 3, 1, (0, 0, 0, 0)) := by decide +kernel
theorem fX5_canLead_9 : ftc 9 (me_ci mX5_canLead) = some (9, .iload_n 3, 1, (0, 0, 0, 0)) := by decide +kernel
theorem fX5_canLead_10 : ftc 10 (me_ci mX5_canLead) = some (10, .aload_n 0, 1, (0, 0, 0, 0)) := by decide +kernel
theorem fX5_canLead_11 : ftc 11 (me_ci mX5_canLead) = some (11, .getfield 76, 3, (5, 4, 129, 0)) := by decide +kernel
theorem fX5_canLead_14 : ftc 14 (me_ci mX5_canLead) = some (14, .aload_n 0, 1, (0, 0, 0, 0)) := by decide +kernel
theorem fX5_canLead_15 : ftc 15 (me_ci mX5_canLead) = some (15, .getfield 82, 3, (5, 6, 132, 0)) := by decide +kernel
theorem fX5_canLead_18 : ftc 18 (me_ci mX5_canLead) = some (18, .iadd, 1, (0, 0, 0, 0)) := by decide +kernel
theorem fX5_canLead_19 : ftc 19 (me_ci mX5_canLead) = some (19, .if_icmp .ge 22, 3, (0, 0, 0, 0)) := by decide +kernel
theorem fX5_canLead_22 : ftc 22 (me_ci mX5_canLead) = some (22, .iload_n 2, 1, (0, 0, 0, 0)) := by decide +kernel
theorem fX5_canLead_23 : ftc 23 (me_ci mX5_canLead) = some (23, .aload_n 0, 1, (0, 0, 0, 0)) := by decide +kernel
theorem fX5_canLead_24 : ftc 24 (me_ci mX5_canLead) = some (24, .getfield 33, 3, (5, 14, 147, 0)) := by decide +kernel
theorem fX5_canLead_27 : ftc 27 (me_ci mX5_canLead) = some (27, .iload_n 3, 1, (0, 0, 0, 0)) := by decide +kernel
theorem fX5_canLead_28 : ftc 28 (me_ci mX5_canLead) = some (28, .iaload, 1, (0, 0, 0, 0)) := by decide +kernel
theorem fX5_canLead_29 : ftc 29 (me_ci mX5_canLead) = some (29, .iconst 0, 1, (0, 0, 0, 0)) := by decide +kernel
theorem fX5_canLead_30 : ftc 30 (me_ci mX5_canLead) = some (30, .invokestatic 147, 3, (503, 3, 0, 0)) := by decide +kernel
theorem fX5_canLead_33 : ftc 33 (me_ci mX5_canLead) = some (33, .iadd, 1, (0, 0, 0, 0)) := by decide +kernel
theorem fX5_canLead_34 : ftc 34 (me_ci mX5_canLead) = some (34, .istore_n 2, 1, (0, 0, 0, 0)) := by decide +kernel
theorem fX5_canLead_35 : ftc 35 (me_ci mX5_canLead) = some (35, .iinc 3 1, 3, (0, 0, 0, 0)) := by decide +kernel
theorem fX5_canLead_38 : ftc 38 (me_ci mX5_canLead) = some (38, .goto (-29), 3, (0, 0, 0, 0)) := by decide +kernel
theorem fX5_canLead_41 : ftc 41 (me_ci mX5_canLead) = some (41, .iconst 0, 1, (0, 0, 0, 0)) := by decide +kernel
theorem fX5_canLead_42 : ftc 42 (me_ci mX5_canLead) = some (42, .istore_n 3, 1, (0, 0, 0, 0)) := by decide +kernel
theorem fX5_canLead_43 : ftc 43 (me_ci mX5_canLead) = some (43, .iload_n 3, 1, (0, 0, 0, 0)) := by decide +kernel
theorem fX5_canLead_44 : ftc 44 (me_ci mX5_canLead) = some (44, .aload_n 0, 1, (0, 0, 0, 0)) := by decide +kernel
theorem fX5_canLead_45 : ftc 45 (me_ci mX5_canLead) = some (45, .getfield 63, 3, (5, 0, 121, 0)) := by decide +kernel
theorem fX5_canLead_48 : ftc 48 (me_ci mX5_canLead) = some (48, .if_icmp .ge 26, 3, (0, 0, 0, 0)) := by decide +kernel
theorem fX5_canLead_51 : ftc 51 (me_ci mX5_canLead) = some (51, .iload_n 3, 1, (0, 0, 0, 0)) := by decide +kernel
theorem fX5_canLead_52 : ftc 52 (me_ci mX5_canLead) = some (52, .iload_n 1, 1, (0, 0, 0, 0)) := by decide +kernel
theorem fX5_canLead_53 : ftc 53 (me_ci mX5_canLead) = some (53, .if_icmp .eq 15, 3, (0, 0, 0, 0)) := by decide +kernel
theorem fX5_canLead_56 : ftc 56 (me_ci mX5_canLead) = some (56, .aload_n 0, 1, (0, 0, 0, 0)) := by decide +kernel
theorem fX5_canLead_57 : ftc 57 (me_ci mX5_canLead) = some (57, .getfield 15, 3, (5, 8, 138, 0)) := by decide +kernel
theorem fX5_canLead_60 : ftc 60 (me_ci mX5_canLead) = some (60, .iload_n 3, 1, (0, 0, 0, 0)) := by decide +kernel
theorem fX5_canLead_61 : ftc 61 (me_ci mX5_canLead) = some (61, .iaload, 1, (0, 0, 0, 0)) := by decide +kernel
theorem fX5_canLead_62 : ftc 62 (me_ci mX5_canLead) = some (62, .iload_n 2, 1, (0, 0, 0, 0)) := by decide +kernel
theorem fX5_canLead_63 : ftc 63 (me_ci mX5_canLead) = some (63, .if_icmp .lt 5, 3, (0, 0, 0, 0)) := by decide +kernel
theorem fX5_canLead_66 : ftc 66 (me_ci mX5_canLead) = some (66, .iconst 0, 1, (0, 0, 0, 0)) := by decide +kernel
theorem fX5_canLead_67 : ftc 67 (me_ci mX5_canLead) = some (67, .ireturn, 1, (0, 0, 0, 0)) := by decide +kernel
theorem fX5_canLead_68 : ftc 68 (me_ci mX5_canLead) = some (68, .iinc 3 1, 3, (0, 0, 0, 0)) := by decide +kernel
theorem fX5_canLead_71 : ftc 71 (me_ci mX5_canLead) = some (71, .goto (-28), 3, (0, 0, 0, 0)) := by decide +kernel
theorem fX5_canLead_74 : ftc 74 (me_ci mX5_canLead) = some (74, .iconst 1, 1, (0, 0, 0, 0)) := by decide +kernel
theorem fX5_canLead_75 : ftc 75 (me_ci mX5_canLead) = some (75, .ireturn, 1, (0, 0, 0, 0)) := by decide +kernel
theorem pX5_canLead : pg 44 = some mX5_canLead := by decide +kernel
theorem fX5_numberOfPlayer_0 : ftc 0 (me_ci mX5_numberOfPlayer) = some (0, .aload_n 0, 1, (0, 0, 0, 0)) := by decide +kernel
theorem fX5_numberOfPlayer_1 : ftc 1 (me_ci mX5_numberOfPlayer) = some (1, .iload_n 1, 1, (0, 0, 0, 0)) := by decide +kernel
theorem fX5_numberOfPlayer_2 : ftc 2 (me_ci mX5_numberOfPlayer) = some (2, .invokevirtual 102, 3, (36, 0, 361, 0)) := by decide +kernel
theorem fX5_numberOfPlayer_5 : ftc 5 (me_ci mX5_numberOfPlayer) = some (5, .ifCond .ne 6, 3, (0, 0, 0, 0)) := by decide +kernel
theorem fX5_numberOfPlayer_8 : ftc 8 (me_ci mX5_numberOfPlayer) = some (8, .ldc 92, 2, (108, 0, 0, -1000001)) := by decide +kernel
theorem fX5_numberOfPlayer_10 : ftc 10 (me_ci mX5_numberOfPlayer) = some (10, .ireturn, 1, (0, 0, 0, 0)) := by decide +kernel
theorem fX5_numberOfPlayer_11 : ftc 11 (me_ci mX5_numberOfPlayer) = some (11, .iload_n 2, 1, (0, 0, 0, 0)) := by decide +kernel
theorem fX5_numberOfPlayer_12 : ftc 12 (me_ci mX5_numberOfPlayer) = some (12, .tableswitch 91 0 5 #[40, 47, 54, 70, 77, 84], 40, (0, 0, 0, 0)) := by decide +kernel
theorem fX5_numberOfPlayer_52 : ftc 52 (me_ci mX5_numberOfPlayer) = some (52, .aload_n 0, 1, (0, 0, 0, 0)) := by decide +kernel
theorem fX5_numberOfPlayer_53 : ftc 53 (me_ci mX5_numberOfPlayer) = some (53, .getfield 9, 3, (5, 7, 134, 0)) := by decide +kernel
theorem fX5_numberOfPlayer_56 : ftc 56 (me_ci mX5_numberOfPlayer) = some (56, .iload_n 1, 1, (0, 0, 0, 0)) := by decide +kernel
theorem fX5_numberOfPlayer_57 : ftc 57 (me_ci mX5_numberOfPlayer) = some (57, .iaload, 1, (0, 0, 0, 0)) := by decide +kernel
theorem fX5_numberOfPlayer_58 : ftc 58 (me_ci mX5_numberOfPlayer) = some (58, .ireturn, 1, (0, 0, 0, 0)) := by decide +kernel
theorem fX5_numberOfPlayer_59 : ftc 59 (me_ci mX5_numberOfPlayer) = some (59, .aload_n 0, 1, (0, 0, 0, 0)) := by decide +kernel
theorem fX5_numberOfPlayer_60 : ftc 60 (me_ci mX5_numberOfPlayer) = some (60, .getfield 15, 3, (5, 8, 138, 0)) := by decide +kernel
theorem fX5_numberOfPlayer_63 : ftc 63 (me_ci mX5_numberOfPlayer) = some (63, .iload_n 1, 1, (0, 0, 0, 0)) := by decide +kernel
theorem fX5_numberOfPlayer_64 : ftc 64 (me_ci mX5_numberOfPlayer) = some (64, .iaload, 1, (0, 0, 0, 0)) := by decide +kernel
theorem fX5_numberOfPlayer_65 : ftc 65 (me_ci mX5_numberOfPlayer) = some (65, .ireturn, 1, (0, 0, 0, 0)) := by decide +kernel
theorem fX5_numberOfPlayer_66 : ftc 66 (me_ci mX5_numberOfPlayer) = some (66, .aload_n 0, 1, (0, 0, 0, 0)) := by decide +kernel
theorem fX5_numberOfPlayer_67 : ftc 67 (me_ci mX5_numberOfPlayer) = some (67, .getfield 18, 3, (5, 9, 140, 0)) := by decide +kernel
theorem fX5_numberOfPlayer_70 : ftc 70 (me_ci mX5_numberOfPlayer) = some (70, .iload_n 1, 1, (0, 0, 0, 0)) := by decide +kernel
theorem fX5_numberOfPlayer_71 : ftc 71 (me_ci mX5_numberOfPlayer) = some (71, .iaload, 1, (0, 0, 0, 0)) := by decide +kernel
theorem fX5_numberOfPlayer_72 : ftc 72 (me_ci mX5_numberOfPlayer) = some (72, .iconst (-1), 1, (0, 0, 0, 0)) := by decide +kernel
theorem fX5_numberOfPlayer_73 : ftc 73 (me_ci mX5_numberOfPlayer) = some (73, .if_icmp .ne 7, 3, (0, 0, 0, 0)) := by decide +kernel
theorem fX5_numberOfPlayer_76 : ftc 76 (me_ci mX5_numberOfPlayer) = some (76, .iconst 0, 1, (0, 0, 0, 0)) := by decide +kernel
theorem fX5_numberOfPlayer_77 : ftc 77 (me_ci mX5_numberOfPlayer) = some (77, .goto 4, 3, (0, 0, 0, 0)) := by decide +kernel
theorem fX5_numberOfPlayer_80 : ftc 80 (me_ci mX5_numberOfPlayer) = some (80, .iconst 1, 1, (0, 0, 0, 0)) := by decide +kernel
theorem fX5_numberOfPlayer_81 : ftc 81 (me_ci mX5_numberOfPlayer) = some (81, .ireturn, 1, (0, 0, 0, 0)) := by decide +kernel
theorem fX5_numberOfPlayer_82 : ftc 82 (me_ci mX5_numberOfPlayer) = some (82, .aload_n 0, 1, (0, 0, 0, 0)) := by decide +kernel
theorem fX5_numberOfPlayer_83 : ftc 83 (me_ci mX5_numberOfPlayer) = some (83, .getfield 21, 3, (5, 10, 142, 0)) := by decide +kernel
theorem fX5_numberOfPlayer_86 : ftc 86 (me_ci mX5_numberOfPlayer) = some (86, .iload_n 1, 1, (0, 0, 0, 0)) := by decide +kernel
theorem fX5_numberOfPlayer_87 : ftc 87 (me_ci mX5_numberOfPlayer) = some (87, .iaload, 1, (0, 0, 0, 0)) := by decide +kernel
theorem fX5_numberOfPlayer_88 : ftc 88 (me_ci mX5_numberOfPlayer) = some (88, .ireturn, 1, (0, 0, 0, 0)) := by decide +kernel
theorem fX5_numberOfPlayer_89 : ftc 89 (me_ci mX5_numberOfPlayer) = some (89, .aload_n 0, 1, (0, 0, 0, 0)) := by decide +kernel
theorem fX5_numberOfPlayer_90 : ftc 90 (me_ci mX5_numberOfPlayer) = some (90, .getfield 24, 3, (5, 11, 143, 0)) := by decide +kernel
theorem fX5_numberOfPlayer_93 : ftc 93 (me_ci mX5_numberOfPlayer) = some (93, .iload_n 1, 1, (0, 0, 0, 0)) := by decide +kernel
theorem fX5_numberOfPlayer_94 : ftc 94 (me_ci mX5_numberOfPlayer) = some (94, .iaload, 1, (0, 0, 0, 0)) := by decide +kernel
theorem fX5_numberOfPlayer_95 : ftc 95 (me_ci mX5_numberOfPlayer) = some (95, .ireturn, 1, (0, 0, 0, 0)) := by decide +kernel
theorem fX5_numberOfPlayer_96 : ftc 96 (me_ci mX5_numberOfPlayer) = some (96, .aload_n 0, 1, (0, 0, 0, 0)) := by decide +kernel
theorem fX5_numberOfPlayer_97 : ftc 97 (me_ci mX5_numberOfPlayer) = some (97, .getfield 27, 3, (5, 12, 144, 0)) := by decide +kernel
theorem fX5_numberOfPlayer_100 : ftc 100 (me_ci mX5_numberOfPlayer) = some (100, .iload_n 1, 1, (0, 0, 0, 0)) := by decide +kernel
theorem fX5_numberOfPlayer_101 : ftc 101 (me_ci mX5_numberOfPlayer) = some (101, .iaload, 1, (0, 0, 0, 0)) := by decide +kernel
theorem fX5_numberOfPlayer_102 : ftc 102 (me_ci mX5_numberOfPlayer) = some (102, .ireturn, 1, (0, 0, 0, 0)) := by decide +kernel
theorem fX5_numberOfPlayer_103 : ftc 103 (me_ci mX5_numberOfPlayer) = some (103, .ldc 92, 2, (108, 0, 0, -1000001)) := by decide +kernel
theorem fX5_numberOfPlayer_105 : ftc 105 (me_ci mX5_numberOfPlayer) = some (105, .ireturn, 1, (0, 0, 0, 0)) := by decide +kernel
theorem pX5_numberOfPlayer : pg 45 = some mX5_numberOfPlayer := by decide +kernel
theorem fX5_valueAt_0 : ftc 0 (me_ci mX5_valueAt) = some (0, .iload_n 1, 1, (0, 0, 0, 0)) := by decide +kernel
theorem fX5_valueAt_1 : ftc 1 (me_ci mX5_valueAt) = some (1, .ifCond .lt 12, 3, (0, 0, 0, 0)) := by decide +kernel
theorem fX5_valueAt_4 : ftc 4 (me_ci mX5_valueAt) = some (4, .iload_n 1, 1, (0, 0, 0, 0)) := by decide +kernel
theorem fX5_valueAt_5 : ftc 5 (me_ci mX5_valueAt) = some (5, .iconst 1, 1, (0, 0, 0, 0)) := by decide +kernel
theorem fX5_valueAt_6 : ftc 6 (me_ci mX5_valueAt) = some (6, .if_icmp .gt 7, 3, (0, 0, 0, 0)) := by decide +kernel
theorem fX5_valueAt_9 : ftc 9 (me_ci mX5_valueAt) = some (9, .iload_n 2, 1, (0, 0, 0, 0)) := by decide +kernel
theorem fX5_valueAt_10 : ftc 10 (me_ci mX5_valueAt) = some (10, .ifCond .ge 6, 3, (0, 0, 0, 0)) := by decide +kernel
theorem fX5_valueAt_13 : ftc 13 (me_ci mX5_valueAt) = some (13, .ldc 92, 2, (108, 0, 0, -1000001)) := by decide +kernel
theorem fX5_valueAt_15 : ftc 15 (me_ci mX5_valueAt) = some (15, .ireturn, 1, (0, 0, 0, 0)) := by decide +kernel
theorem fX5_valueAt_16 : ftc 16 (me_ci mX5_valueAt) = some (16, .iload_n 1, 1, (0, 0, 0, 0)) := by decide +kernel
theorem fX5_valueAt_17 : ftc 17 (me_ci mX5_valueAt) = some (17, .ifCond .ne 28, 3, (0, 0, 0, 0)) := by decide +kernel
theorem fX5_valueAt_20 : ftc 20 (me_ci mX5_valueAt) = some (20, .iload_n 2, 1, (0, 0, 0, 0)) := by decide +kernel
theorem fX5_valueAt_21 : ftc 21 (me_ci mX5_valueAt) = some (21, .aload_n 0, 1, (0, 0, 0, 0)) := by decide +kernel
theorem fX5_valueAt_22 : ftc 22 (me_ci mX5_valueAt) = some (22, .getfield 82, 3, (5, 6, 132, 0)) := by decide +kernel
theorem fX5_valueAt_25 : ftc 25 (me_ci mX5_valueAt) = some (25, .if_icmp .ge 17, 3, (0, 0, 0, 0)) := by decide +kernel
theorem fX5_valueAt_28 : ftc 28 (me_ci mX5_valueAt) = some (28, .aload_n 0, 1, (0, 0, 0, 0)) := by decide +kernel
theorem fX5_valueAt_29 : ftc 29 (me_ci mX5_valueAt) = some (29, .getfield 33, 3, (5, 14, 147, 0)) := by decide +kernel
theorem fX5_valueAt_32 : ftc 32 (me_ci mX5_valueAt) = some (32, .aload_n 0, 1, (0, 0, 0, 0)) := by decide +kernel
theorem fX5_valueAt_33 : ftc 33 (me_ci mX5_valueAt) = some (33, .getfield 76, 3, (5, 4, 129, 0)) := by decide +kernel
theorem fX5_valueAt_36 : ftc 36 (me_ci mX5_valueAt) = some (36, .iload_n 2, 1, (0, 0, 0, 0)) := by decide +kernel
theorem fX5_valueAt_37 : ftc 37 (me_ci mX5_valueAt) = some (37, .iadd, 1, (0, 0, 0, 0)) := by decide +kernel
theorem fX5_valueAt_38 : ftc 38 (me_ci mX5_valueAt) = some (38, .iaload, 1, (0, 0, 0, 0)) := by decide +kernel
theorem fX5_valueAt_39 : ftc 39 (me_ci mX5_valueAt) = some (39, .goto 5, 3, (0, 0, 0, 0)) := by decide +kernel
theorem fX5_valueAt_42 : ftc 42 (me_ci mX5_valueAt) = some (42, .ldc 152, 2, (452, 0, 0, -1000004)) := by decide +kernel
theorem fX5_valueAt_44 : ftc 44 (me_ci mX5_valueAt) = some (44, .ireturn, 1, (0, 0, 0, 0)) := by decide +kernel
theorem fX5_valueAt_45 : ftc 45 (me_ci mX5_valueAt) = some (45, .iload_n 2, 1, (0, 0, 0, 0)) := by decide +kernel
theorem fX5_valueAt_46 : ftc 46 (me_ci mX5_valueAt) = some (46, .aload_n 0, 1, (0, 0, 0, 0)) := by decide +kernel
theorem fX5_valueAt_47 : ftc 47 (me_ci mX5_valueAt) = some (47, .getfield 76, 3, (5, 4, 129, 0)) := by decide +kernel
theorem fX5_valueAt_50 : ftc 50 (me_ci mX5_valueAt) = some (50, .if_icmp .ge 12, 3, (0, 0, 0, 0)) := by decide +kernel
theorem fX5_valueAt_53 : ftc 53 (me_ci mX5_valueAt) = some (53, .aload_n 0, 1, (0, 0, 0, 0)) := by decide +kernel
theorem fX5_valueAt_54 : ftc 54 (me_ci mX5_valueAt) = some (54, .getfield 33, 3, (5, 14, 147, 0)) := by decide +kernel
theorem fX5_valueAt_57 : ftc 57 (me_ci mX5_valueAt) = some (57, .iload_n 2, 1, (0, 0, 0, 0)) := by decide +kernel
theorem fX5_valueAt_58 : ftc 58 (me_ci mX5_valueAt) = some (58, .iaload, 1, (0, 0, 0, 0)) := by decide +kernel
theorem fX5_valueAt_59 : ftc 59 (me_ci mX5_valueAt) = some (59, .goto 5, 3, (0, 0, 0, 0)) := by decide +kernel
theorem fX5_valueAt_62 : ftc 62 (me_ci mX5_valueAt) = some (62, .ldc 152, 2, (452, 0, 0, -1000004)) := by decide +kernel
theorem fX5_valueAt_64 : ftc 64 (me_ci mX5_valueAt) = some (64, .ireturn, 1, (0, 0, 0, 0)) := by decide +kernel
theorem pX5_valueAt : pg 46 = some mX5_valueAt := by decide +kernel
theorem fX5_number_0 : ftc 0 (me_ci mX5_number) = some (0, .iload_n 1, 1, (0, 0, 0, 0)) := by decide +kernel
theorem fX5_number_1 : ftc 1 (me_ci mX5_number) = some (1, .tableswitch 181 0 22 #[107, 112, 117, 122, 127, 132, 137, 142, 147, 152, 181, 181, 181, 181, 181, 181, 181, 181, 181, 181, 160, 167, 174], 107, (0, 0, 0, 0)) := by decide +kernel
theorem fX5_number_108 : ftc 108 (me_ci mX5_number) = some (108, .aload_n 0, 1, (0, 0, 0, 0)) := by decide +kernel
theorem fX5_number_109 : ftc 109 (me_ci mX5_number) = some (109, .getfield 63, 3, (5, 0, 121, 0)) := by decide +kernel
theorem fX5_number_112 : ftc 112 (me_ci mX5_number) = some (112, .ireturn, 1, (0, 0, 0, 0)) := by decide +kernel
theorem fX5_number_113 : ftc 113 (me_ci mX5_number) = some (113, .aload_n 0, 1, (0, 0, 0, 0)) := by decide +kernel
theorem fX5_number_114 : ftc 114 (me_ci mX5_number) = some (114, .getfield 82, 3, (5, 6, 132, 0)) := by decide +kernel
theorem fX5_number_117 : ftc 117 (me_ci mX5_number) = some (117, .ireturn, 1, (0, 0, 0, 0)) := by decide +kernel
theorem fX5_number_118 : ftc 118 (me_ci mX5_number) = some (118, .aload_n 0, 1, (0, 0, 0, 0)) := by decide +kernel
theorem fX5_number_119 : ftc 119 (me_ci mX5_number) = some (119, .getfield 76, 3, (5, 4, 129, 0)) := by decide +kernel
theorem fX5_number_122 : ftc 122 (me_ci mX5_number) = some (122, .ireturn, 1, (0, 0, 0, 0)) := by decide +kernel
theorem fX5_number_123 : ftc 123 (me_ci mX5_number) = some (123, .aload_n 0, 1, (0, 0, 0, 0)) := by decide +kernel
theorem fX5_number_124 : ftc 124 (me_ci mX5_number) = some (124, .getfield 79, 3, (5, 5, 131, 0)) := by decide +kernel
theorem fX5_number_127 : ftc 127 (me_ci mX5_number) = some (127, .ireturn, 1, (0, 0, 0, 0)) := by decide +kernel
theorem fX5_number_128 : ftc 128 (me_ci mX5_number) = some (128, .aload_n 0, 1, (0, 0, 0, 0)) := by decide +kernel
theorem fX5_number_129 : ftc 129 (me_ci mX5_number) = some (129, .getfield 67, 3, (5, 1, 124, 0)) := by decide +kernel
theorem fX5_number_132 : ftc 132 (me_ci mX5_number) = some (132, .ireturn, 1, (0, 0, 0, 0)) := by decide +kernel
theorem fX5_number_133 : ftc 133 (me_ci mX5_number) = some (133, .aload_n 0, 1, (0, 0, 0, 0)) := by decide +kernel
theorem fX5_number_134 : ftc 134 (me_ci mX5_number) = some (134, .getfield 70, 3, (5, 2, 126, 0)) := by decide +kernel
theorem fX5_number_137 : ftc 137 (me_ci mX5_number) = some (137, .ireturn, 1, (0, 0, 0, 0)) := by decide +kernel
theorem fX5_number_138 : ftc 138 (me_ci mX5_number) = some (138, .aload_n 0, 1, (0, 0, 0, 0)) := by decide +kernel
theorem fX5_number_139 : ftc 139 (me_ci mX5_number) = some (139, .getfield 73, 3, (5, 3, 128, 0)) := by decide +kernel
theorem fX5_number_142 : ftc 142 (me_ci mX5_number) = some (142, .ireturn, 1, (0, 0, 0, 0)) := by decide +kernel
theorem fX5_number_143 : ftc 143 (me_ci mX5_number) = some (143, .aload_n 0, 1, (0, 0, 0, 0)) := by decide +kernel
theorem fX5_number_144 : ftc 144 (me_ci mX5_number) = some (144, .invokevirtual 111, 3, (39, 0, 370, 0)) := by decide +kernel
theorem fX5_number_147 : ftc 147 (me_ci mX5_number) = some (147, .ireturn, 1, (0, 0, 0, 0)) := by decide +kernel
theorem fX5_number_148 : ftc 148 (me_ci mX5_number) = some (148, .aload_n 0, 1, (0, 0, 0, 0)) := by decide +kernel
theorem fX5_number_149 : ftc 149 (me_ci mX5_number) = some (149, .invokevirtual 97, 3, (42, 0, 117, 0)) := by decide +kernel
theorem fX5_number_152 : ftc 152 (me_ci mX5_number) = some (152, .ireturn, 1, (0, 0, 0, 0)) := by decide +kernel
theorem fX5_number_153 : ftc 153 (me_ci mX5_number) = some (153, .aload_n 0, 1, (0, 0, 0, 0)) := by decide +kernel
theorem fX5_number_154 : ftc 154 (me_ci mX5_number) = some (154, .getfield 46, 3, (5, 16, 151, 0)) := by decide +kernel
theorem fX5_number_157 : ftc 157 (me_ci mX5_number) = some (157, .getfield 153, 3, (3, 4, 87, 0)) := by decide +kernel
theorem fX5_number_160 : ftc 160 (me_ci mX5_number) = some (160, .ireturn, 1, (0, 0, 0, 0)) := by decide +kernel
theorem fX5_number_161 : ftc 161 (me_ci mX5_number) = some (161, .aload_n 0, 1, (0, 0, 0, 0)) := by decide +kernel
theorem fX5_number_162 : ftc 162 (me_ci mX5_number) = some (162, .getfield 30, 3, (5, 13, 145, 0)) := by decide +kernel
theorem fX5_number_165 : ftc 165 (me_ci mX5_number) = some (165, .iconst 0, 1, (0, 0, 0, 0)) := by decide +kernel
theorem fX5_number_166 : ftc 166 (me_ci mX5_number) = some (166, .iaload, 1, (0, 0, 0, 0)) := by decide +kernel
theorem fX5_number_167 : ftc 167 (me_ci mX5_number) = some (167, .ireturn, 1, (0, 0, 0, 0)) := by decide +kernel
theorem fX5_number_168 : ftc 168 (me_ci mX5_number) = some (168, .aload_n 0, 1, (0, 0, 0, 0)) := by decide +kernel
theorem fX5_number_169 : ftc 169 (me_ci mX5_number) = some (169, .getfield 30, 3, (5, 13, 145, 0)) := by decide +kernel
theorem fX5_number_172 : ftc 172 (me_ci mX5_number) = some (172, .iconst 1, 1, (0, 0, 0, 0)) := by decide +kernel
theorem fX5_number_173 : ftc 173 (me_ci mX5_number) = some (173, .iaload, 1, (0, 0, 0, 0)) := by decide +kernel
theorem fX5_number_174 : ftc 174 (me_ci mX5_number) = some (174, .ireturn, 1, (0, 0, 0, 0)) := by decide +kernel
theorem fX5_number_175 : ftc 175 (me_ci mX5_number) = some (175, .aload_n 0, 1, (0, 0, 0, 0)) := by decide +kernel
theorem fX5_number_176 : ftc 176 (me_ci mX5_number) = some (176, .getfield 30, 3, (5, 13, 145, 0)) := by decide +kernel
theorem fX5_number_179 : ftc 179 (me_ci mX5_number) = some (179, .iconst 2, 1, (0, 0, 0, 0)) := by decide +kernel
theorem fX5_number_180 : ftc 180 (me_ci mX5_number) = some (180, .iaload, 1, (0, 0, 0, 0)) := by decide +kernel
theorem fX5_number_181 : ftc 181 (me_ci mX5_number) = some (181, .ireturn, 1, (0, 0, 0, 0)) := by decide +kernel
theorem fX5_number_182 : ftc 182 (me_ci mX5_number) = some (182, .ldc 92, 2, (108, 0, 0, -1000001)) := by decide +kernel
theorem fX5_number_184 : ftc 184 (me_ci mX5_number) = some (184, .ireturn, 1, (0, 0, 0, 0)) := by decide +kernel
theorem pX5_number : pg 47 = some mX5_number := by decide +kernel
theorem fX6_init_0 : ftc 0 (me_ci mX6_init) = some (0, .aload_n 0, 1, (0, 0, 0, 0)) := by decide +kernel
theorem fX6_init_1 : ftc 1 (me_ci mX6_init) = some (1, .invokespecial 3, 3, (203, 5, 0, 0)) := by decide +kernel
theorem fX6_init_4 : ftc 4 (me_ci mX6_init) = some (4, .aload_n 0, 1, (0, 0, 0, 0)) := by decide +kernel
theorem fX6_init_5 : ftc 5 (me_ci mX6_init) = some (5, .bipush 60, 2, (0, 0, 0, 0)) := by decide +kernel
theorem fX6_init_7 : ftc 7 (me_ci mX6_init) = some (7, .newarray .int, 2, (0, 0, 0, 0)) := by decide +kernel
theorem fX6_init_9 : ftc 9 (me_ci mX6_init) = some (9, .putfield 9, 3, (6, 0, 204, 0)) := by decide +kernel
theorem fX6_init_12 : ftc 12 (me_ci mX6_init) = some (12, .return_, 1, (0, 0, 0, 0)) := by decide +kernel
theorem pX6_init : pg 48 = some mX6_init := by decide +kernel
theorem fX6_append_0 : ftc 0 (me_ci mX6_append) = some (0, .aload_n 0, 1, (0, 0, 0, 0)) := by decide +kernel
theorem fX6_append_1 : ftc 1 (me_ci mX6_append) = some (1, .getfield 15, 3, (6, 1, 205, 0)) := by decide +kernel
theorem fX6_append_4 : ftc 4 (me_ci mX6_append) = some (4, .bipush 60, 2, (0, 0, 0, 0)) := by decide +kernel
theorem fX6_append_6 : ftc 6 (me_ci mX6_append) = some (6, .if_icmp .lt 6, 3, (0, 0, 0, 0)) := by decide +kernel
theorem fX6_append_9 : ftc 9 (me_ci mX6_append) = some (9, .ldc 19, 2, (586, 0, 0, -1000003)) := by decide +kernel
theorem fX6_append_11 : ftc 11 (me_ci mX6_append) = some (11, .ireturn, 1, (0, 0, 0, 0)) := by decide +kernel
theorem fX6_append_12 : ftc 12 (me_ci mX6_append) = some (12, .aload_n 0, 1, (0, 0, 0, 0)) := by decide +kernel
theorem fX6_append_13 : ftc 13 (me_ci mX6_append) = some (13, .getfield 9, 3, (6, 0, 204, 0)) := by decide +kernel
theorem fX6_append_16 : ftc 16 (me_ci mX6_append) = some (16, .aload_n 0, 1, (0, 0, 0, 0)) := by decide +kernel
theorem fX6_append_17 : ftc 17 (me_ci mX6_append) = some (17, .getfield 15, 3, (6, 1, 205, 0)) := by decide +kernel
theorem fX6_append_20 : ftc 20 (me_ci mX6_append) = some (20, .iload_n 1, 1, (0, 0, 0, 0)) := by decide +kernel
theorem fX6_append_21 : ftc 21 (me_ci mX6_append) = some (21, .iastore, 1, (0, 0, 0, 0)) := by decide +kernel
theorem fX6_append_22 : ftc 22 (me_ci mX6_append) = some (22, .aload_n 0, 1, (0, 0, 0, 0)) := by decide +kernel
theorem fX6_append_23 : ftc 23 (me_ci mX6_append) = some (23, .dup, 1, (0, 0, 0, 0)) := by decide +kernel
theorem fX6_append_24 : ftc 24 (me_ci mX6_append) = some (24, .getfield 15, 3, (6, 1, 205, 0)) := by decide +kernel
theorem fX6_append_27 : ftc 27 (me_ci mX6_append) = some (27, .iconst 1, 1, (0, 0, 0, 0)) := by decide +kernel
theorem fX6_append_28 : ftc 28 (me_ci mX6_append) = some (28, .iadd, 1, (0, 0, 0, 0)) := by decide +kernel
theorem fX6_append_29 : ftc 29 (me_ci mX6_append) = some (29, .putfield 15, 3, (6, 1, 205, 0)) := by decide +kernel
theorem fX6_append_32 : ftc 32 (me_ci mX6_append) = some (32, .aload_n 0, 1, (0, 0, 0, 0)) := by decide +kernel
theorem fX6_append_33 : ftc 33 (me_ci mX6_append) = some (33, .getfield 15, 3, (6, 1, 205, 0)) := by decide +kernel
theorem fX6_append_36 : ftc 36 (me_ci mX6_append) = some (36, .ireturn, 1, (0, 0, 0, 0)) := by decide +kernel
theorem pX6_append : pg 49 = some mX6_append := by decide +kernel
theorem fX6_numberOfFault_0 : ftc 0 (me_ci mX6_numberOfFault) = some (0, .aload_n 0, 1, (0, 0, 0, 0)) := by decide +kernel
theorem fX6_numberOfFault_1 : ftc 1 (me_ci mX6_numberOfFault) = some (1, .getfield 20, 3, (6, 3, 208, 0)) := by decide +kernel
theorem fX6_numberOfFault_4 : ftc 4 (me_ci mX6_numberOfFault) = some (4, .ifCond .ne 6, 3, (0, 0, 0, 0)) := by decide +kernel
theorem fX6_numberOfFault_7 : ftc 7 (me_ci mX6_numberOfFault) = some (7, .ldc 23, 2, (639, 0, 0, -1000004)) := by decide +kernel
theorem fX6_numberOfFault_9 : ftc 9 (me_ci mX6_numberOfFault) = some (9, .ireturn, 1, (0, 0, 0, 0)) := by decide +kernel
theorem fX6_numberOfFault_10 : ftc 10 (me_ci mX6_numberOfFault) = some (10, .iload_n 1, 1, (0, 0, 0, 0)) := by decide +kernel
theorem fX6_numberOfFault_11 : ftc 11 (me_ci mX6_numberOfFault) = some (11, .ifCond .ne 8, 3, (0, 0, 0, 0)) := by decide +kernel
theorem fX6_numberOfFault_14 : ftc 14 (me_ci mX6_numberOfFault) = some (14, .aload_n 0, 1, (0, 0, 0, 0)) := by decide +kernel
theorem fX6_numberOfFault_15 : ftc 15 (me_ci mX6_numberOfFault) = some (15, .getfield 24, 3, (6, 2, 207, 0)) := by decide +kernel
theorem fX6_numberOfFault_18 : ftc 18 (me_ci mX6_numberOfFault) = some (18, .ireturn, 1, (0, 0, 0, 0)) := by decide +kernel
theorem fX6_numberOfFault_19 : ftc 19 (me_ci mX6_numberOfFault) = some (19, .iload_n 1, 1, (0, 0, 0, 0)) := by decide +kernel
theorem fX6_numberOfFault_20 : ftc 20 (me_ci mX6_numberOfFault) = some (20, .iconst 1, 1, (0, 0, 0, 0)) := by decide +kernel
theorem fX6_numberOfFault_21 : ftc 21 (me_ci mX6_numberOfFault) = some (21, .if_icmp .ne 8, 3, (0, 0, 0, 0)) := by decide +kernel
theorem fX6_numberOfFault_24 : ftc 24 (me_ci mX6_numberOfFault) = some (24, .aload_n 0, 1, (0, 0, 0, 0)) := by decide +kernel
theorem fX6_numberOfFault_25 : ftc 25 (me_ci mX6_numberOfFault) = some (25, .getfield 20, 3, (6, 3, 208, 0)) := by decide +kernel
theorem fX6_numberOfFault_28 : ftc 28 (me_ci mX6_numberOfFault) = some (28, .ireturn, 1, (0, 0, 0, 0)) := by decide +kernel
theorem fX6_numberOfFault_29 : ftc 29 (me_ci mX6_numberOfFault) = some (29, .aload_n 0, 1, (0, 0, 0, 0)) := by decide +kernel
theorem fX6_numberOfFault_30 : ftc 30 (me_ci mX6_numberOfFault) = some (30, .getfield 20, 3, (6, 3, 208, 0)) := by decide +kernel
theorem fX6_numberOfFault_33 : ftc 33 (me_ci mX6_numberOfFault) = some (33, .iconst 2, 1, (0, 0, 0, 0)) := by decide +kernel
theorem fX6_numberOfFault_34 : ftc 34 (me_ci mX6_numberOfFault) = some (34, .if_icmp .ne 10, 3, (0, 0, 0, 0)) := by decide +kernel
theorem fX6_numberOfFault_37 : ftc 37 (me_ci mX6_numberOfFault) = some (37, .aload_n 0, 1, (0, 0, 0, 0)) := by decide +kernel
theorem fX6_numberOfFault_38 : ftc 38 (me_ci mX6_numberOfFault) = some (38, .getfield 27, 3, (6, 4, 210, 0)) := by decide +kernel
theorem fX6_numberOfFault_41 : ftc 41 (me_ci mX6_numberOfFault) = some (41, .goto 5, 3, (0, 0, 0, 0)) := by decide +kernel
theorem fX6_numberOfFault_44 : ftc 44 (me_ci mX6_numberOfFault) = some (44, .ldc 23, 2, (639, 0, 0, -1000004)) := by decide +kernel
theorem fX6_numberOfFault_46 : ftc 46 (me_ci mX6_numberOfFault) = some (46, .ireturn, 1, (0, 0, 0, 0)) := by decide +kernel
theorem pX6_numberOfFault : pg 50 = some mX6_numberOfFault := by decide +kernel
theorem fX6_perform_0 : ftc 0 (me_ci mX6_perform) = some (0, .aload_n 0, 1, (0, 0, 0, 0)) := by decide +kernel
theorem fX6_perform_1 : ftc 1 (me_ci mX6_perform) = some (1, .iconst 0, 1, (0, 0, 0, 0)) := by decide +kernel
theorem fX6_perform_2 : ftc 2 (me_ci mX6_perform) = some (2, .putfield 24, 3, (6, 2, 207, 0)) := by decide +kernel
theorem fX6_perform_5 : ftc 5 (me_ci mX6_perform) = some (5, .aload_n 0, 1, (0, 0, 0, 0)) := by decide +kernel
theorem fX6_perform_6 : ftc 6 (me_ci mX6_perform) = some (6, .iconst 0, 1, (0, 0, 0, 0)) := by decide +kernel
theorem fX6_perform_7 : ftc 7 (me_ci mX6_perform) = some (7, .putfield 20, 3, (6, 3, 208, 0)) := by decide +kernel
theorem fX6_perform_10 : ftc 10 (me_ci mX6_perform) = some (10, .aload_n 0, 1, (0, 0, 0, 0)) := by decide +kernel
theorem fX6_perform_11 : ftc 11 (me_ci mX6_perform) = some (11, .iconst 0, 1, (0, 0, 0, 0)) := by decide +kernel
theorem fX6_perform_12 : ftc 12 (me_ci mX6_perform) = some (12, .putfield 27, 3, (6, 4, 210, 0)) := by decide +kernel
theorem fX6_perform_15 : ftc 15 (me_ci mX6_perform) = some (15, .aload_n 0, 1, (0, 0, 0, 0)) := by decide +kernel
theorem fX6_perform_16 : ftc 16 (me_ci mX6_perform) = some (16, .iconst 0, 1, (0, 0, 0, 0)) := by decide +kernel
theorem fX6_perform_17 : ftc 17 (me_ci mX6_perform) = some (17, .putfield 30, 3, (6, 5, 211, 0)) := by decide +kernel
theorem fX6_perform_20 : ftc 20 (me_ci mX6_perform) = some (20, .iconst 0, 1, (0, 0, 0, 0)) := by decide +kernel
theorem fX6_perform_21 : ftc 21 (me_ci mX6_perform) = some (21, .istore_n 3, 1, (0, 0, 0, 0)) := by decide +kernel
theorem fX6_perform_22 : ftc 22 (me_ci mX6_perform) = some (22, .iload_n 3, 1, (0, 0, 0, 0)) := by decide +kernel
theorem fX6_perform_23 : ftc 23 (me_ci mX6_perform) = some (23, .aload_n 0, 1, (0, 0, 0, 0)) := by decide +kernel
theorem fX6_perform_24 : ftc 24 (me_ci mX6_perform) = some (24, .getfield 15, 3, (6, 1, 205, 0)) := by decide +kernel
theorem fX6_perform_27 : ftc 27 (me_ci mX6_perform) = some (27, .if_icmp .ge 86, 3, (0, 0, 0, 0)) := by decide +kernel
theorem fX6_perform_30 : ftc 30 (me_ci mX6_perform) = some (30, .aload_n 0, 1, (0, 0, 0, 0)) := by decide +kernel
theorem fX6_perform_31 : ftc 31 (me_ci mX6_perform) = some (31, .getfield 24, 3, (6, 2, 207, 0)) := by decide +kernel
theorem fX6_perform_34 : ftc 34 (me_ci mX6_perform) = some (34, .aload_n 0, 1, (0, 0, 0, 0)) := by decide +kernel
theorem fX6_perform_35 : ftc 35 (me_ci mX6_perform) = some (35, .getfield 15, 3, (6, 1, 205, 0)) := by decide +kernel
theorem fX6_perform_38 : ftc 38 (me_ci mX6_perform) = some (38, .if_icmp .ge 75, 3, (0, 0, 0, 0)) := by decide +kernel
theorem fX6_perform_41 : ftc 41 (me_ci mX6_perform) = some (41, .aload_n 0, 1, (0, 0, 0, 0)) := by decide +kernel
theorem fX6_perform_42 : ftc 42 (me_ci mX6_perform) = some (42, .getfield 20, 3, (6, 3, 208, 0)) := by decide +kernel
theorem fX6_perform_45 : ftc 45 (me_ci mX6_perform) = some (45, .ifCond .ne 68, 3, (0, 0, 0, 0)) := by decide +kernel
theorem fX6_perform_48 : ftc 48 (me_ci mX6_perform) = some (48, .aload_n 0, 1, (0, 0, 0, 0)) := by decide +kernel
theorem fX6_perform_49 : ftc 49 (me_ci mX6_perform) = some (49, .invokevirtual 33, 3, (53, 0, 599, 0)) := by decide +kernel
theorem fX6_perform_52 : ftc 52 (me_ci mX6_perform) = some (52, .ifCond .ne 9, 3, (0, 0, 0, 0)) := by decide +kernel
theorem fX6_perform_55 : ftc 55 (me_ci mX6_perform) = some (55, .aload_n 0, 1, (0, 0, 0, 0)) := by decide +kernel
theorem fX6_perform_56 : ftc 56 (me_ci mX6_perform) = some (56, .iconst 1, 1, (0, 0, 0, 0)) := by decide +kernel
theorem fX6_perform_57 : ftc 57 (me_ci mX6_perform) = some (57, .putfield 20, 3, (6, 3, 208, 0)) := by decide +kernel
theorem fX6_perform_60 : ftc 60 (me_ci mX6_perform) = some (60, .return_, 1, (0, 0, 0, 0)) := by decide +kernel
theorem fX6_perform_61 : ftc 61 (me_ci mX6_perform) = some (61, .aload_n 0, 1, (0, 0, 0, 0)) := by decide +kernel
theorem fX6_perform_62 : ftc 62 (me_ci mX6_perform) = some (62, .aload_n 1, 1, (0, 0, 0, 0)) := by decide +kernel
theorem fX6_perform_63 : ftc 63 (me_ci mX6_perform) = some (63, .aload_n 2, 1, (0, 0, 0, 0)) := by decide +kernel
theorem fX6_perform_64 : ftc 64 (me_ci mX6_perform) = some (64, .invokevirtual 37, 3, (52, 0, 627, 0)) := by decide +kernel
theorem fX6_perform_67 : ftc 67 (me_ci mX6_perform) = some (67, .istore 4, 2, (0, 0, 0, 0)) := by decide +kernel
theorem fX6_perform_69 : ftc 69 (me_ci mX6_perform) = some (69, .iload 4, 2, (0, 0, 0, 0)) := by decide +kernel
theorem fX6_perform_71 : ftc 71 (me_ci mX6_perform) = some (71, .invokestatic 41, 3, (86, 1, 4, 0)) := by decide +kernel
theorem fX6_perform_74 : ftc 74 (me_ci mX6_perform) = some (74, .ifCond .eq 15, 3, (0, 0, 0, 0)) := by decide +kernel
theorem fX6_perform_77 : ftc 77 (me_ci mX6_perform) = some (77, .aload_n 0, 1, (0, 0, 0, 0)) := by decide +kernel
theorem fX6_perform_78 : ftc 78 (me_ci mX6_perform) = some (78, .iconst 2, 1, (0, 0, 0, 0)) := by decide +kernel
theorem fX6_perform_79 : ftc 79 (me_ci mX6_perform) = some (79, .putfield 20, 3, (6, 3, 208, 0)) := by decide +kernel
theorem fX6_perform_82 : ftc 82 (me_ci mX6_perform) = some (82, .aload_n 0, 1, (0, 0, 0, 0)) := by decide +kernel
theorem fX6_perform_83 : ftc 83 (me_ci mX6_perform) = some (83, .iload 4, 2, (0, 0, 0, 0)) := by decide +kernel
theorem fX6_perform_85 : ftc 85 (me_ci mX6_perform) = some (85, .putfield 27, 3, (6, 4, 210, 0)) := by decide +kernel
theorem fX6_perform_88 : ftc 88 (me_ci mX6_perform) = some (88, .return_, 1, (0, 0, 0, 0)) := by decide +kernel
theorem fX6_perform_89 : ftc 89 (me_ci mX6_perform) = some (89, .aload_n 0, 1, (0, 0, 0, 0)) := by decide +kernel
theorem fX6_perform_90 : ftc 90 (me_ci mX6_perform) = some (90, .dup, 1, (0, 0, 0, 0)) := by decide +kernel
theorem fX6_perform_91 : ftc 91 (me_ci mX6_perform) = some (91, .getfield 30, 3, (6, 5, 211, 0)) := by decide +kernel
theorem fX6_perform_94 : ftc 94 (me_ci mX6_perform) = some (94, .iconst 1, 1, (0, 0, 0, 0)) := by decide +kernel
theorem fX6_perform_95 : ftc 95 (me_ci mX6_perform) = some (95, .iadd, 1, (0, 0, 0, 0)) := by decide +kernel
theorem fX6_perform_96 : ftc 96 (me_ci mX6_perform) = some (96, .putfield 30, 3, (6, 5, 211, 0)) := by decide +kernel
theorem fX6_perform_99 : ftc 99 (me_ci mX6_perform) = some (99, .aload_n 0, 1, (0, 0, 0, 0)) := by decide +kernel
theorem fX6_perform_100 : ftc 100 (me_ci mX6_perform) = some (100, .aload_n 0, 1, (0, 0, 0, 0)) := by decide +kernel
theorem fX6_perform_101 : ftc 101 (me_ci mX6_perform) = some (101, .getfield 45, 3, (6, 6, 213, 0)) := by decide +kernel
theorem fX6_perform_104 : ftc 104 (me_ci mX6_perform) = some (104, .putfield 24, 3, (6, 2, 207, 0)) := by decide +kernel
theorem fX6_perform_107 : ftc 107 (me_ci mX6_perform) = some (107, .iinc 3 1, 3, (0, 0, 0, 0)) := by decide +kernel
theorem fX6_perform_110 : ftc 110 (me_ci mX6_perform) = some (110, .goto (-88), 3, (0, 0, 0, 0)) := by decide +kernel
theorem fX6_perform_113 : ftc 113 (me_ci mX6_perform) = some (113, .return_, 1, (0, 0, 0, 0)) := by decide +kernel
theorem pX6_perform : pg 51 = some mX6_perform := by decide +kernel
theorem fX6_call_0 : ftc 0 (me_ci mX6_call) = some (0, .aload_n 0, 1, (0, 0, 0, 0)) := by decide +kernel
theorem fX6_call_1 : ftc 1 (me_ci mX6_call) = some (1, .getfield 48, 3, (6, 7, 214, 0)) := by decide +kernel
theorem fX6_call_4 : ftc 4 (me_ci mX6_call) = some (4, .bipush 108, 2, (0, 0, 0, 0)) := by decide +kernel
theorem fX6_call_6 : ftc 6 (me_ci mX6_call) = some (6, .if_icmp .ne 12, 3, (0, 0, 0, 0)) := by decide +kernel
theorem fX6_call_9 : ftc 9 (me_ci mX6_call) = some (9, .aload_n 1, 1, (0, 0, 0, 0)) := by decide +kernel
theorem fX6_call_10 : ftc 10 (me_ci mX6_call) = some (10, .aload_n 0, 1, (0, 0, 0, 0)) := by decide +kernel
theorem fX6_call_11 : ftc 11 (me_ci mX6_call) = some (11, .getfield 51, 3, (6, 8, 215, 0)) := by decide +kernel
theorem fX6_call_14 : ftc 14 (me_ci mX6_call) = some (14, .invokevirtual 54, 3, (31, 0, 631, 0)) := by decide +kernel
theorem fX6_call_17 : ftc 17 (me_ci mX6_call) = some (17, .ireturn, 1, (0, 0, 0, 0)) := by decide +kernel
theorem fX6_call_18 : ftc 18 (me_ci mX6_call) = some (18, .aload_n 0, 1, (0, 0, 0, 0)) := by decide +kernel
theorem fX6_call_19 : ftc 19 (me_ci mX6_call) = some (19, .getfield 48, 3, (6, 7, 214, 0)) := by decide +kernel
theorem fX6_call_22 : ftc 22 (me_ci mX6_call) = some (22, .bipush 98, 2, (0, 0, 0, 0)) := by decide +kernel
theorem fX6_call_24 : ftc 24 (me_ci mX6_call) = some (24, .if_icmp .ne 16, 3, (0, 0, 0, 0)) := by decide +kernel
theorem fX6_call_27 : ftc 27 (me_ci mX6_call) = some (27, .aload_n 1, 1, (0, 0, 0, 0)) := by decide +kernel
theorem fX6_call_28 : ftc 28 (me_ci mX6_call) = some (28, .aload_n 0, 1, (0, 0, 0, 0)) := by decide +kernel
theorem fX6_call_29 : ftc 29 (me_ci mX6_call) = some (29, .getfield 51, 3, (6, 8, 215, 0)) := by decide +kernel
theorem fX6_call_32 : ftc 32 (me_ci mX6_call) = some (32, .aload_n 0, 1, (0, 0, 0, 0)) := by decide +kernel
theorem fX6_call_33 : ftc 33 (me_ci mX6_call) = some (33, .getfield 60, 3, (6, 9, 216, 0)) := by decide +kernel
theorem fX6_call_36 : ftc 36 (me_ci mX6_call) = some (36, .invokevirtual 63, 3, (32, 0, 632, 0)) := by decide +kernel
theorem fX6_call_39 : ftc 39 (me_ci mX6_call) = some (39, .ireturn, 1, (0, 0, 0, 0)) := by decide +kernel
theorem fX6_call_40 : ftc 40 (me_ci mX6_call) = some (40, .aload_n 1, 1, (0, 0, 0, 0)) := by decide +kernel
theorem fX6_call_41 : ftc 41 (me_ci mX6_call) = some (41, .aload_n 2, 1, (0, 0, 0, 0)) := by decide +kernel
theorem fX6_call_42 : ftc 42 (me_ci mX6_call) = some (42, .invokevirtual 67, 3, (34, 0, 633, 0)) := by decide +kernel
theorem fX6_call_45 : ftc 45 (me_ci mX6_call) = some (45, .ireturn, 1, (0, 0, 0, 0)) := by decide +kernel
theorem pX6_call : pg 52 = some mX6_call := by decide +kernel
theorem fX6_readCommand_0 : ftc 0 (me_ci mX6_readCommand) = some (0, .aload_n 0, 1, (0, 0, 0, 0)) := by decide +kernel
theorem fX6_readCommand_1 : ftc 1 (me_ci mX6_readCommand) = some (1, .aload_n 0, 1, (0, 0, 0, 0)) := by decide +kernel
theorem fX6_readCommand_2 : ftc 2 (me_ci mX6_readCommand) = some (2, .getfield 24, 3, (6, 2, 207, 0)) := by decide +kernel
theorem fX6_readCommand_5 : ftc 5 (me_ci mX6_readCommand) = some (5, .putfield 45, 3, (6, 6, 213, 0)) := by decide +kernel
theorem fX6_readCommand_8 : ftc 8 (me_ci mX6_readCommand) = some (8, .aload_n 0, 1, (0, 0, 0, 0)) := by decide +kernel
theorem fX6_readCommand_9 : ftc 9 (me_ci mX6_readCommand) = some (9, .aload_n 0, 1, (0, 0, 0, 0)) := by decide +kernel
theorem fX6_readCommand_10 : ftc 10 (me_ci mX6_readCommand) = some (10, .aload_n 0, 1, (0, 0, 0, 0)) := by decide +kernel
theorem fX6_readCommand_11 : ftc 11 (me_ci mX6_readCommand) = some (11, .getfield 45, 3, (6, 6, 213, 0)) := by decide +kernel
theorem fX6_readCommand_14 : ftc 14 (me_ci mX6_readCommand) = some (14, .invokevirtual 71, 3, (59, 0, 603, 0)) := by decide +kernel
theorem fX6_readCommand_17 : ftc 17 (me_ci mX6_readCommand) = some (17, .putfield 48, 3, (6, 7, 214, 0)) := by decide +kernel
theorem fX6_readCommand_20 : ftc 20 (me_ci mX6_readCommand) = some (20, .aload_n 0, 1, (0, 0, 0, 0)) := by decide +kernel
theorem fX6_readCommand_21 : ftc 21 (me_ci mX6_readCommand) = some (21, .dup, 1, (0, 0, 0, 0)) := by decide +kernel
theorem fX6_readCommand_22 : ftc 22 (me_ci mX6_readCommand) = some (22, .getfield 45, 3, (6, 6, 213, 0)) := by decide +kernel
theorem fX6_readCommand_25 : ftc 25 (me_ci mX6_readCommand) = some (25, .iconst 1, 1, (0, 0, 0, 0)) := by decide +kernel
theorem fX6_readCommand_26 : ftc 26 (me_ci mX6_readCommand) = some (26, .iadd, 1, (0, 0, 0, 0)) := by decide +kernel
theorem fX6_readCommand_27 : ftc 27 (me_ci mX6_readCommand) = some (27, .putfield 45, 3, (6, 6, 213, 0)) := by decide +kernel
theorem fX6_readCommand_30 : ftc 30 (me_ci mX6_readCommand) = some (30, .aload_n 0, 1, (0, 0, 0, 0)) := by decide +kernel
theorem fX6_readCommand_31 : ftc 31 (me_ci mX6_readCommand) = some (31, .getfield 48, 3, (6, 7, 214, 0)) := by decide +kernel
theorem fX6_readCommand_34 : ftc 34 (me_ci mX6_readCommand) = some (34, .bipush 108, 2, (0, 0, 0, 0)) := by decide +kernel
theorem fX6_readCommand_36 : ftc 36 (me_ci mX6_readCommand) = some (36, .if_icmp .ne 25, 3, (0, 0, 0, 0)) := by decide +kernel
theorem fX6_readCommand_39 : ftc 39 (me_ci mX6_readCommand) = some (39, .aload_n 0, 1, (0, 0, 0, 0)) := by decide +kernel
theorem fX6_readCommand_40 : ftc 40 (me_ci mX6_readCommand) = some (40, .invokevirtual 74, 3, (54, 0, 607, 0)) := by decide +kernel
theorem fX6_readCommand_43 : ftc 43 (me_ci mX6_readCommand) = some (43, .ifCond .eq 16, 3, (0, 0, 0, 0)) := by decide +kernel
theorem fX6_readCommand_46 : ftc 46 (me_ci mX6_readCommand) = some (46, .aload_n 0, 1, (0, 0, 0, 0)) := by decide +kernel
theorem fX6_readCommand_47 : ftc 47 (me_ci mX6_readCommand) = some (47, .bipush 59, 2, (0, 0, 0, 0)) := by decide +kernel
theorem fX6_readCommand_49 : ftc 49 (me_ci mX6_readCommand) = some (49, .invokevirtual 77, 3, (57, 0, 611, 0)) := by decide +kernel
theorem fX6_readCommand_52 : ftc 52 (me_ci mX6_readCommand) = some (52, .ifCond .eq 7, 3, (0, 0, 0, 0)) := by decide +kernel
theorem fX6_readCommand_55 : ftc 55 (me_ci mX6_readCommand) = some (55, .iconst 1, 1, (0, 0, 0, 0)) := by decide +kernel
theorem fX6_readCommand_56 : ftc 56 (me_ci mX6_readCommand) = some (56, .goto 4, 3, (0, 0, 0, 0)) := by decide +kernel
theorem fX6_readCommand_59 : ftc 59 (me_ci mX6_readCommand) = some (59, .iconst 0, 1, (0, 0, 0, 0)) := by decide +kernel
theorem fX6_readCommand_60 : ftc 60 (me_ci mX6_readCommand) = some (60, .ireturn, 1, (0, 0, 0, 0)) := by decide +kernel
theorem fX6_readCommand_61 : ftc 61 (me_ci mX6_readCommand) = some (61, .aload_n 0, 1, (0, 0, 0, 0)) := by decide +kernel
theorem fX6_readCommand_62 : ftc 62 (me_ci mX6_readCommand) = some (62, .getfield 48, 3, (6, 7, 214, 0)) := by decide +kernel
theorem fX6_readCommand_65 : ftc 65 (me_ci mX6_readCommand) = some (65, .bipush 98, 2, (0, 0, 0, 0)) := by decide +kernel
theorem fX6_readCommand_67 : ftc 67 (me_ci mX6_readCommand) = some (67, .if_icmp .ne 25, 3, (0, 0, 0, 0)) := by decide +kernel
theorem fX6_readCommand_70 : ftc 70 (me_ci mX6_readCommand) = some (70, .aload_n 0, 1, (0, 0, 0, 0)) := by decide +kernel
theorem fX6_readCommand_71 : ftc 71 (me_ci mX6_readCommand) = some (71, .invokevirtual 80, 3, (55, 0, 623, 0)) := by decide +kernel
theorem fX6_readCommand_74 : ftc 74 (me_ci mX6_readCommand) = some (74, .ifCond .eq 16, 3, (0, 0, 0, 0)) := by decide +kernel
theorem fX6_readCommand_77 : ftc 77 (me_ci mX6_readCommand) = some (77, .aload_n 0, 1, (0, 0, 0, 0)) := by decide +kernel
theorem fX6_readCommand_78 : ftc 78 (me_ci mX6_readCommand) = some (78, .bipush 59, 2, (0, 0, 0, 0)) := by decide +kernel
theorem fX6_readCommand_80 : ftc 80 (me_ci mX6_readCommand) = some (80, .invokevirtual 77, 3, (57, 0, 611, 0)) := by decide +kernel
theorem fX6_readCommand_83 : ftc 83 (me_ci mX6_readCommand) = some (83, .ifCond .eq 7, 3, (0, 0, 0, 0)) := by decide +kernel
theorem fX6_readCommand_86 : ftc 86 (me_ci mX6_readCommand) = some (86, .iconst 1, 1, (0, 0, 0, 0)) := by decide +kernel
theorem fX6_readCommand_87 : ftc 87 (me_ci mX6_readCommand) = some (87, .goto 4, 3, (0, 0, 0, 0)) := by decide +kernel
theorem fX6_readCommand_90 : ftc 90 (me_ci mX6_readCommand) = some (90, .iconst 0, 1, (0, 0, 0, 0)) := by decide +kernel
theorem fX6_readCommand_91 : ftc 91 (me_ci mX6_readCommand) = some (91, .ireturn, 1, (0, 0, 0, 0)) := by decide +kernel
theorem fX6_readCommand_92 : ftc 92 (me_ci mX6_readCommand) = some (92, .aload_n 0, 1, (0, 0, 0, 0)) := by decide +kernel
theorem fX6_readCommand_93 : ftc 93 (me_ci mX6_readCommand) = some (93, .getfield 48, 3, (6, 7, 214, 0)) := by decide +kernel
theorem fX6_readCommand_96 : ftc 96 (me_ci mX6_readCommand) = some (96, .bipush 114, 2, (0, 0, 0, 0)) := by decide +kernel
theorem fX6_readCommand_98 : ftc 98 (me_ci mX6_readCommand) = some (98, .if_icmp .ne 16, 3, (0, 0, 0, 0)) := by decide +kernel
theorem fX6_readCommand_101 : ftc 101 (me_ci mX6_readCommand) = some (101, .aload_n 0, 1, (0, 0, 0, 0)) := by decide +kernel
theorem fX6_readCommand_102 : ftc 102 (me_ci mX6_readCommand) = some (102, .bipush 59, 2, (0, 0, 0, 0)) := by decide +kernel
theorem fX6_readCommand_104 : ftc 104 (me_ci mX6_readCommand) = some (104, .invokevirtual 77, 3, (57, 0, 611, 0)) := by decide +kernel
theorem fX6_readCommand_107 : ftc 107 (me_ci mX6_readCommand) = some (107, .ifCond .eq 7, 3, (0, 0, 0, 0)) := by decide +kernel
theorem fX6_readCommand_110 : ftc 110 (me_ci mX6_readCommand) = some (110, .iconst 1, 1, (0, 0, 0, 0)) := by decide +kernel
theorem fX6_readCommand_111 : ftc 111 (me_ci mX6_readCommand) = some (111, .goto 4, 3, (0, 0, 0, 0)) := by decide +kernel
theorem fX6_readCommand_114 : ftc 114 (me_ci mX6_readCommand) = some (114, .iconst 0, 1, (0, 0, 0, 0)) := by decide +kernel
theorem fX6_readCommand_115 : ftc 115 (me_ci mX6_readCommand) = some (115, .ireturn, 1, (0, 0, 0, 0)) := by decide +kernel
theorem pX6_readCommand : pg 53 = some mX6_readCommand := by decide +kernel
theorem fX6_readValue_0 : ftc 0 (me_ci mX6_readValue) = some (0, .aload_n 0, 1, (0, 0, 0, 0)) := by decide +kernel
theorem fX6_readValue_1 : ftc 1 (me_ci mX6_readValue) = some (1, .bipush 45, 2, (0, 0, 0, 0)) := by decide +kernel
theorem fX6_readValue_3 : ftc 3 (me_ci mX6_readValue) = some (3, .invokevirtual 77, 3, (57, 0, 611, 0)) := by decide +kernel
theorem fX6_readValue_6 : ftc 6 (me_ci mX6_readValue) = some (6, .istore_n 1, 1, (0, 0, 0, 0)) := by decide +kernel
theorem fX6_readValue_7 : ftc 7 (me_ci mX6_readValue) = some (7, .aload_n 0, 1, (0, 0, 0, 0)) := by decide +kernel
theorem fX6_readValue_8 : ftc 8 (me_ci mX6_readValue) = some (8, .invokevirtual 83, 3, (56, 0, 615, 0)) := by decide +kernel
theorem fX6_readValue_11 : ftc 11 (me_ci mX6_readValue) = some (11, .istore_n 2, 1, (0, 0, 0, 0)) := by decide +kernel
theorem fX6_readValue_12 : ftc 12 (me_ci mX6_readValue) = some (12, .aload_n 0, 1, (0, 0, 0, 0)) := by decide +kernel
theorem fX6_readValue_13 : ftc 13 (me_ci mX6_readValue) = some (13, .iload_n 1, 1, (0, 0, 0, 0)) := by decide +kernel
theorem fX6_readValue_14 : ftc 14 (me_ci mX6_readValue) = some (14, .ifCond .eq 8, 3, (0, 0, 0, 0)) := by decide +kernel
theorem fX6_readValue_17 : ftc 17 (me_ci mX6_readValue) = some (17, .iload_n 2, 1, (0, 0, 0, 0)) := by decide +kernel
theorem fX6_readValue_18 : ftc 18 (me_ci mX6_readValue) = some (18, .ineg, 1, (0, 0, 0, 0)) := by decide +kernel
theorem fX6_readValue_19 : ftc 19 (me_ci mX6_readValue) = some (19, .goto 4, 3, (0, 0, 0, 0)) := by decide +kernel
theorem fX6_readValue_22 : ftc 22 (me_ci mX6_readValue) = some (22, .iload_n 2, 1, (0, 0, 0, 0)) := by decide +kernel
theorem fX6_readValue_23 : ftc 23 (me_ci mX6_readValue) = some (23, .putfield 51, 3, (6, 8, 215, 0)) := by decide +kernel
theorem fX6_readValue_26 : ftc 26 (me_ci mX6_readValue) = some (26, .iload_n 2, 1, (0, 0, 0, 0)) := by decide +kernel
theorem fX6_readValue_27 : ftc 27 (me_ci mX6_readValue) = some (27, .ifCond .lt 7, 3, (0, 0, 0, 0)) := by decide +kernel
theorem fX6_readValue_30 : ftc 30 (me_ci mX6_readValue) = some (30, .iconst 1, 1, (0, 0, 0, 0)) := by decide +kernel
theorem fX6_readValue_31 : ftc 31 (me_ci mX6_readValue) = some (31, .goto 4, 3, (0, 0, 0, 0)) := by decide +kernel
theorem fX6_readValue_34 : ftc 34 (me_ci mX6_readValue) = some (34, .iconst 0, 1, (0, 0, 0, 0)) := by decide +kernel
theorem fX6_readValue_35 : ftc 35 (me_ci mX6_readValue) = some (35, .ireturn, 1, (0, 0, 0, 0)) := by decide +kernel
theorem pX6_readValue : pg 54 = some mX6_readValue := by decide +kernel
theorem fX6_readBid_0 : ftc 0 (me_ci mX6_readBid) = some (0, .aload_n 0, 1, (0, 0, 0, 0)) := by decide +kernel
theorem fX6_readBid_1 : ftc 1 (me_ci mX6_readBid) = some (1, .aload_n 0, 1, (0, 0, 0, 0)) := by decide +kernel
theorem fX6_readBid_2 : ftc 2 (me_ci mX6_readBid) = some (2, .invokevirtual 83, 3, (56, 0, 615, 0)) := by decide +kernel
theorem fX6_readBid_5 : ftc 5 (me_ci mX6_readBid) = some (5, .putfield 51, 3, (6, 8, 215, 0)) := by decide +kernel
theorem fX6_readBid_8 : ftc 8 (me_ci mX6_readBid) = some (8, .aload_n 0, 1, (0, 0, 0, 0)) := by decide +kernel
theorem fX6_readBid_9 : ftc 9 (me_ci mX6_readBid) = some (9, .getfield 51, 3, (6, 8, 215, 0)) := by decide +kernel
theorem fX6_readBid_12 : ftc 12 (me_ci mX6_readBid) = some (12, .ifCond .lt 12, 3, (0, 0, 0, 0)) := by decide +kernel
theorem fX6_readBid_15 : ftc 15 (me_ci mX6_readBid) = some (15, .aload_n 0, 1, (0, 0, 0, 0)) := by decide +kernel
theorem fX6_readBid_16 : ftc 16 (me_ci mX6_readBid) = some (16, .bipush 44, 2, (0, 0, 0, 0)) := by decide +kernel
theorem fX6_readBid_18 : ftc 18 (me_ci mX6_readBid) = some (18, .invokevirtual 77, 3, (57, 0, 611, 0)) := by decide +kernel
theorem fX6_readBid_21 : ftc 21 (me_ci mX6_readBid) = some (21, .ifCond .ne 5, 3, (0, 0, 0, 0)) := by decide +kernel
theorem fX6_readBid_24 : ftc 24 (me_ci mX6_readBid) = some (24, .iconst 0, 1, (0, 0, 0, 0)) := by decide +kernel
theorem fX6_readBid_25 : ftc 25 (me_ci mX6_readBid) = some (25, .ireturn, 1, (0, 0, 0, 0)) := by decide +kernel
theorem fX6_readBid_26 : ftc 26 (me_ci mX6_readBid) = some (26, .aload_n 0, 1, (0, 0, 0, 0)) := by decide +kernel
theorem fX6_readBid_27 : ftc 27 (me_ci mX6_readBid) = some (27, .aload_n 0, 1, (0, 0, 0, 0)) := by decide +kernel
theorem fX6_readBid_28 : ftc 28 (me_ci mX6_readBid) = some (28, .invokevirtual 83, 3, (56, 0, 615, 0)) := by decide +kernel
theorem fX6_readBid_31 : ftc 31 (me_ci mX6_readBid) = some (31, .putfield 60, 3, (6, 9, 216, 0)) := by decide +kernel
theorem fX6_readBid_34 : ftc 34 (me_ci mX6_readBid) = some (34, .aload_n 0, 1, (0, 0, 0, 0)) := by decide +kernel
theorem fX6_readBid_35 : ftc 35 (me_ci mX6_readBid) = some (35, .getfield 60, 3, (6, 9, 216, 0)) := by decide +kernel
theorem fX6_readBid_38 : ftc 38 (me_ci mX6_readBid) = some (38, .ifCond .lt 7, 3, (0, 0, 0, 0)) := by decide +kernel
theorem fX6_readBid_41 : ftc 41 (me_ci mX6_readBid) = some (41, .iconst 1, 1, (0, 0, 0, 0)) := by decide +kernel
theorem fX6_readBid_42 : ftc 42 (me_ci mX6_readBid) = some (42, .goto 4, 3, (0, 0, 0, 0)) := by decide +kernel
theorem fX6_readBid_45 : ftc 45 (me_ci mX6_readBid) = some (45, .iconst 0, 1, (0, 0, 0, 0)) := by decide +kernel
theorem fX6_readBid_46 : ftc 46 (me_ci mX6_readBid) = some (46, .ireturn, 1, (0, 0, 0, 0)) := by decide +kernel
theorem pX6_readBid : pg 55 = some mX6_readBid := by decide +kernel
theorem fX6_readNumber_0 : ftc 0 (me_ci mX6_readNumber) = some (0, .aload_n 0, 1, (0, 0, 0, 0)) := by decide +kernel
theorem fX6_readNumber_1 : ftc 1 (me_ci mX6_readNumber) = some (1, .aload_n 0, 1, (0, 0, 0, 0)) := by decide +kernel
theorem fX6_readNumber_2 : ftc 2 (me_ci mX6_readNumber) = some (2, .getfield 45, 3, (6, 6, 213, 0)) := by decide +kernel
theorem fX6_readNumber_5 : ftc 5 (me_ci mX6_readNumber) = some (5, .invokevirtual 87, 3, (58, 0, 619, 0)) := by decide +kernel
theorem fX6_readNumber_8 : ftc 8 (me_ci mX6_readNumber) = some (8, .istore_n 1, 1, (0, 0, 0, 0)) := by decide +kernel
theorem fX6_readNumber_9 : ftc 9 (me_ci mX6_readNumber) = some (9, .iload_n 1, 1, (0, 0, 0, 0)) := by decide +kernel
theorem fX6_readNumber_10 : ftc 10 (me_ci mX6_readNumber) = some (10, .ifCond .ge 5, 3, (0, 0, 0, 0)) := by decide +kernel
theorem fX6_readNumber_13 : ftc 13 (me_ci mX6_readNumber) = some (13, .iconst (-1), 1, (0, 0, 0, 0)) := by decide +kernel
theorem fX6_readNumber_14 : ftc 14 (me_ci mX6_readNumber) = some (14, .ireturn, 1, (0, 0, 0, 0)) := by decide +kernel
theorem fX6_readNumber_15 : ftc 15 (me_ci mX6_readNumber) = some (15, .aload_n 0, 1, (0, 0, 0, 0)) := by decide +kernel
theorem fX6_readNumber_16 : ftc 16 (me_ci mX6_readNumber) = some (16, .dup, 1, (0, 0, 0, 0)) := by decide +kernel
theorem fX6_readNumber_17 : ftc 17 (me_ci mX6_readNumber) = some (17, .getfield 45, 3, (6, 6, 213, 0)) := by decide +kernel
theorem fX6_readNumber_20 : ftc 20 (me_ci mX6_readNumber) = some (20, .iconst 1, 1, (0, 0, 0, 0)) := by decide +kernel
theorem fX6_readNumber_21 : ftc 21 (me_ci mX6_readNumber) = some (21, .iadd, 1, (0, 0, 0, 0)) := by decide +kernel
theorem fX6_readNumber_22 : ftc 22 (me_ci mX6_readNumber) = some (22, .putfield 45, 3, (6, 6, 213, 0)) := by decide +kernel
theorem fX6_readNumber_25 : ftc 25 (me_ci mX6_readNumber) = some (25, .aload_n 0, 1, (0, 0, 0, 0)) := by decide +kernel
theorem fX6_readNumber_26 : ftc 26 (me_ci mX6_readNumber) = some (26, .aload_n 0, 1, (0, 0, 0, 0)) := by decide +kernel
theorem fX6_readNumber_27 : ftc 27 (me_ci mX6_readNumber) = some (27, .getfield 45, 3, (6, 6, 213, 0)) := by decide +kernel
theorem fX6_readNumber_30 : ftc 30 (me_ci mX6_readNumber) = some (30, .invokevirtual 87, 3, (58, 0, 619, 0)) := by decide +kernel
theorem fX6_readNumber_33 : ftc 33 (me_ci mX6_readNumber) = some (33, .istore_n 2, 1, (0, 0, 0, 0)) := by decide +kernel
theorem fX6_readNumber_34 : ftc 34 (me_ci mX6_readNumber) = some (34, .iload_n 2, 1, (0, 0, 0, 0)) := by decide +kernel
theorem fX6_readNumber_35 : ftc 35 (me_ci mX6_readNumber) = some (35, .ifCond .ge 5, 3, (0, 0, 0, 0)) := by decide +kernel
theorem fX6_readNumber_38 : ftc 38 (me_ci mX6_readNumber) = some (38, .iload_n 1, 1, (0, 0, 0, 0)) := by decide +kernel
theorem fX6_readNumber_39 : ftc 39 (me_ci mX6_readNumber) = some (39, .ireturn, 1, (0, 0, 0, 0)) := by decide +kernel
theorem fX6_readNumber_40 : ftc 40 (me_ci mX6_readNumber) = some (40, .aload_n 0, 1, (0, 0, 0, 0)) := by decide +kernel
theorem fX6_readNumber_41 : ftc 41 (me_ci mX6_readNumber) = some (41, .dup, 1, (0, 0, 0, 0)) := by decide +kernel
theorem fX6_readNumber_42 : ftc 42 (me_ci mX6_readNumber) = some (42, .getfield 45, 3, (6, 6, 213, 0)) := by decide +kernel
theorem fX6_readNumber_45 : ftc 45 (me_ci mX6_readNumber) = some (45, .iconst 1, 1, (0, 0, 0, 0)) := by decide +kernel
theorem fX6_readNumber_46 : ftc 46 (me_ci mX6_readNumber) = some (46, .iadd, 1, (0, 0, 0, 0)) := by decide +kernel
theorem fX6_readNumber_47 : ftc 47 (me_ci mX6_readNumber) = some (47, .putfield 45, 3, (6, 6, 213, 0)) := by decide +kernel
theorem fX6_readNumber_50 : ftc 50 (me_ci mX6_readNumber) = some (50, .bipush 10, 2, (0, 0, 0, 0)) := by decide +kernel
theorem fX6_readNumber_52 : ftc 52 (me_ci mX6_readNumber) = some (52, .iload_n 1, 1, (0, 0, 0, 0)) := by decide +kernel
theorem fX6_readNumber_53 : ftc 53 (me_ci mX6_readNumber) = some (53, .imul, 1, (0, 0, 0, 0)) := by decide +kernel
theorem fX6_readNumber_54 : ftc 54 (me_ci mX6_readNumber) = some (54, .iload_n 2, 1, (0, 0, 0, 0)) := by decide +kernel
theorem fX6_readNumber_55 : ftc 55 (me_ci mX6_readNumber) = some (55, .iadd, 1, (0, 0, 0, 0)) := by decide +kernel
theorem fX6_readNumber_56 : ftc 56 (me_ci mX6_readNumber) = some (56, .ireturn, 1, (0, 0, 0, 0)) := by decide +kernel
theorem pX6_readNumber : pg 56 = some mX6_readNumber := by decide +kernel
theorem fX6_passes_0 : ftc 0 (me_ci mX6_passes) = some (0, .aload_n 0, 1, (0, 0, 0, 0)) := by decide +kernel
theorem fX6_passes_1 : ftc 1 (me_ci mX6_passes) = some (1, .aload_n 0, 1, (0, 0, 0, 0)) := by decide +kernel
theorem fX6_passes_2 : ftc 2 (me_ci mX6_passes) = some (2, .getfield 45, 3, (6, 6, 213, 0)) := by decide +kernel
theorem fX6_passes_5 : ftc 5 (me_ci mX6_passes) = some (5, .invokevirtual 71, 3, (59, 0, 603, 0)) := by decide +kernel
theorem fX6_passes_8 : ftc 8 (me_ci mX6_passes) = some (8, .iload_n 1, 1, (0, 0, 0, 0)) := by decide +kernel
theorem fX6_passes_9 : ftc 9 (me_ci mX6_passes) = some (9, .if_icmp .eq 5, 3, (0, 0, 0, 0)) := by decide +kernel
theorem fX6_passes_12 : ftc 12 (me_ci mX6_passes) = some (12, .iconst 0, 1, (0, 0, 0, 0)) := by decide +kernel
theorem fX6_passes_13 : ftc 13 (me_ci mX6_passes) = some (13, .ireturn, 1, (0, 0, 0, 0)) := by decide +kernel
theorem fX6_passes_14 : ftc 14 (me_ci mX6_passes) = some (14, .aload_n 0, 1, (0, 0, 0, 0)) := by decide +kernel
theorem fX6_passes_15 : ftc 15 (me_ci mX6_passes) = some (15, .dup, 1, (0, 0, 0, 0)) := by decide +kernel
theorem fX6_passes_16 : ftc 16 (me_ci mX6_passes) = some (16, .getfield 45, 3, (6, 6, 213, 0)) := by decide +kernel
theorem fX6_passes_19 : ftc 19 (me_ci mX6_passes) = some (19, .iconst 1, 1, (0, 0, 0, 0)) := by decide +kernel
theorem fX6_passes_20 : ftc 20 (me_ci mX6_passes) = some (20, .iadd, 1, (0, 0, 0, 0)) := by decide +kernel
theorem fX6_passes_21 : ftc 21 (me_ci mX6_passes) = some (21, .putfield 45, 3, (6, 6, 213, 0)) := by decide +kernel
theorem fX6_passes_24 : ftc 24 (me_ci mX6_passes) = some (24, .iconst 1, 1, (0, 0, 0, 0)) := by decide +kernel
theorem fX6_passes_25 : ftc 25 (me_ci mX6_passes) = some (25, .ireturn, 1, (0, 0, 0, 0)) := by decide +kernel
theorem pX6_passes : pg 57 = some mX6_passes := by decide +kernel
theorem fX6_digitAt_0 : ftc 0 (me_ci mX6_digitAt) = some (0, .aload_n 0, 1, (0, 0, 0, 0)) := by decide +kernel
theorem fX6_digitAt_1 : ftc 1 (me_ci mX6_digitAt) = some (1, .iload_n 1, 1, (0, 0, 0, 0)) := by decide +kernel
theorem fX6_digitAt_2 : ftc 2 (me_ci mX6_digitAt) = some (2, .invokevirtual 71, 3, (59, 0, 603, 0)) := by decide +kernel
theorem fX6_digitAt_5 : ftc 5 (me_ci mX6_digitAt) = some (5, .istore_n 2, 1, (0, 0, 0, 0)) := by decide +kernel
theorem fX6_digitAt_6 : ftc 6 (me_ci mX6_digitAt) = some (6, .iload_n 2, 1, (0, 0, 0, 0)) := by decide +kernel
theorem fX6_digitAt_7 : ftc 7 (me_ci mX6_digitAt) = some (7, .bipush 48, 2, (0, 0, 0, 0)) := by decide +kernel
theorem fX6_digitAt_9 : ftc 9 (me_ci mX6_digitAt) = some (9, .if_icmp .lt 16, 3, (0, 0, 0, 0)) := by decide +kernel
theorem fX6_digitAt_12 : ftc 12 (me_ci mX6_digitAt) = some (12, .iload_n 2, 1, (0, 0, 0, 0)) := by decide +kernel
theorem fX6_digitAt_13 : ftc 13 (me_ci mX6_digitAt) = some (13, .bipush 57, 2, (0, 0, 0, 0)) := by decide +kernel
theorem fX6_digitAt_15 : ftc 15 (me_ci mX6_digitAt) = some (15, .if_icmp .gt 10, 3, (0, 0, 0, 0)) := by decide +kernel
theorem fX6_digitAt_18 : ftc 18 (me_ci mX6_digitAt) = some (18, .iload_n 2, 1, (0, 0, 0, 0)) := by decide +kernel
theorem fX6_digitAt_19 : ftc 19 (me_ci mX6_digitAt) = some (19, .bipush 48, 2, (0, 0, 0, 0)) := by decide +kernel
theorem fX6_digitAt_21 : ftc 21 (me_ci mX6_digitAt) = some (21, .isub, 1, (0, 0, 0, 0)) := by decide +kernel
theorem fX6_digitAt_22 : ftc 22 (me_ci mX6_digitAt) = some (22, .goto 4, 3, (0, 0, 0, 0)) := by decide +kernel
theorem fX6_digitAt_25 : ftc 25 (me_ci mX6_digitAt) = some (25, .iconst (-1), 1, (0, 0, 0, 0)) := by decide +kernel
theorem fX6_digitAt_26 : ftc 26 (me_ci mX6_digitAt) = some (26, .ireturn, 1, (0, 0, 0, 0)) := by decide +kernel
theorem pX6_digitAt : pg 58 = some mX6_digitAt := by decide +kernel
theorem fX6_characterAt_0 : ftc 0 (me_ci mX6_characterAt) = some (0, .iload_n 1, 1, (0, 0, 0, 0)) := by decide +kernel
theorem fX6_characterAt_1 : ftc 1 (me_ci mX6_characterAt) = some (1, .ifCond .lt 20, 3, (0, 0, 0, 0)) := by decide +kernel
theorem fX6_characterAt_4 : ftc 4 (me_ci mX6_characterAt) = some (4, .iload_n 1, 1, (0, 0, 0, 0)) := by decide +kernel
theorem fX6_characterAt_5 : ftc 5 (me_ci mX6_characterAt) = some (5, .aload_n 0, 1, (0, 0, 0, 0)) := by decide +kernel
theorem fX6_characterAt_6 : ftc 6 (me_ci mX6_characterAt) = some (6, .getfield 15, 3, (6, 1, 205, 0)) := by decide +kernel
theorem fX6_characterAt_9 : ftc 9 (me_ci mX6_characterAt) = some (9, .if_icmp .ge 12, 3, (0, 0, 0, 0)) := by decide +kernel
theorem fX6_characterAt_12 : ftc 12 (me_ci mX6_characterAt) = some (12, .aload_n 0, 1, (0, 0, 0, 0)) := by decide +kernel
theorem fX6_characterAt_13 : ftc 13 (me_ci mX6_characterAt) = some (13, .getfield 9, 3, (6, 0, 204, 0)) := by decide +kernel
theorem fX6_characterAt_16 : ftc 16 (me_ci mX6_characterAt) = some (16, .iload_n 1, 1, (0, 0, 0, 0)) := by decide +kernel
theorem fX6_characterAt_17 : ftc 17 (me_ci mX6_characterAt) = some (17, .iaload, 1, (0, 0, 0, 0)) := by decide +kernel
theorem fX6_characterAt_18 : ftc 18 (me_ci mX6_characterAt) = some (18, .goto 4, 3, (0, 0, 0, 0)) := by decide +kernel
theorem fX6_characterAt_21 : ftc 21 (me_ci mX6_characterAt) = some (21, .iconst (-1), 1, (0, 0, 0, 0)) := by decide +kernel
theorem fX6_characterAt_22 : ftc 22 (me_ci mX6_characterAt) = some (22, .ireturn, 1, (0, 0, 0, 0)) := by decide +kernel
theorem pX6_characterAt : pg 59 = some mX6_characterAt := by decide +kernel
theorem fX7_init_0 : ftc 0 (me_ci mX7_init) = some (0, .aload_n 0, 1, (0, 0, 0, 0)) := by decide +kernel
theorem fX7_init_1 : ftc 1 (me_ci mX7_init) = some (1, .invokespecial 1, 3, (43, 5, 0, 0)) := by decide +kernel
theorem fX7_init_4 : ftc 4 (me_ci mX7_init) = some (4, .aload_n 0, 1, (0, 0, 0, 0)) := by decide +kernel
theorem fX7_init_5 : ftc 5 (me_ci mX7_init) = some (5, .new 7, 3, (1, 2, 46, 0)) := by decide +kernel
theorem fX7_init_8 : ftc 8 (me_ci mX7_init) = some (8, .dup, 1, (0, 0, 0, 0)) := by decide +kernel
theorem fX7_init_9 : ftc 9 (me_ci mX7_init) = some (9, .invokespecial 9, 3, (7, 0, 48, 0)) := by decide +kernel
theorem fX7_init_12 : ftc 12 (me_ci mX7_init) = some (12, .putfield 10, 3, (7, 0, 284, 0)) := by decide +kernel
theorem fX7_init_15 : ftc 15 (me_ci mX7_init) = some (15, .aload_n 0, 1, (0, 0, 0, 0)) := by decide +kernel
theorem fX7_init_16 : ftc 16 (me_ci mX7_init) = some (16, .new 16, 3, (5, 17, 196, 0)) := by decide +kernel
theorem fX7_init_19 : ftc 19 (me_ci mX7_init) = some (19, .dup, 1, (0, 0, 0, 0)) := by decide +kernel
theorem fX7_init_20 : ftc 20 (me_ci mX7_init) = some (20, .invokespecial 18, 3, (28, 0, 197, 0)) := by decide +kernel
theorem fX7_init_23 : ftc 23 (me_ci mX7_init) = some (23, .putfield 19, 3, (7, 1, 285, 0)) := by decide +kernel
theorem fX7_init_26 : ftc 26 (me_ci mX7_init) = some (26, .aload_n 0, 1, (0, 0, 0, 0)) := by decide +kernel
theorem fX7_init_27 : ftc 27 (me_ci mX7_init) = some (27, .new 23, 3, (6, 10, 198, 0)) := by decide +kernel
theorem fX7_init_30 : ftc 30 (me_ci mX7_init) = some (30, .dup, 1, (0, 0, 0, 0)) := by decide +kernel
theorem fX7_init_31 : ftc 31 (me_ci mX7_init) = some (31, .invokespecial 25, 3, (48, 1, 2, 0)) := by decide +kernel
theorem fX7_init_34 : ftc 34 (me_ci mX7_init) = some (34, .putfield 26, 3, (7, 2, 286, 0)) := by decide +kernel
theorem fX7_init_37 : ftc 37 (me_ci mX7_init) = some (37, .aload_n 0, 1, (0, 0, 0, 0)) := by decide +kernel
theorem fX7_init_38 : ftc 38 (me_ci mX7_init) = some (38, .new 30, 3, (2, 6, 238, 0)) := by decide +kernel
theorem fX7_init_41 : ftc 41 (me_ci mX7_init) = some (41, .dup, 1, (0, 0, 0, 0)) := by decide +kernel
theorem fX7_init_42 : ftc 42 (me_ci mX7_init) = some (42, .invokespecial 32, 3, (10, 1, 3, 0)) := by decide +kernel
theorem fX7_init_45 : ftc 45 (me_ci mX7_init) = some (45, .putfield 33, 3, (7, 3, 287, 0)) := by decide +kernel
theorem fX7_init_48 : ftc 48 (me_ci mX7_init) = some (48, .aload_n 0, 1, (0, 0, 0, 0)) := by decide +kernel
theorem fX7_init_49 : ftc 49 (me_ci mX7_init) = some (49, .new 37, 3, (0, 2, 271, 0)) := by decide +kernel
theorem fX7_init_52 : ftc 52 (me_ci mX7_init) = some (52, .dup, 1, (0, 0, 0, 0)) := by decide +kernel
theorem fX7_init_53 : ftc 53 (me_ci mX7_init) = some (53, .aload_n 0, 1, (0, 0, 0, 0)) := by decide +kernel
theorem fX7_init_54 : ftc 54 (me_ci mX7_init) = some (54, .getfield 33, 3, (7, 3, 287, 0)) := by decide +kernel
theorem fX7_init_57 : ftc 57 (me_ci mX7_init) = some (57, .invokespecial 39, 3, (0, 0, 273, 0)) := by decide +kernel
theorem fX7_init_60 : ftc 60 (me_ci mX7_init) = some (60, .putfield 42, 3, (7, 4, 288, 0)) := by decide +kernel
theorem fX7_init_63 : ftc 63 (me_ci mX7_init) = some (63, .aload_n 0, 1, (0, 0, 0, 0)) := by decide +kernel
theorem fX7_init_64 : ftc 64 (me_ci mX7_init) = some (64, .new 16, 3, (5, 17, 196, 0)) := by decide +kernel
theorem fX7_init_67 : ftc 67 (me_ci mX7_init) = some (67, .dup, 1, (0, 0, 0, 0)) := by decide +kernel
theorem fX7_init_68 : ftc 68 (me_ci mX7_init) = some (68, .invokespecial 18, 3, (28, 0, 197, 0)) := by decide +kernel
theorem fX7_init_71 : ftc 71 (me_ci mX7_init) = some (71, .putfield 46, 3, (7, 5, 289, 0)) := by decide +kernel
theorem fX7_init_74 : ftc 74 (me_ci mX7_init) = some (74, .aload_n 0, 1, (0, 0, 0, 0)) := by decide +kernel
theorem fX7_init_75 : ftc 75 (me_ci mX7_init) = some (75, .new 16, 3, (5, 17, 196, 0)) := by decide +kernel
theorem fX7_init_78 : ftc 78 (me_ci mX7_init) = some (78, .dup, 1, (0, 0, 0, 0)) := by decide +kernel
theorem fX7_init_79 : ftc 79 (me_ci mX7_init) = some (79, .invokespecial 18, 3, (28, 0, 197, 0)) := by decide +kernel
theorem fX7_init_82 : ftc 82 (me_ci mX7_init) = some (82, .putfield 49, 3, (7, 6, 290, 0)) := by decide +kernel
theorem fX7_init_85 : ftc 85 (me_ci mX7_init) = some (85, .aload_n 0, 1, (0, 0, 0, 0)) := by decide +kernel
theorem fX7_init_86 : ftc 86 (me_ci mX7_init) = some (86, .iconst 0, 1, (0, 0, 0, 0)) := by decide +kernel
theorem fX7_init_87 : ftc 87 (me_ci mX7_init) = some (87, .putfield 52, 3, (7, 7, 291, 0)) := by decide +kernel
theorem fX7_init_90 : ftc 90 (me_ci mX7_init) = some (90, .return_, 1, (0, 0, 0, 0)) := by decide +kernel
theorem pX7_init : pg 60 = some mX7_init := by decide +kernel
theorem fX7_begin_0 : ftc 0 (me_ci mX7_begin) = some (0, .aload_n 0, 1, (0, 0, 0, 0)) := by decide +kernel
theorem fX7_begin_1 : ftc 1 (me_ci mX7_begin) = some (1, .aload_n 0, 1, (0, 0, 0, 0)) := by decide +kernel
theorem fX7_begin_2 : ftc 2 (me_ci mX7_begin) = some (2, .invokevirtual 56, 3, (84, 0, 313, 0)) := by decide +kernel
theorem fX7_begin_5 : ftc 5 (me_ci mX7_begin) = some (5, .iload_n 1, 1, (0, 0, 0, 0)) := by decide +kernel
theorem fX7_begin_6 : ftc 6 (me_ci mX7_begin) = some (6, .iload_n 2, 1, (0, 0, 0, 0)) := by decide +kernel
theorem fX7_begin_7 : ftc 7 (me_ci mX7_begin) = some (7, .invokevirtual 60, 3, (30, 0, 331, 0)) := by decide +kernel
theorem fX7_begin_10 : ftc 10 (me_ci mX7_begin) = some (10, .invokevirtual 64, 3, (85, 0, 332, 0)) := by decide +kernel
theorem fX7_begin_13 : ftc 13 (me_ci mX7_begin) = some (13, .ireturn, 1, (0, 0, 0, 0)) := by decide +kernel
theorem pX7_begin : pg 61 = some mX7_begin := by decide +kernel
theorem fX7_lot_0 : ftc 0 (me_ci mX7_lot) = some (0, .aload_n 0, 1, (0, 0, 0, 0)) := by decide +kernel
theorem fX7_lot_1 : ftc 1 (me_ci mX7_lot) = some (1, .aload_n 0, 1, (0, 0, 0, 0)) := by decide +kernel
theorem fX7_lot_2 : ftc 2 (me_ci mX7_lot) = some (2, .invokevirtual 56, 3, (84, 0, 313, 0)) := by decide +kernel
theorem fX7_lot_5 : ftc 5 (me_ci mX7_lot) = some (5, .iload_n 1, 1, (0, 0, 0, 0)) := by decide +kernel
theorem fX7_lot_6 : ftc 6 (me_ci mX7_lot) = some (6, .invokevirtual 68, 3, (31, 0, 348, 0)) := by decide +kernel
theorem fX7_lot_9 : ftc 9 (me_ci mX7_lot) = some (9, .invokevirtual 64, 3, (85, 0, 332, 0)) := by decide +kernel
theorem fX7_lot_12 : ftc 12 (me_ci mX7_lot) = some (12, .ireturn, 1, (0, 0, 0, 0)) := by decide +kernel
theorem pX7_lot : pg 62 = some mX7_lot := by decide +kernel
theorem fX7_bid_0 : ftc 0 (me_ci mX7_bid) = some (0, .aload_n 0, 1, (0, 0, 0, 0)) := by decide +kernel
theorem fX7_bid_1 : ftc 1 (me_ci mX7_bid) = some (1, .aload_n 0, 1, (0, 0, 0, 0)) := by decide +kernel
theorem fX7_bid_2 : ftc 2 (me_ci mX7_bid) = some (2, .invokevirtual 56, 3, (84, 0, 313, 0)) := by decide +kernel
theorem fX7_bid_5 : ftc 5 (me_ci mX7_bid) = some (5, .iload_n 1, 1, (0, 0, 0, 0)) := by decide +kernel
theorem fX7_bid_6 : ftc 6 (me_ci mX7_bid) = some (6, .iload_n 2, 1, (0, 0, 0, 0)) := by decide +kernel
theorem fX7_bid_7 : ftc 7 (me_ci mX7_bid) = some (7, .invokevirtual 71, 3, (32, 0, 357, 0)) := by decide +kernel
theorem fX7_bid_10 : ftc 10 (me_ci mX7_bid) = some (10, .invokevirtual 64, 3, (85, 0, 332, 0)) := by decide +kernel
theorem fX7_bid_13 : ftc 13 (me_ci mX7_bid) = some (13, .ireturn, 1, (0, 0, 0, 0)) := by decide +kernel
theorem pX7_bid : pg 63 = some mX7_bid := by decide +kernel
theorem fX7_resolve_0 : ftc 0 (me_ci mX7_resolve) = some (0, .aload_n 0, 1, (0, 0, 0, 0)) := by decide +kernel
theorem fX7_resolve_1 : ftc 1 (me_ci mX7_resolve) = some (1, .aload_n 0, 1, (0, 0, 0, 0)) := by decide +kernel
theorem fX7_resolve_2 : ftc 2 (me_ci mX7_resolve) = some (2, .invokevirtual 56, 3, (84, 0, 313, 0)) := by decide +kernel
theorem fX7_resolve_5 : ftc 5 (me_ci mX7_resolve) = some (5, .aload_n 0, 1, (0, 0, 0, 0)) := by decide +kernel
theorem fX7_resolve_6 : ftc 6 (me_ci mX7_resolve) = some (6, .getfield 33, 3, (7, 3, 287, 0)) := by decide +kernel
theorem fX7_resolve_9 : ftc 9 (me_ci mX7_resolve) = some (9, .invokevirtual 74, 3, (34, 0, 378, 0)) := by decide +kernel
theorem fX7_resolve_12 : ftc 12 (me_ci mX7_resolve) = some (12, .invokevirtual 64, 3, (85, 0, 332, 0)) := by decide +kernel
theorem fX7_resolve_15 : ftc 15 (me_ci mX7_resolve) = some (15, .ireturn, 1, (0, 0, 0, 0)) := by decide +kernel
theorem pX7_resolve : pg 64 = some mX7_resolve := by decide +kernel
theorem fX7_set_0 : ftc 0 (me_ci mX7_set) = some (0, .aload_n 0, 1, (0, 0, 0, 0)) := by decide +kernel
theorem fX7_set_1 : ftc 1 (me_ci mX7_set) = some (1, .aload_n 0, 1, (0, 0, 0, 0)) := by decide +kernel
theorem fX7_set_2 : ftc 2 (me_ci mX7_set) = some (2, .invokevirtual 56, 3, (84, 0, 313, 0)) := by decide +kernel
theorem fX7_set_5 : ftc 5 (me_ci mX7_set) = some (5, .iload_n 1, 1, (0, 0, 0, 0)) := by decide +kernel
theorem fX7_set_6 : ftc 6 (me_ci mX7_set) = some (6, .iload_n 2, 1, (0, 0, 0, 0)) := by decide +kernel
theorem fX7_set_7 : ftc 7 (me_ci mX7_set) = some (7, .invokevirtual 78, 3, (33, 0, 430, 0)) := by decide +kernel
theorem fX7_set_10 : ftc 10 (me_ci mX7_set) = some (10, .invokevirtual 64, 3, (85, 0, 332, 0)) := by decide +kernel
theorem fX7_set_13 : ftc 13 (me_ci mX7_set) = some (13, .ireturn, 1, (0, 0, 0, 0)) := by decide +kernel
theorem pX7_set : pg 65 = some mX7_set := by decide +kernel
theorem fX7_playerOf_0 : ftc 0 (me_ci mX7_playerOf) = some (0, .aload_n 0, 1, (0, 0, 0, 0)) := by decide +kernel
theorem fX7_playerOf_1 : ftc 1 (me_ci mX7_playerOf) = some (1, .getfield 46, 3, (7, 5, 289, 0)) := by decide +kernel
theorem fX7_playerOf_4 : ftc 4 (me_ci mX7_playerOf) = some (4, .iload_n 1, 1, (0, 0, 0, 0)) := by decide +kernel
theorem fX7_playerOf_5 : ftc 5 (me_ci mX7_playerOf) = some (5, .iload_n 2, 1, (0, 0, 0, 0)) := by decide +kernel
theorem fX7_playerOf_6 : ftc 6 (me_ci mX7_playerOf) = some (6, .invokevirtual 81, 3, (45, 0, 440, 0)) := by decide +kernel
theorem fX7_playerOf_9 : ftc 9 (me_ci mX7_playerOf) = some (9, .ireturn, 1, (0, 0, 0, 0)) := by decide +kernel
theorem pX7_playerOf : pg 66 = some mX7_playerOf := by decide +kernel
theorem fX7_lotOf_0 : ftc 0 (me_ci mX7_lotOf) = some (0, .aload_n 0, 1, (0, 0, 0, 0)) := by decide +kernel
theorem fX7_lotOf_1 : ftc 1 (me_ci mX7_lotOf) = some (1, .getfield 46, 3, (7, 5, 289, 0)) := by decide +kernel
theorem fX7_lotOf_4 : ftc 4 (me_ci mX7_lotOf) = some (4, .iload_n 1, 1, (0, 0, 0, 0)) := by decide +kernel
theorem fX7_lotOf_5 : ftc 5 (me_ci mX7_lotOf) = some (5, .iload_n 2, 1, (0, 0, 0, 0)) := by decide +kernel
theorem fX7_lotOf_6 : ftc 6 (me_ci mX7_lotOf) = some (6, .invokevirtual 84, 3, (46, 0, 448, 0)) := by decide +kernel
theorem fX7_lotOf_9 : ftc 9 (me_ci mX7_lotOf) = some (9, .ireturn, 1, (0, 0, 0, 0)) := by decide +kernel
theorem pX7_lotOf : pg 67 = some mX7_lotOf := by decide +kernel
theorem fX7_roundOf_0 : ftc 0 (me_ci mX7_roundOf) = some (0, .aload_n 0, 1, (0, 0, 0, 0)) := by decide +kernel
theorem fX7_roundOf_1 : ftc 1 (me_ci mX7_roundOf) = some (1, .getfield 46, 3, (7, 5, 289, 0)) := by decide +kernel
theorem fX7_roundOf_4 : ftc 4 (me_ci mX7_roundOf) = some (4, .getfield 87, 3, (5, 15, 150, 0)) := by decide +kernel
theorem fX7_roundOf_7 : ftc 7 (me_ci mX7_roundOf) = some (7, .iload_n 1, 1, (0, 0, 0, 0)) := by decide +kernel
theorem fX7_roundOf_8 : ftc 8 (me_ci mX7_roundOf) = some (8, .iload_n 2, 1, (0, 0, 0, 0)) := by decide +kernel
theorem fX7_roundOf_9 : ftc 9 (me_ci mX7_roundOf) = some (9, .aload_n 0, 1, (0, 0, 0, 0)) := by decide +kernel
theorem fX7_roundOf_10 : ftc 10 (me_ci mX7_roundOf) = some (10, .getfield 46, 3, (7, 5, 289, 0)) := by decide +kernel
theorem fX7_roundOf_13 : ftc 13 (me_ci mX7_roundOf) = some (13, .getfield 91, 3, (5, 0, 123, 0)) := by decide +kernel
theorem fX7_roundOf_16 : ftc 16 (me_ci mX7_roundOf) = some (16, .invokevirtual 95, 3, (26, 0, 457, 0)) := by decide +kernel
theorem fX7_roundOf_19 : ftc 19 (me_ci mX7_roundOf) = some (19, .ireturn, 1, (0, 0, 0, 0)) := by decide +kernel
theorem pX7_roundOf : pg 68 = some mX7_roundOf := by decide +kernel
theorem fX7_record_0 : ftc 0 (me_ci mX7_record) = some (0, .aload_n 0, 1, (0, 0, 0, 0)) := by decide +kernel
theorem fX7_record_1 : ftc 1 (me_ci mX7_record) = some (1, .getfield 46, 3, (7, 5, 289, 0)) := by decide +kernel
theorem fX7_record_4 : ftc 4 (me_ci mX7_record) = some (4, .getfield 101, 3, (5, 16, 152, 0)) := by decide +kernel
theorem fX7_record_7 : ftc 7 (me_ci mX7_record) = some (7, .iload_n 1, 1, (0, 0, 0, 0)) := by decide +kernel
theorem fX7_record_8 : ftc 8 (me_ci mX7_record) = some (8, .iload_n 2, 1, (0, 0, 0, 0)) := by decide +kernel
theorem fX7_record_9 : ftc 9 (me_ci mX7_record) = some (9, .invokevirtual 105, 3, (21, 0, 470, 0)) := by decide +kernel
theorem fX7_record_12 : ftc 12 (me_ci mX7_record) = some (12, .ireturn, 1, (0, 0, 0, 0)) := by decide +kernel
theorem pX7_record : pg 69 = some mX7_record := by decide +kernel
theorem fX7_count_0 : ftc 0 (me_ci mX7_count) = some (0, .iload_n 1, 1, (0, 0, 0, 0)) := by decide +kernel
theorem fX7_count_1 : ftc 1 (me_ci mX7_count) = some (1, .tableswitch 56 10 12 #[27, 35, 43], 27, (0, 0, 0, 0)) := by decide +kernel
theorem fX7_count_28 : ftc 28 (me_ci mX7_count) = some (28, .aload_n 0, 1, (0, 0, 0, 0)) := by decide +kernel
theorem fX7_count_29 : ftc 29 (me_ci mX7_count) = some (29, .getfield 10, 3, (7, 0, 284, 0)) := by decide +kernel
theorem fX7_count_32 : ftc 32 (me_ci mX7_count) = some (32, .getfield 110, 3, (1, 1, 190, 0)) := by decide +kernel
theorem fX7_count_35 : ftc 35 (me_ci mX7_count) = some (35, .ireturn, 1, (0, 0, 0, 0)) := by decide +kernel
theorem fX7_count_36 : ftc 36 (me_ci mX7_count) = some (36, .aload_n 0, 1, (0, 0, 0, 0)) := by decide +kernel
theorem fX7_count_37 : ftc 37 (me_ci mX7_count) = some (37, .getfield 26, 3, (7, 2, 286, 0)) := by decide +kernel
theorem fX7_count_40 : ftc 40 (me_ci mX7_count) = some (40, .getfield 113, 3, (6, 1, 206, 0)) := by decide +kernel
theorem fX7_count_43 : ftc 43 (me_ci mX7_count) = some (43, .ireturn, 1, (0, 0, 0, 0)) := by decide +kernel
theorem fX7_count_44 : ftc 44 (me_ci mX7_count) = some (44, .aload_n 0, 1, (0, 0, 0, 0)) := by decide +kernel
theorem fX7_count_45 : ftc 45 (me_ci mX7_count) = some (45, .getfield 52, 3, (7, 7, 291, 0)) := by decide +kernel
theorem fX7_count_48 : ftc 48 (me_ci mX7_count) = some (48, .ifCond .eq 7, 3, (0, 0, 0, 0)) := by decide +kernel
theorem fX7_count_51 : ftc 51 (me_ci mX7_count) = some (51, .iconst 1, 1, (0, 0, 0, 0)) := by decide +kernel
theorem fX7_count_52 : ftc 52 (me_ci mX7_count) = some (52, .goto 4, 3, (0, 0, 0, 0)) := by decide +kernel
theorem fX7_count_55 : ftc 55 (me_ci mX7_count) = some (55, .iconst 0, 1, (0, 0, 0, 0)) := by decide +kernel
theorem fX7_count_56 : ftc 56 (me_ci mX7_count) = some (56, .ireturn, 1, (0, 0, 0, 0)) := by decide +kernel
theorem fX7_count_57 : ftc 57 (me_ci mX7_count) = some (57, .aload_n 0, 1, (0, 0, 0, 0)) := by decide +kernel
theorem fX7_count_58 : ftc 58 (me_ci mX7_count) = some (58, .getfield 46, 3, (7, 5, 289, 0)) := by decide +kernel
theorem fX7_count_61 : ftc 61 (me_ci mX7_count) = some (61, .iload_n 1, 1, (0, 0, 0, 0)) := by decide +kernel
theorem fX7_count_62 : ftc 62 (me_ci mX7_count) = some (62, .invokevirtual 116, 3, (47, 0, 480, 0)) := by decide +kernel
theorem fX7_count_65 : ftc 65 (me_ci mX7_count) = some (65, .ireturn, 1, (0, 0, 0, 0)) := by decide +kernel
theorem pX7_count : pg 70 = some mX7_count := by decide +kernel
theorem fX7_winner_0 : ftc 0 (me_ci mX7_winner) = some (0, .aload_n 0, 1, (0, 0, 0, 0)) := by decide +kernel
theorem fX7_winner_1 : ftc 1 (me_ci mX7_winner) = some (1, .getfield 46, 3, (7, 5, 289, 0)) := by decide +kernel
theorem fX7_winner_4 : ftc 4 (me_ci mX7_winner) = some (4, .invokevirtual 119, 3, (43, 0, 488, 0)) := by decide +kernel
theorem fX7_winner_7 : ftc 7 (me_ci mX7_winner) = some (7, .ireturn, 1, (0, 0, 0, 0)) := by decide +kernel
theorem pX7_winner : pg 71 = some mX7_winner := by decide +kernel
theorem fX7_sure_0 : ftc 0 (me_ci mX7_sure) = some (0, .aload_n 0, 1, (0, 0, 0, 0)) := by decide +kernel
theorem fX7_sure_1 : ftc 1 (me_ci mX7_sure) = some (1, .getfield 46, 3, (7, 5, 289, 0)) := by decide +kernel
theorem fX7_sure_4 : ftc 4 (me_ci mX7_sure) = some (4, .iload_n 1, 1, (0, 0, 0, 0)) := by decide +kernel
theorem fX7_sure_5 : ftc 5 (me_ci mX7_sure) = some (5, .invokevirtual 123, 3, (36, 0, 496, 0)) := by decide +kernel
theorem fX7_sure_8 : ftc 8 (me_ci mX7_sure) = some (8, .ifCond .ne 6, 3, (0, 0, 0, 0)) := by decide +kernel
theorem fX7_sure_11 : ftc 11 (me_ci mX7_sure) = some (11, .ldc 127, 2, (339, 0, 0, -1000001)) := by decide +kernel
theorem fX7_sure_13 : ftc 13 (me_ci mX7_sure) = some (13, .ireturn, 1, (0, 0, 0, 0)) := by decide +kernel
theorem fX7_sure_14 : ftc 14 (me_ci mX7_sure) = some (14, .aload_n 0, 1, (0, 0, 0, 0)) := by decide +kernel
theorem fX7_sure_15 : ftc 15 (me_ci mX7_sure) = some (15, .getfield 46, 3, (7, 5, 289, 0)) := by decide +kernel
theorem fX7_sure_18 : ftc 18 (me_ci mX7_sure) = some (18, .invokevirtual 128, 3, (37, 0, 497, 0)) := by decide +kernel
theorem fX7_sure_21 : ftc 21 (me_ci mX7_sure) = some (21, .ifCond .eq 6, 3, (0, 0, 0, 0)) := by decide +kernel
theorem fX7_sure_24 : ftc 24 (me_ci mX7_sure) = some (24, .ldc 132, 2, (498, 0, 0, -1000002)) := by decide +kernel
theorem fX7_sure_26 : ftc 26 (me_ci mX7_sure) = some (26, .ireturn, 1, (0, 0, 0, 0)) := by decide +kernel
theorem fX7_sure_27 : ftc 27 (me_ci mX7_sure) = some (27, .aload_n 0, 1, (0, 0, 0, 0)) := by decide +kernel
theorem fX7_sure_28 : ftc 28 (me_ci mX7_sure) = some (28, .getfield 46, 3, (7, 5, 289, 0)) := by decide +kernel
theorem fX7_sure_31 : ftc 31 (me_ci mX7_sure) = some (31, .iload_n 1, 1, (0, 0, 0, 0)) := by decide +kernel
theorem fX7_sure_32 : ftc 32 (me_ci mX7_sure) = some (32, .invokevirtual 133, 3, (41, 0, 499, 0)) := by decide +kernel
theorem fX7_sure_35 : ftc 35 (me_ci mX7_sure) = some (35, .iconst 1, 1, (0, 0, 0, 0)) := by decide +kernel
theorem fX7_sure_36 : ftc 36 (me_ci mX7_sure) = some (36, .iadd, 1, (0, 0, 0, 0)) := by decide +kernel
theorem fX7_sure_37 : ftc 37 (me_ci mX7_sure) = some (37, .istore_n 2, 1, (0, 0, 0, 0)) := by decide +kernel
theorem fX7_sure_38 : ftc 38 (me_ci mX7_sure) = some (38, .iload_n 2, 1, (0, 0, 0, 0)) := by decide +kernel
theorem fX7_sure_39 : ftc 39 (me_ci mX7_sure) = some (39, .aload_n 0, 1, (0, 0, 0, 0)) := by decide +kernel
theorem fX7_sure_40 : ftc 40 (me_ci mX7_sure) = some (40, .getfield 46, 3, (7, 5, 289, 0)) := by decide +kernel
theorem fX7_sure_43 : ftc 43 (me_ci mX7_sure) = some (43, .getfield 136, 3, (5, 7, 137, 0)) := by decide +kernel
theorem fX7_sure_46 : ftc 46 (me_ci mX7_sure) = some (46, .iload_n 1, 1, (0, 0, 0, 0)) := by decide +kernel
theorem fX7_sure_47 : ftc 47 (me_ci mX7_sure) = some (47, .iaload, 1, (0, 0, 0, 0)) := by decide +kernel
theorem fX7_sure_48 : ftc 48 (me_ci mX7_sure) = some (48, .if_icmp .gt 7, 3, (0, 0, 0, 0)) := by decide +kernel
theorem fX7_sure_51 : ftc 51 (me_ci mX7_sure) = some (51, .iload_n 2, 1, (0, 0, 0, 0)) := by decide +kernel
theorem fX7_sure_52 : ftc 52 (me_ci mX7_sure) = some (52, .goto 5, 3, (0, 0, 0, 0)) := by decide +kernel
theorem fX7_sure_55 : ftc 55 (me_ci mX7_sure) = some (55, .ldc 140, 2, (506, 0, 0, -1000004)) := by decide +kernel
theorem fX7_sure_57 : ftc 57 (me_ci mX7_sure) = some (57, .ireturn, 1, (0, 0, 0, 0)) := by decide +kernel
theorem pX7_sure : pg 72 = some mX7_sure := by decide +kernel
theorem fX7_reply_0 : ftc 0 (me_ci mX7_reply) = some (0, .aload_n 0, 1, (0, 0, 0, 0)) := by decide +kernel
theorem fX7_reply_1 : ftc 1 (me_ci mX7_reply) = some (1, .getfield 46, 3, (7, 5, 289, 0)) := by decide +kernel
theorem fX7_reply_4 : ftc 4 (me_ci mX7_reply) = some (4, .iload_n 1, 1, (0, 0, 0, 0)) := by decide +kernel
theorem fX7_reply_5 : ftc 5 (me_ci mX7_reply) = some (5, .invokevirtual 123, 3, (36, 0, 496, 0)) := by decide +kernel
theorem fX7_reply_8 : ftc 8 (me_ci mX7_reply) = some (8, .ifCond .ne 6, 3, (0, 0, 0, 0)) := by decide +kernel
theorem fX7_reply_11 : ftc 11 (me_ci mX7_reply) = some (11, .ldc 127, 2, (339, 0, 0, -1000001)) := by decide +kernel
theorem fX7_reply_13 : ftc 13 (me_ci mX7_reply) = some (13, .ireturn, 1, (0, 0, 0, 0)) := by decide +kernel
theorem fX7_reply_14 : ftc 14 (me_ci mX7_reply) = some (14, .aload_n 0, 1, (0, 0, 0, 0)) := by decide +kernel
theorem fX7_reply_15 : ftc 15 (me_ci mX7_reply) = some (15, .getfield 46, 3, (7, 5, 289, 0)) := by decide +kernel
theorem fX7_reply_18 : ftc 18 (me_ci mX7_reply) = some (18, .invokevirtual 128, 3, (37, 0, 497, 0)) := by decide +kernel
theorem fX7_reply_21 : ftc 21 (me_ci mX7_reply) = some (21, .ifCond .ne 14, 3, (0, 0, 0, 0)) := by decide +kernel
theorem fX7_reply_24 : ftc 24 (me_ci mX7_reply) = some (24, .aload_n 0, 1, (0, 0, 0, 0)) := by decide +kernel
theorem fX7_reply_25 : ftc 25 (me_ci mX7_reply) = some (25, .getfield 46, 3, (7, 5, 289, 0)) := by decide +kernel
theorem fX7_reply_28 : ftc 28 (me_ci mX7_reply) = some (28, .iload_n 1, 1, (0, 0, 0, 0)) := by decide +kernel
theorem fX7_reply_29 : ftc 29 (me_ci mX7_reply) = some (29, .invokevirtual 141, 3, (40, 0, 511, 0)) := by decide +kernel
theorem fX7_reply_32 : ftc 32 (me_ci mX7_reply) = some (32, .ifCond .ne 6, 3, (0, 0, 0, 0)) := by decide +kernel
theorem fX7_reply_35 : ftc 35 (me_ci mX7_reply) = some (35, .ldc 132, 2, (498, 0, 0, -1000002)) := by decide +kernel
theorem fX7_reply_37 : ftc 37 (me_ci mX7_reply) = some (37, .ireturn, 1, (0, 0, 0, 0)) := by decide +kernel
theorem fX7_reply_38 : ftc 38 (me_ci mX7_reply) = some (38, .aload_n 0, 1, (0, 0, 0, 0)) := by decide +kernel
theorem fX7_reply_39 : ftc 39 (me_ci mX7_reply) = some (39, .getfield 42, 3, (7, 4, 288, 0)) := by decide +kernel
theorem fX7_reply_42 : ftc 42 (me_ci mX7_reply) = some (42, .aload_n 0, 1, (0, 0, 0, 0)) := by decide +kernel
theorem fX7_reply_43 : ftc 43 (me_ci mX7_reply) = some (43, .getfield 46, 3, (7, 5, 289, 0)) := by decide +kernel
theorem fX7_reply_46 : ftc 46 (me_ci mX7_reply) = some (46, .iload_n 1, 1, (0, 0, 0, 0)) := by decide +kernel
theorem fX7_reply_47 : ftc 47 (me_ci mX7_reply) = some (47, .invokevirtual 144, 3, (1, 0, 515, 0)) := by decide +kernel
theorem fX7_reply_50 : ftc 50 (me_ci mX7_reply) = some (50, .ireturn, 1, (0, 0, 0, 0)) := by decide +kernel
theorem pX7_reply : pg 73 = some mX7_reply := by decide +kernel
theorem fX7_holds_0 : ftc 0 (me_ci mX7_holds) = some (0, .aload_n 0, 1, (0, 0, 0, 0)) := by decide +kernel
theorem fX7_holds_1 : ftc 1 (me_ci mX7_holds) = some (1, .getfield 46, 3, (7, 5, 289, 0)) := by decide +kernel
theorem fX7_holds_4 : ftc 4 (me_ci mX7_holds) = some (4, .iload_n 1, 1, (0, 0, 0, 0)) := by decide +kernel
theorem fX7_holds_5 : ftc 5 (me_ci mX7_holds) = some (5, .invokevirtual 123, 3, (36, 0, 496, 0)) := by decide +kernel
theorem fX7_holds_8 : ftc 8 (me_ci mX7_holds) = some (8, .ifCond .eq 12, 3, (0, 0, 0, 0)) := by decide +kernel
theorem fX7_holds_11 : ftc 11 (me_ci mX7_holds) = some (11, .iload_n 2, 1, (0, 0, 0, 0)) := by decide +kernel
theorem fX7_holds_12 : ftc 12 (me_ci mX7_holds) = some (12, .ifCond .lt 8, 3, (0, 0, 0, 0)) := by decide +kernel
theorem fX7_holds_15 : ftc 15 (me_ci mX7_holds) = some (15, .iload_n 2, 1, (0, 0, 0, 0)) := by decide +kernel
theorem fX7_holds_16 : ftc 16 (me_ci mX7_holds) = some (16, .iconst 2, 1, (0, 0, 0, 0)) := by decide +kernel
theorem fX7_holds_17 : ftc 17 (me_ci mX7_holds) = some (17, .if_icmp .le 6, 3, (0, 0, 0, 0)) := by decide +kernel
theorem fX7_holds_20 : ftc 20 (me_ci mX7_holds) = some (20, .ldc 127, 2, (339, 0, 0, -1000001)) := by decide +kernel
theorem fX7_holds_22 : ftc 22 (me_ci mX7_holds) = some (22, .ireturn, 1, (0, 0, 0, 0)) := by decide +kernel
theorem fX7_holds_23 : ftc 23 (me_ci mX7_holds) = some (23, .aload_n 0, 1, (0, 0, 0, 0)) := by decide +kernel
theorem fX7_holds_24 : ftc 24 (me_ci mX7_holds) = some (24, .getfield 46, 3, (7, 5, 289, 0)) := by decide +kernel
theorem fX7_holds_27 : ftc 27 (me_ci mX7_holds) = some (27, .getfield 91, 3, (5, 0, 123, 0)) := by decide +kernel
theorem fX7_holds_30 : ftc 30 (me_ci mX7_holds) = some (30, .iconst 2, 1, (0, 0, 0, 0)) := by decide +kernel
theorem fX7_holds_31 : ftc 31 (me_ci mX7_holds) = some (31, .if_icmp .eq 6, 3, (0, 0, 0, 0)) := by decide +kernel
theorem fX7_holds_34 : ftc 34 (me_ci mX7_holds) = some (34, .ldc 132, 2, (498, 0, 0, -1000002)) := by decide +kernel
theorem fX7_holds_36 : ftc 36 (me_ci mX7_holds) = some (36, .ireturn, 1, (0, 0, 0, 0)) := by decide +kernel
theorem fX7_holds_37 : ftc 37 (me_ci mX7_holds) = some (37, .aload_n 0, 1, (0, 0, 0, 0)) := by decide +kernel
theorem fX7_holds_38 : ftc 38 (me_ci mX7_holds) = some (38, .getfield 46, 3, (7, 5, 289, 0)) := by decide +kernel
theorem fX7_holds_41 : ftc 41 (me_ci mX7_holds) = some (41, .getfield 148, 3, (5, 8, 139, 0)) := by decide +kernel
theorem fX7_holds_44 : ftc 44 (me_ci mX7_holds) = some (44, .iload_n 1, 1, (0, 0, 0, 0)) := by decide +kernel
theorem fX7_holds_45 : ftc 45 (me_ci mX7_holds) = some (45, .iaload, 1, (0, 0, 0, 0)) := by decide +kernel
theorem fX7_holds_46 : ftc 46 (me_ci mX7_holds) = some (46, .aload_n 0, 1, (0, 0, 0, 0)) := by decide +kernel
theorem fX7_holds_47 : ftc 47 (me_ci mX7_holds) = some (47, .getfield 46, 3, (7, 5, 289, 0)) := by decide +kernel
theorem fX7_holds_50 : ftc 50 (me_ci mX7_holds) = some (50, .getfield 148, 3, (5, 8, 139, 0)) := by decide +kernel
theorem fX7_holds_53 : ftc 53 (me_ci mX7_holds) = some (53, .iconst 1, 1, (0, 0, 0, 0)) := by decide +kernel
theorem fX7_holds_54 : ftc 54 (me_ci mX7_holds) = some (54, .iload_n 1, 1, (0, 0, 0, 0)) := by decide +kernel
theorem fX7_holds_55 : ftc 55 (me_ci mX7_holds) = some (55, .isub, 1, (0, 0, 0, 0)) := by decide +kernel
theorem fX7_holds_56 : ftc 56 (me_ci mX7_holds) = some (56, .iaload, 1, (0, 0, 0, 0)) := by decide +kernel
theorem fX7_holds_57 : ftc 57 (me_ci mX7_holds) = some (57, .isub, 1, (0, 0, 0, 0)) := by decide +kernel
theorem fX7_holds_58 : ftc 58 (me_ci mX7_holds) = some (58, .istore_n 3, 1, (0, 0, 0, 0)) := by decide +kernel
theorem fX7_holds_59 : ftc 59 (me_ci mX7_holds) = some (59, .iload_n 2, 1, (0, 0, 0, 0)) := by decide +kernel
theorem fX7_holds_60 : ftc 60 (me_ci mX7_holds) = some (60, .ifCond .eq 13, 3, (0, 0, 0, 0)) := by decide +kernel
theorem fX7_holds_63 : ftc 63 (me_ci mX7_holds) = some (63, .aload_n 0, 1, (0, 0, 0, 0)) := by decide +kernel
theorem fX7_holds_64 : ftc 64 (me_ci mX7_holds) = some (64, .getfield 46, 3, (7, 5, 289, 0)) := by decide +kernel
theorem fX7_holds_67 : ftc 67 (me_ci mX7_holds) = some (67, .invokevirtual 128, 3, (37, 0, 497, 0)) := by decide +kernel
theorem fX7_holds_70 : ftc 70 (me_ci mX7_holds) = some (70, .ifCond .eq 5, 3, (0, 0, 0, 0)) := by decide +kernel
theorem fX7_holds_73 : ftc 73 (me_ci mX7_holds) = some (73, .iload_n 3, 1, (0, 0, 0, 0)) := by decide +kernel
theorem fX7_holds_74 : ftc 74 (me_ci mX7_holds) = some (74, .ireturn, 1, (0, 0, 0, 0)) := by decide +kernel
theorem fX7_holds_75 : ftc 75 (me_ci mX7_holds) = some (75, .iload_n 3, 1, (0, 0, 0, 0)) := by decide +kernel
theorem fX7_holds_76 : ftc 76 (me_ci mX7_holds) = some (76, .aload_n 0, 1, (0, 0, 0, 0)) := by decide +kernel
theorem fX7_holds_77 : ftc 77 (me_ci mX7_holds) = some (77, .getfield 42, 3, (7, 4, 288, 0)) := by decide +kernel
theorem fX7_holds_80 : ftc 80 (me_ci mX7_holds) = some (80, .aload_n 0, 1, (0, 0, 0, 0)) := by decide +kernel
theorem fX7_holds_81 : ftc 81 (me_ci mX7_holds) = some (81, .getfield 46, 3, (7, 5, 289, 0)) := by decide +kernel
theorem fX7_holds_84 : ftc 84 (me_ci mX7_holds) = some (84, .iload_n 1, 1, (0, 0, 0, 0)) := by decide +kernel
theorem fX7_holds_85 : ftc 85 (me_ci mX7_holds) = some (85, .iload_n 2, 1, (0, 0, 0, 0)) := by decide +kernel
theorem fX7_holds_86 : ftc 86 (me_ci mX7_holds) = some (86, .invokevirtual 151, 3, (3, 0, 528, 0)) := by decide +kernel
theorem fX7_holds_89 : ftc 89 (me_ci mX7_holds) = some (89, .iadd, 1, (0, 0, 0, 0)) := by decide +kernel
theorem fX7_holds_90 : ftc 90 (me_ci mX7_holds) = some (90, .ireturn, 1, (0, 0, 0, 0)) := by decide +kernel
theorem pX7_holds : pg 74 = some mX7_holds := by decide +kernel
theorem fX7_holding_0 : ftc 0 (me_ci mX7_holding) = some (0, .aload_n 0, 1, (0, 0, 0, 0)) := by decide +kernel
theorem fX7_holding_1 : ftc 1 (me_ci mX7_holding) = some (1, .getfield 46, 3, (7, 5, 289, 0)) := by decide +kernel
theorem fX7_holding_4 : ftc 4 (me_ci mX7_holding) = some (4, .iload_n 1, 1, (0, 0, 0, 0)) := by decide +kernel
theorem fX7_holding_5 : ftc 5 (me_ci mX7_holding) = some (5, .invokevirtual 123, 3, (36, 0, 496, 0)) := by decide +kernel
theorem fX7_holding_8 : ftc 8 (me_ci mX7_holding) = some (8, .ifCond .eq 13, 3, (0, 0, 0, 0)) := by decide +kernel
theorem fX7_holding_11 : ftc 11 (me_ci mX7_holding) = some (11, .iload_n 2, 1, (0, 0, 0, 0)) := by decide +kernel
theorem fX7_holding_12 : ftc 12 (me_ci mX7_holding) = some (12, .iconst 1, 1, (0, 0, 0, 0)) := by decide +kernel
theorem fX7_holding_13 : ftc 13 (me_ci mX7_holding) = some (13, .if_icmp .lt 8, 3, (0, 0, 0, 0)) := by decide +kernel
theorem fX7_holding_16 : ftc 16 (me_ci mX7_holding) = some (16, .iload_n 2, 1, (0, 0, 0, 0)) := by decide +kernel
theorem fX7_holding_17 : ftc 17 (me_ci mX7_holding) = some (17, .iconst 2, 1, (0, 0, 0, 0)) := by decide +kernel
theorem fX7_holding_18 : ftc 18 (me_ci mX7_holding) = some (18, .if_icmp .le 6, 3, (0, 0, 0, 0)) := by decide +kernel
theorem fX7_holding_21 : ftc 21 (me_ci mX7_holding) = some (21, .ldc 127, 2, (339, 0, 0, -1000001)) := by decide +kernel
theorem fX7_holding_23 : ftc 23 (me_ci mX7_holding) = some (23, .ireturn, 1, (0, 0, 0, 0)) := by decide +kernel
theorem fX7_holding_24 : ftc 24 (me_ci mX7_holding) = some (24, .aload_n 0, 1, (0, 0, 0, 0)) := by decide +kernel
theorem fX7_holding_25 : ftc 25 (me_ci mX7_holding) = some (25, .getfield 46, 3, (7, 5, 289, 0)) := by decide +kernel
theorem fX7_holding_28 : ftc 28 (me_ci mX7_holding) = some (28, .getfield 91, 3, (5, 0, 123, 0)) := by decide +kernel
theorem fX7_holding_31 : ftc 31 (me_ci mX7_holding) = some (31, .iconst 2, 1, (0, 0, 0, 0)) := by decide +kernel
theorem fX7_holding_32 : ftc 32 (me_ci mX7_holding) = some (32, .if_icmp .ne 13, 3, (0, 0, 0, 0)) := by decide +kernel
theorem fX7_holding_35 : ftc 35 (me_ci mX7_holding) = some (35, .aload_n 0, 1, (0, 0, 0, 0)) := by decide +kernel
theorem fX7_holding_36 : ftc 36 (me_ci mX7_holding) = some (36, .getfield 46, 3, (7, 5, 289, 0)) := by decide +kernel
theorem fX7_holding_39 : ftc 39 (me_ci mX7_holding) = some (39, .invokevirtual 128, 3, (37, 0, 497, 0)) := by decide +kernel
theorem fX7_holding_42 : ftc 42 (me_ci mX7_holding) = some (42, .ifCond .eq 6, 3, (0, 0, 0, 0)) := by decide +kernel
theorem fX7_holding_45 : ftc 45 (me_ci mX7_holding) = some (45, .ldc 132, 2, (498, 0, 0, -1000002)) := by decide +kernel
theorem fX7_holding_47 : ftc 47 (me_ci mX7_holding) = some (47, .ireturn, 1, (0, 0, 0, 0)) := by decide +kernel
theorem fX7_holding_48 : ftc 48 (me_ci mX7_holding) = some (48, .aload_n 0, 1, (0, 0, 0, 0)) := by decide +kernel
theorem fX7_holding_49 : ftc 49 (me_ci mX7_holding) = some (49, .getfield 42, 3, (7, 4, 288, 0)) := by decide +kernel
theorem fX7_holding_52 : ftc 52 (me_ci mX7_holding) = some (52, .aload_n 0, 1, (0, 0, 0, 0)) := by decide +kernel
theorem fX7_holding_53 : ftc 53 (me_ci mX7_holding) = some (53, .getfield 46, 3, (7, 5, 289, 0)) := by decide +kernel
theorem fX7_holding_56 : ftc 56 (me_ci mX7_holding) = some (56, .iload_n 1, 1, (0, 0, 0, 0)) := by decide +kernel
theorem fX7_holding_57 : ftc 57 (me_ci mX7_holding) = some (57, .iload_n 2, 1, (0, 0, 0, 0)) := by decide +kernel
theorem fX7_holding_58 : ftc 58 (me_ci mX7_holding) = some (58, .invokevirtual 155, 3, (2, 0, 553, 0)) := by decide +kernel
theorem fX7_holding_61 : ftc 61 (me_ci mX7_holding) = some (61, .ireturn, 1, (0, 0, 0, 0)) := by decide +kernel
theorem pX7_holding : pg 75 = some mX7_holding := by decide +kernel
theorem fX7_chance_0 : ftc 0 (me_ci mX7_chance) = some (0, .aload_n 0, 1, (0, 0, 0, 0)) := by decide +kernel
theorem fX7_chance_1 : ftc 1 (me_ci mX7_chance) = some (1, .getfield 46, 3, (7, 5, 289, 0)) := by decide +kernel
theorem fX7_chance_4 : ftc 4 (me_ci mX7_chance) = some (4, .iload_n 1, 1, (0, 0, 0, 0)) := by decide +kernel
theorem fX7_chance_5 : ftc 5 (me_ci mX7_chance) = some (5, .invokevirtual 123, 3, (36, 0, 496, 0)) := by decide +kernel
theorem fX7_chance_8 : ftc 8 (me_ci mX7_chance) = some (8, .ifCond .ne 6, 3, (0, 0, 0, 0)) := by decide +kernel
theorem fX7_chance_11 : ftc 11 (me_ci mX7_chance) = some (11, .ldc 127, 2, (339, 0, 0, -1000001)) := by decide +kernel
theorem fX7_chance_13 : ftc 13 (me_ci mX7_chance) = some (13, .ireturn, 1, (0, 0, 0, 0)) := by decide +kernel
theorem fX7_chance_14 : ftc 14 (me_ci mX7_chance) = some (14, .aload_n 0, 1, (0, 0, 0, 0)) := by decide +kernel
theorem fX7_chance_15 : ftc 15 (me_ci mX7_chance) = some (15, .getfield 46, 3, (7, 5, 289, 0)) := by decide +kernel
theorem fX7_chance_18 : ftc 18 (me_ci mX7_chance) = some (18, .iload_n 1, 1, (0, 0, 0, 0)) := by decide +kernel
theorem fX7_chance_19 : ftc 19 (me_ci mX7_chance) = some (19, .invokevirtual 158, 3, (44, 0, 558, 0)) := by decide +kernel
theorem fX7_chance_22 : ftc 22 (me_ci mX7_chance) = some (22, .ifCond .eq 7, 3, (0, 0, 0, 0)) := by decide +kernel
theorem fX7_chance_25 : ftc 25 (me_ci mX7_chance) = some (25, .iconst 1, 1, (0, 0, 0, 0)) := by decide +kernel
theorem fX7_chance_26 : ftc 26 (me_ci mX7_chance) = some (26, .goto 4, 3, (0, 0, 0, 0)) := by decide +kernel
theorem fX7_chance_29 : ftc 29 (me_ci mX7_chance) = some (29, .iconst 0, 1, (0, 0, 0, 0)) := by decide +kernel
theorem fX7_chance_30 : ftc 30 (me_ci mX7_chance) = some (30, .ireturn, 1, (0, 0, 0, 0)) := by decide +kernel
theorem pX7_chance : pg 76 = some mX7_chance := by decide +kernel
theorem fX7_keep_0 : ftc 0 (me_ci mX7_keep) = some (0, .aload_n 0, 1, (0, 0, 0, 0)) := by decide +kernel
theorem fX7_keep_1 : ftc 1 (me_ci mX7_keep) = some (1, .getfield 19, 3, (7, 1, 285, 0)) := by decide +kernel
theorem fX7_keep_4 : ftc 4 (me_ci mX7_keep) = some (4, .aload_n 0, 1, (0, 0, 0, 0)) := by decide +kernel
theorem fX7_keep_5 : ftc 5 (me_ci mX7_keep) = some (5, .getfield 46, 3, (7, 5, 289, 0)) := by decide +kernel
theorem fX7_keep_8 : ftc 8 (me_ci mX7_keep) = some (8, .invokevirtual 161, 3, (29, 0, 317, 0)) := by decide +kernel
theorem fX7_keep_11 : ftc 11 (me_ci mX7_keep) = some (11, .aload_n 0, 1, (0, 0, 0, 0)) := by decide +kernel
theorem fX7_keep_12 : ftc 12 (me_ci mX7_keep) = some (12, .iconst 1, 1, (0, 0, 0, 0)) := by decide +kernel
theorem fX7_keep_13 : ftc 13 (me_ci mX7_keep) = some (13, .putfield 52, 3, (7, 7, 291, 0)) := by decide +kernel
theorem fX7_keep_16 : ftc 16 (me_ci mX7_keep) = some (16, .aload_n 0, 1, (0, 0, 0, 0)) := by decide +kernel
theorem fX7_keep_17 : ftc 17 (me_ci mX7_keep) = some (17, .getfield 46, 3, (7, 5, 289, 0)) := by decide +kernel
theorem fX7_keep_20 : ftc 20 (me_ci mX7_keep) = some (20, .getfield 165, 3, (5, 2, 127, 0)) := by decide +kernel
theorem fX7_keep_23 : ftc 23 (me_ci mX7_keep) = some (23, .ireturn, 1, (0, 0, 0, 0)) := by decide +kernel
theorem pX7_keep : pg 77 = some mX7_keep := by decide +kernel
theorem fX7_restore_0 : ftc 0 (me_ci mX7_restore) = some (0, .aload_n 0, 1, (0, 0, 0, 0)) := by decide +kernel
theorem fX7_restore_1 : ftc 1 (me_ci mX7_restore) = some (1, .getfield 52, 3, (7, 7, 291, 0)) := by decide +kernel
theorem fX7_restore_4 : ftc 4 (me_ci mX7_restore) = some (4, .ifCond .ne 6, 3, (0, 0, 0, 0)) := by decide +kernel
theorem fX7_restore_7 : ftc 7 (me_ci mX7_restore) = some (7, .ldc 132, 2, (498, 0, 0, -1000002)) := by decide +kernel
theorem fX7_restore_9 : ftc 9 (me_ci mX7_restore) = some (9, .ireturn, 1, (0, 0, 0, 0)) := by decide +kernel
theorem fX7_restore_10 : ftc 10 (me_ci mX7_restore) = some (10, .aload_n 0, 1, (0, 0, 0, 0)) := by decide +kernel
theorem fX7_restore_11 : ftc 11 (me_ci mX7_restore) = some (11, .getfield 49, 3, (7, 6, 290, 0)) := by decide +kernel
theorem fX7_restore_14 : ftc 14 (me_ci mX7_restore) = some (14, .aload_n 0, 1, (0, 0, 0, 0)) := by decide +kernel
theorem fX7_restore_15 : ftc 15 (me_ci mX7_restore) = some (15, .getfield 19, 3, (7, 1, 285, 0)) := by decide +kernel
theorem fX7_restore_18 : ftc 18 (me_ci mX7_restore) = some (18, .invokevirtual 161, 3, (29, 0, 317, 0)) := by decide +kernel
theorem fX7_restore_21 : ftc 21 (me_ci mX7_restore) = some (21, .aload_n 0, 1, (0, 0, 0, 0)) := by decide +kernel
theorem fX7_restore_22 : ftc 22 (me_ci mX7_restore) = some (22, .aload_n 0, 1, (0, 0, 0, 0)) := by decide +kernel
theorem fX7_restore_23 : ftc 23 (me_ci mX7_restore) = some (23, .getfield 49, 3, (7, 6, 290, 0)) := by decide +kernel
theorem fX7_restore_26 : ftc 26 (me_ci mX7_restore) = some (26, .getfield 165, 3, (5, 2, 127, 0)) := by decide +kernel
theorem fX7_restore_29 : ftc 29 (me_ci mX7_restore) = some (29, .invokevirtual 64, 3, (85, 0, 332, 0)) := by decide +kernel
theorem fX7_restore_32 : ftc 32 (me_ci mX7_restore) = some (32, .ireturn, 1, (0, 0, 0, 0)) := by decide +kernel
theorem pX7_restore : pg 78 = some mX7_restore := by decide +kernel
theorem fX7_undo_0 : ftc 0 (me_ci mX7_undo) = some (0, .aload_n 0, 1, (0, 0, 0, 0)) := by decide +kernel
theorem fX7_undo_1 : ftc 1 (me_ci mX7_undo) = some (1, .getfield 10, 3, (7, 0, 284, 0)) := by decide +kernel
theorem fX7_undo_4 : ftc 4 (me_ci mX7_undo) = some (4, .getfield 110, 3, (1, 1, 190, 0)) := by decide +kernel
theorem fX7_undo_7 : ftc 7 (me_ci mX7_undo) = some (7, .ifCond .ne 6, 3, (0, 0, 0, 0)) := by decide +kernel
theorem fX7_undo_10 : ftc 10 (me_ci mX7_undo) = some (10, .ldc 132, 2, (498, 0, 0, -1000002)) := by decide +kernel
theorem fX7_undo_12 : ftc 12 (me_ci mX7_undo) = some (12, .ireturn, 1, (0, 0, 0, 0)) := by decide +kernel
theorem fX7_undo_13 : ftc 13 (me_ci mX7_undo) = some (13, .aload_n 0, 1, (0, 0, 0, 0)) := by decide +kernel
theorem fX7_undo_14 : ftc 14 (me_ci mX7_undo) = some (14, .aload_n 0, 1, (0, 0, 0, 0)) := by decide +kernel
theorem fX7_undo_15 : ftc 15 (me_ci mX7_undo) = some (15, .getfield 10, 3, (7, 0, 284, 0)) := by decide +kernel
theorem fX7_undo_18 : ftc 18 (me_ci mX7_undo) = some (18, .aload_n 0, 1, (0, 0, 0, 0)) := by decide +kernel
theorem fX7_undo_19 : ftc 19 (me_ci mX7_undo) = some (19, .getfield 46, 3, (7, 5, 289, 0)) := by decide +kernel
theorem fX7_undo_22 : ftc 22 (me_ci mX7_undo) = some (22, .invokevirtual 168, 3, (9, 0, 574, 0)) := by decide +kernel
theorem fX7_undo_25 : ftc 25 (me_ci mX7_undo) = some (25, .putfield 46, 3, (7, 5, 289, 0)) := by decide +kernel
theorem fX7_undo_28 : ftc 28 (me_ci mX7_undo) = some (28, .aload_n 0, 1, (0, 0, 0, 0)) := by decide +kernel
theorem fX7_undo_29 : ftc 29 (me_ci mX7_undo) = some (29, .getfield 10, 3, (7, 0, 284, 0)) := by decide +kernel
theorem fX7_undo_32 : ftc 32 (me_ci mX7_undo) = some (32, .getfield 110, 3, (1, 1, 190, 0)) := by decide +kernel
theorem fX7_undo_35 : ftc 35 (me_ci mX7_undo) = some (35, .ireturn, 1, (0, 0, 0, 0)) := by decide +kernel
theorem pX7_undo : pg 79 = some mX7_undo := by decide +kernel
theorem fX7_type_0 : ftc 0 (me_ci mX7_type) = some (0, .iload_n 1, 1, (0, 0, 0, 0)) := by decide +kernel
theorem fX7_type_1 : ftc 1 (me_ci mX7_type) = some (1, .bipush 32, 2, (0, 0, 0, 0)) := by decide +kernel
theorem fX7_type_3 : ftc 3 (me_ci mX7_type) = some (3, .if_icmp .lt 9, 3, (0, 0, 0, 0)) := by decide +kernel
theorem fX7_type_6 : ftc 6 (me_ci mX7_type) = some (6, .iload_n 1, 1, (0, 0, 0, 0)) := by decide +kernel
theorem fX7_type_7 : ftc 7 (me_ci mX7_type) = some (7, .bipush 126, 2, (0, 0, 0, 0)) := by decide +kernel
theorem fX7_type_9 : ftc 9 (me_ci mX7_type) = some (9, .if_icmp .le 6, 3, (0, 0, 0, 0)) := by decide +kernel
theorem fX7_type_12 : ftc 12 (me_ci mX7_type) = some (12, .ldc 127, 2, (339, 0, 0, -1000001)) := by decide +kernel
theorem fX7_type_14 : ftc 14 (me_ci mX7_type) = some (14, .ireturn, 1, (0, 0, 0, 0)) := by decide +kernel
theorem fX7_type_15 : ftc 15 (me_ci mX7_type) = some (15, .aload_n 0, 1, (0, 0, 0, 0)) := by decide +kernel
theorem fX7_type_16 : ftc 16 (me_ci mX7_type) = some (16, .getfield 26, 3, (7, 2, 286, 0)) := by decide +kernel
theorem fX7_type_19 : ftc 19 (me_ci mX7_type) = some (19, .iload_n 1, 1, (0, 0, 0, 0)) := by decide +kernel
theorem fX7_type_20 : ftc 20 (me_ci mX7_type) = some (20, .invokevirtual 172, 3, (49, 0, 582, 0)) := by decide +kernel
theorem fX7_type_23 : ftc 23 (me_ci mX7_type) = some (23, .ireturn, 1, (0, 0, 0, 0)) := by decide +kernel
theorem pX7_type : pg 80 = some mX7_type := by decide +kernel
theorem fX7_clearText_0 : ftc 0 (me_ci mX7_clearText) = some (0, .aload_n 0, 1, (0, 0, 0, 0)) := by decide +kernel
theorem fX7_clearText_1 : ftc 1 (me_ci mX7_clearText) = some (1, .getfield 26, 3, (7, 2, 286, 0)) := by decide +kernel
theorem fX7_clearText_4 : ftc 4 (me_ci mX7_clearText) = some (4, .getfield 113, 3, (6, 1, 206, 0)) := by decide +kernel
theorem fX7_clearText_7 : ftc 7 (me_ci mX7_clearText) = some (7, .istore_n 1, 1, (0, 0, 0, 0)) := by decide +kernel
theorem fX7_clearText_8 : ftc 8 (me_ci mX7_clearText) = some (8, .aload_n 0, 1, (0, 0, 0, 0)) := by decide +kernel
theorem fX7_clearText_9 : ftc 9 (me_ci mX7_clearText) = some (9, .getfield 26, 3, (7, 2, 286, 0)) := by decide +kernel
theorem fX7_clearText_12 : ftc 12 (me_ci mX7_clearText) = some (12, .iconst 0, 1, (0, 0, 0, 0)) := by decide +kernel
theorem fX7_clearText_13 : ftc 13 (me_ci mX7_clearText) = some (13, .putfield 113, 3, (6, 1, 206, 0)) := by decide +kernel
theorem fX7_clearText_16 : ftc 16 (me_ci mX7_clearText) = some (16, .iload_n 1, 1, (0, 0, 0, 0)) := by decide +kernel
theorem fX7_clearText_17 : ftc 17 (me_ci mX7_clearText) = some (17, .ireturn, 1, (0, 0, 0, 0)) := by decide +kernel
theorem pX7_clearText : pg 81 = some mX7_clearText := by decide +kernel
theorem fX7_fault_0 : ftc 0 (me_ci mX7_fault) = some (0, .iload_n 1, 1, (0, 0, 0, 0)) := by decide +kernel
theorem fX7_fault_1 : ftc 1 (me_ci mX7_fault) = some (1, .ifCond .lt 8, 3, (0, 0, 0, 0)) := by decide +kernel
theorem fX7_fault_4 : ftc 4 (me_ci mX7_fault) = some (4, .iload_n 1, 1, (0, 0, 0, 0)) := by decide +kernel
theorem fX7_fault_5 : ftc 5 (me_ci mX7_fault) = some (5, .iconst 2, 1, (0, 0, 0, 0)) := by decide +kernel
theorem fX7_fault_6 : ftc 6 (me_ci mX7_fault) = some (6, .if_icmp .le 6, 3, (0, 0, 0, 0)) := by decide +kernel
theorem fX7_fault_9 : ftc 9 (me_ci mX7_fault) = some (9, .ldc 127, 2, (339, 0, 0, -1000001)) := by decide +kernel
theorem fX7_fault_11 : ftc 11 (me_ci mX7_fault) = some (11, .ireturn, 1, (0, 0, 0, 0)) := by decide +kernel
theorem fX7_fault_12 : ftc 12 (me_ci mX7_fault) = some (12, .aload_n 0, 1, (0, 0, 0, 0)) := by decide +kernel
theorem fX7_fault_13 : ftc 13 (me_ci mX7_fault) = some (13, .getfield 26, 3, (7, 2, 286, 0)) := by decide +kernel
theorem fX7_fault_16 : ftc 16 (me_ci mX7_fault) = some (16, .aload_n 0, 1, (0, 0, 0, 0)) := by decide +kernel
theorem fX7_fault_17 : ftc 17 (me_ci mX7_fault) = some (17, .invokevirtual 56, 3, (84, 0, 313, 0)) := by decide +kernel
theorem fX7_fault_20 : ftc 20 (me_ci mX7_fault) = some (20, .aload_n 0, 1, (0, 0, 0, 0)) := by decide +kernel
theorem fX7_fault_21 : ftc 21 (me_ci mX7_fault) = some (21, .getfield 33, 3, (7, 3, 287, 0)) := by decide +kernel
theorem fX7_fault_24 : ftc 24 (me_ci mX7_fault) = some (24, .invokevirtual 175, 3, (51, 0, 595, 0)) := by decide +kernel
theorem fX7_fault_27 : ftc 27 (me_ci mX7_fault) = some (27, .aload_n 0, 1, (0, 0, 0, 0)) := by decide +kernel
theorem fX7_fault_28 : ftc 28 (me_ci mX7_fault) = some (28, .getfield 26, 3, (7, 2, 286, 0)) := by decide +kernel
theorem fX7_fault_31 : ftc 31 (me_ci mX7_fault) = some (31, .iload_n 1, 1, (0, 0, 0, 0)) := by decide +kernel
theorem fX7_fault_32 : ftc 32 (me_ci mX7_fault) = some (32, .invokevirtual 179, 3, (50, 0, 635, 0)) := by decide +kernel
theorem fX7_fault_35 : ftc 35 (me_ci mX7_fault) = some (35, .ireturn, 1, (0, 0, 0, 0)) := by decide +kernel
theorem pX7_fault : pg 82 = some mX7_fault := by decide +kernel
theorem fX7_play_0 : ftc 0 (me_ci mX7_play) = some (0, .aload_n 0, 1, (0, 0, 0, 0)) := by decide +kernel
theorem fX7_play_1 : ftc 1 (me_ci mX7_play) = some (1, .getfield 26, 3, (7, 2, 286, 0)) := by decide +kernel
theorem fX7_play_4 : ftc 4 (me_ci mX7_play) = some (4, .aload_n 0, 1, (0, 0, 0, 0)) := by decide +kernel
theorem fX7_play_5 : ftc 5 (me_ci mX7_play) = some (5, .invokevirtual 56, 3, (84, 0, 313, 0)) := by decide +kernel
theorem fX7_play_8 : ftc 8 (me_ci mX7_play) = some (8, .aload_n 0, 1, (0, 0, 0, 0)) := by decide +kernel
theorem fX7_play_9 : ftc 9 (me_ci mX7_play) = some (9, .getfield 33, 3, (7, 3, 287, 0)) := by decide +kernel
theorem fX7_play_12 : ftc 12 (me_ci mX7_play) = some (12, .invokevirtual 175, 3, (51, 0, 595, 0)) := by decide +kernel
theorem fX7_play_15 : ftc 15 (me_ci mX7_play) = some (15, .aload_n 0, 1, (0, 0, 0, 0)) := by decide +kernel
theorem fX7_play_16 : ftc 16 (me_ci mX7_play) = some (16, .getfield 26, 3, (7, 2, 286, 0)) := by decide +kernel
theorem fX7_play_19 : ftc 19 (me_ci mX7_play) = some (19, .getfield 182, 3, (6, 3, 209, 0)) := by decide +kernel
theorem fX7_play_22 : ftc 22 (me_ci mX7_play) = some (22, .ifCond .ne 17, 3, (0, 0, 0, 0)) := by decide +kernel
theorem fX7_play_25 : ftc 25 (me_ci mX7_play) = some (25, .aload_n 0, 1, (0, 0, 0, 0)) := by decide +kernel
theorem fX7_play_26 : ftc 26 (me_ci mX7_play) = some (26, .aload_n 0, 1, (0, 0, 0, 0)) := by decide +kernel
theorem fX7_play_27 : ftc 27 (me_ci mX7_play) = some (27, .getfield 26, 3, (7, 2, 286, 0)) := by decide +kernel
theorem fX7_play_30 : ftc 30 (me_ci mX7_play) = some (30, .getfield 185, 3, (6, 5, 212, 0)) := by decide +kernel
theorem fX7_play_33 : ftc 33 (me_ci mX7_play) = some (33, .invokevirtual 64, 3, (85, 0, 332, 0)) := by decide +kernel
theorem fX7_play_36 : ftc 36 (me_ci mX7_play) = some (36, .goto 5, 3, (0, 0, 0, 0)) := by decide +kernel
theorem fX7_play_39 : ftc 39 (me_ci mX7_play) = some (39, .ldc 132, 2, (498, 0, 0, -1000002)) := by decide +kernel
theorem fX7_play_41 : ftc 41 (me_ci mX7_play) = some (41, .ireturn, 1, (0, 0, 0, 0)) := by decide +kernel
theorem pX7_play : pg 83 = some mX7_play := by decide +kernel
theorem fX7_freshDraft_0 : ftc 0 (me_ci mX7_freshDraft) = some (0, .aload_n 0, 1, (0, 0, 0, 0)) := by decide +kernel
theorem fX7_freshDraft_1 : ftc 1 (me_ci mX7_freshDraft) = some (1, .getfield 49, 3, (7, 6, 290, 0)) := by decide +kernel
theorem fX7_freshDraft_4 : ftc 4 (me_ci mX7_freshDraft) = some (4, .aload_n 0, 1, (0, 0, 0, 0)) := by decide +kernel
theorem fX7_freshDraft_5 : ftc 5 (me_ci mX7_freshDraft) = some (5, .getfield 46, 3, (7, 5, 289, 0)) := by decide +kernel
theorem fX7_freshDraft_8 : ftc 8 (me_ci mX7_freshDraft) = some (8, .invokevirtual 161, 3, (29, 0, 317, 0)) := by decide +kernel
theorem fX7_freshDraft_11 : ftc 11 (me_ci mX7_freshDraft) = some (11, .aload_n 0, 1, (0, 0, 0, 0)) := by decide +kernel
theorem fX7_freshDraft_12 : ftc 12 (me_ci mX7_freshDraft) = some (12, .getfield 49, 3, (7, 6, 290, 0)) := by decide +kernel
theorem fX7_freshDraft_15 : ftc 15 (me_ci mX7_freshDraft) = some (15, .areturn, 1, (0, 0, 0, 0)) := by decide +kernel
theorem pX7_freshDraft : pg 84 = some mX7_freshDraft := by decide +kernel
theorem fX7_adopt_0 : ftc 0 (me_ci mX7_adopt) = some (0, .iload_n 1, 1, (0, 0, 0, 0)) := by decide +kernel
theorem fX7_adopt_1 : ftc 1 (me_ci mX7_adopt) = some (1, .invokestatic 188, 3, (86, 0, 336, 0)) := by decide +kernel
theorem fX7_adopt_4 : ftc 4 (me_ci mX7_adopt) = some (4, .ifCond .eq 5, 3, (0, 0, 0, 0)) := by decide +kernel
theorem fX7_adopt_7 : ftc 7 (me_ci mX7_adopt) = some (7, .iload_n 1, 1, (0, 0, 0, 0)) := by decide +kernel
theorem fX7_adopt_8 : ftc 8 (me_ci mX7_adopt) = some (8, .ireturn, 1, (0, 0, 0, 0)) := by decide +kernel
theorem fX7_adopt_9 : ftc 9 (me_ci mX7_adopt) = some (9, .aload_n 0, 1, (0, 0, 0, 0)) := by decide +kernel
theorem fX7_adopt_10 : ftc 10 (me_ci mX7_adopt) = some (10, .getfield 10, 3, (7, 0, 284, 0)) := by decide +kernel
theorem fX7_adopt_13 : ftc 13 (me_ci mX7_adopt) = some (13, .aload_n 0, 1, (0, 0, 0, 0)) := by decide +kernel
theorem fX7_adopt_14 : ftc 14 (me_ci mX7_adopt) = some (14, .getfield 46, 3, (7, 5, 289, 0)) := by decide +kernel
theorem fX7_adopt_17 : ftc 17 (me_ci mX7_adopt) = some (17, .invokevirtual 191, 3, (8, 0, 340, 0)) := by decide +kernel
theorem fX7_adopt_20 : ftc 20 (me_ci mX7_adopt) = some (20, .astore_n 2, 1, (0, 0, 0, 0)) := by decide +kernel
theorem fX7_adopt_21 : ftc 21 (me_ci mX7_adopt) = some (21, .aload_n 0, 1, (0, 0, 0, 0)) := by decide +kernel
theorem fX7_adopt_22 : ftc 22 (me_ci mX7_adopt) = some (22, .aload_n 0, 1, (0, 0, 0, 0)) := by decide +kernel
theorem fX7_adopt_23 : ftc 23 (me_ci mX7_adopt) = some (23, .getfield 49, 3, (7, 6, 290, 0)) := by decide +kernel
theorem fX7_adopt_26 : ftc 26 (me_ci mX7_adopt) = some (26, .putfield 46, 3, (7, 5, 289, 0)) := by decide +kernel
theorem fX7_adopt_29 : ftc 29 (me_ci mX7_adopt) = some (29, .aload_n 0, 1, (0, 0, 0, 0)) := by decide +kernel
theorem fX7_adopt_30 : ftc 30 (me_ci mX7_adopt) = some (30, .aload_n 2, 1, (0, 0, 0, 0)) := by decide +kernel
theorem fX7_adopt_31 : ftc 31 (me_ci mX7_adopt) = some (31, .putfield 49, 3, (7, 6, 290, 0)) := by decide +kernel
theorem fX7_adopt_34 : ftc 34 (me_ci mX7_adopt) = some (34, .iload_n 1, 1, (0, 0, 0, 0)) := by decide +kernel
theorem fX7_adopt_35 : ftc 35 (me_ci mX7_adopt) = some (35, .ireturn, 1, (0, 0, 0, 0)) := by decide +kernel
theorem pX7_adopt : pg 85 = some mX7_adopt := by decide +kernel
theorem fX7_isError_0 : ftc 0 (me_ci mX7_isError) = some (0, .iload_n 0, 1, (0, 0, 0, 0)) := by decide +kernel
theorem fX7_isError_1 : ftc 1 (me_ci mX7_isError) = some (1, .ldc 127, 2, (339, 0, 0, -1000001)) := by decide +kernel
theorem fX7_isError_3 : ftc 3 (me_ci mX7_isError) = some (3, .if_icmp .gt 7, 3, (0, 0, 0, 0)) := by decide +kernel
theorem fX7_isError_6 : ftc 6 (me_ci mX7_isError) = some (6, .iconst 1, 1, (0, 0, 0, 0)) := by decide +kernel
theorem fX7_isError_7 : ftc 7 (me_ci mX7_isError) = some (7, .goto 4, 3, (0, 0, 0, 0)) := by decide +kernel
theorem fX7_isError_10 : ftc 10 (me_ci mX7_isError) = some (10, .iconst 0, 1, (0, 0, 0, 0)) := by decide +kernel
theorem fX7_isError_11 : ftc 11 (me_ci mX7_isError) = some (11, .ireturn, 1, (0, 0, 0, 0)) := by decide +kernel
theorem pX7_isError : pg 86 = some mX7_isError := by decide +kernel
theorem fX8_init_0 : ftc 0 (me_ci mX8_init) = some (0, .aload_n 0, 1, (0, 0, 0, 0)) := by decide +kernel
theorem fX8_init_1 : ftc 1 (me_ci mX8_init) = some (1, .invokespecial 1, 3, (649, 5, 0, 0)) := by decide +kernel
theorem fX8_init_4 : ftc 4 (me_ci mX8_init) = some (4, .aload_n 0, 1, (0, 0, 0, 0)) := by decide +kernel
theorem fX8_init_5 : ftc 5 (me_ci mX8_init) = some (5, .sipush 2107, 3, (0, 0, 0, 0)) := by decide +kernel
theorem fX8_init_8 : ftc 8 (me_ci mX8_init) = some (8, .newarray .int, 2, (0, 0, 0, 0)) := by decide +kernel
theorem fX8_init_10 : ftc 10 (me_ci mX8_init) = some (10, .putfield 7, 3, (8, 0, 657, 0)) := by decide +kernel
theorem fX8_init_13 : ftc 13 (me_ci mX8_init) = some (13, .aload_n 0, 1, (0, 0, 0, 0)) := by decide +kernel
theorem fX8_init_14 : ftc 14 (me_ci mX8_init) = some (14, .sipush 8428, 3, (0, 0, 0, 0)) := by decide +kernel
theorem fX8_init_17 : ftc 17 (me_ci mX8_init) = some (17, .newarray .int, 2, (0, 0, 0, 0)) := by decide +kernel
theorem fX8_init_19 : ftc 19 (me_ci mX8_init) = some (19, .putfield 13, 3, (8, 1, 658, 0)) := by decide +kernel
theorem fX8_init_22 : ftc 22 (me_ci mX8_init) = some (22, .aload_n 0, 1, (0, 0, 0, 0)) := by decide +kernel
theorem fX8_init_23 : ftc 23 (me_ci mX8_init) = some (23, .sipush 2107, 3, (0, 0, 0, 0)) := by decide +kernel
theorem fX8_init_26 : ftc 26 (me_ci mX8_init) = some (26, .newarray .int, 2, (0, 0, 0, 0)) := by decide +kernel
theorem fX8_init_28 : ftc 28 (me_ci mX8_init) = some (28, .putfield 16, 3, (8, 2, 659, 0)) := by decide +kernel
theorem fX8_init_31 : ftc 31 (me_ci mX8_init) = some (31, .aload_n 0, 1, (0, 0, 0, 0)) := by decide +kernel
theorem fX8_init_32 : ftc 32 (me_ci mX8_init) = some (32, .sipush 2107, 3, (0, 0, 0, 0)) := by decide +kernel
theorem fX8_init_35 : ftc 35 (me_ci mX8_init) = some (35, .newarray .int, 2, (0, 0, 0, 0)) := by decide +kernel
theorem fX8_init_37 : ftc 37 (me_ci mX8_init) = some (37, .putfield 19, 3, (8, 3, 660, 0)) := by decide +kernel
theorem fX8_init_40 : ftc 40 (me_ci mX8_init) = some (40, .aload_n 0, 1, (0, 0, 0, 0)) := by decide +kernel
theorem fX8_init_41 : ftc 41 (me_ci mX8_init) = some (41, .sipush 2107, 3, (0, 0, 0, 0)) := by decide +kernel
theorem fX8_init_44 : ftc 44 (me_ci mX8_init) = some (44, .newarray .int, 2, (0, 0, 0, 0)) := by decide +kernel
theorem fX8_init_46 : ftc 46 (me_ci mX8_init) = some (46, .putfield 22, 3, (8, 4, 661, 0)) := by decide +kernel
theorem fX8_init_49 : ftc 49 (me_ci mX8_init) = some (49, .aload_n 0, 1, (0, 0, 0, 0)) := by decide +kernel
theorem fX8_init_50 : ftc 50 (me_ci mX8_init) = some (50, .bipush 60, 2, (0, 0, 0, 0)) := by decide +kernel
theorem fX8_init_52 : ftc 52 (me_ci mX8_init) = some (52, .newarray .int, 2, (0, 0, 0, 0)) := by decide +kernel
theorem fX8_init_54 : ftc 54 (me_ci mX8_init) = some (54, .putfield 25, 3, (8, 8, 665, 0)) := by decide +kernel
theorem fX8_init_57 : ftc 57 (me_ci mX8_init) = some (57, .aload_n 0, 1, (0, 0, 0, 0)) := by decide +kernel
theorem fX8_init_58 : ftc 58 (me_ci mX8_init) = some (58, .iconst 2, 1, (0, 0, 0, 0)) := by decide +kernel
theorem fX8_init_59 : ftc 59 (me_ci mX8_init) = some (59, .newarray .int, 2, (0, 0, 0, 0)) := by decide +kernel
theorem fX8_init_61 : ftc 61 (me_ci mX8_init) = some (61, .putfield 28, 3, (8, 21, 678, 0)) := by decide +kernel
theorem fX8_init_64 : ftc 64 (me_ci mX8_init) = some (64, .aload_n 0, 1, (0, 0, 0, 0)) := by decide +kernel
theorem fX8_init_65 : ftc 65 (me_ci mX8_init) = some (65, .getfield 7, 3, (8, 0, 657, 0)) := by decide +kernel
theorem fX8_init_68 : ftc 68 (me_ci mX8_init) = some (68, .bipush 26, 2, (0, 0, 0, 0)) := by decide +kernel
theorem fX8_init_70 : ftc 70 (me_ci mX8_init) = some (70, .iconst 1, 1, (0, 0, 0, 0)) := by decide +kernel
theorem fX8_init_71 : ftc 71 (me_ci mX8_init) = some (71, .iastore, 1, (0, 0, 0, 0)) := by decide +kernel
theorem fX8_init_72 : ftc 72 (me_ci mX8_init) = some (72, .aload_n 0, 1, (0, 0, 0, 0)) := by decide +kernel
theorem fX8_init_73 : ftc 73 (me_ci mX8_init) = some (73, .getfield 7, 3, (8, 0, 657, 0)) := by decide +kernel
theorem fX8_init_76 : ftc 76 (me_ci mX8_init) = some (76, .bipush 28, 2, (0, 0, 0, 0)) := by decide +kernel
theorem fX8_init_78 : ftc 78 (me_ci mX8_init) = some (78, .iconst 1, 1, (0, 0, 0, 0)) := by decide +kernel
theorem fX8_init_79 : ftc 79 (me_ci mX8_init) = some (79, .iastore, 1, (0, 0, 0, 0)) := by decide +kernel
theorem fX8_init_80 : ftc 80 (me_ci mX8_init) = some (80, .aload_n 0, 1, (0, 0, 0, 0)) := by decide +kernel
theorem fX8_init_81 : ftc 81 (me_ci mX8_init) = some (81, .iconst 2, 1, (0, 0, 0, 0)) := by decide +kernel
theorem fX8_init_82 : ftc 82 (me_ci mX8_init) = some (82, .bipush 20, 2, (0, 0, 0, 0)) := by decide +kernel
theorem fX8_init_84 : ftc 84 (me_ci mX8_init) = some (84, .invokevirtual 31, 3, (93, 0, 650, 0)) := by decide +kernel
theorem fX8_init_87 : ftc 87 (me_ci mX8_init) = some (87, .return_, 1, (0, 0, 0, 0)) := by decide +kernel
theorem pX8_init : pg 87 = some mX8_init := by decide +kernel
theorem fX8_in_0 : ftc 0 (me_ci mX8_in) = some (0, .iload_n 0, 1, (0, 0, 0, 0)) := by decide +kernel
theorem fX8_in_1 : ftc 1 (me_ci mX8_in) = some (1, .iload_n 1, 1, (0, 0, 0, 0)) := by decide +kernel
theorem fX8_in_2 : ftc 2 (me_ci mX8_in) = some (2, .if_icmp .lt 12, 3, (0, 0, 0, 0)) := by decide +kernel
theorem fX8_in_5 : ftc 5 (me_ci mX8_in) = some (5, .iload_n 0, 1, (0, 0, 0, 0)) := by decide +kernel
theorem fX8_in_6 : ftc 6 (me_ci mX8_in) = some (6, .iload_n 2, 1, (0, 0, 0, 0)) := by decide +kernel
theorem fX8_in_7 : ftc 7 (me_ci mX8_in) = some (7, .if_icmp .gt 7, 3, (0, 0, 0, 0)) := by decide +kernel
theorem fX8_in_10 : ftc 10 (me_ci mX8_in) = some (10, .iconst 1, 1, (0, 0, 0, 0)) := by decide +kernel
theorem fX8_in_11 : ftc 11 (me_ci mX8_in) = some (11, .goto 4, 3, (0, 0, 0, 0)) := by decide +kernel
theorem fX8_in_14 : ftc 14 (me_ci mX8_in) = some (14, .iconst 0, 1, (0, 0, 0, 0)) := by decide +kernel
theorem fX8_in_15 : ftc 15 (me_ci mX8_in) = some (15, .ireturn, 1, (0, 0, 0, 0)) := by decide +kernel
theorem pX8_in : pg 88 = some mX8_in := by decide +kernel
theorem fX8_copies_0 : ftc 0 (me_ci mX8_copies) = some (0, .iconst 0, 1, (0, 0, 0, 0)) := by decide +kernel
theorem fX8_copies_1 : ftc 1 (me_ci mX8_copies) = some (1, .istore_n 2, 1, (0, 0, 0, 0)) := by decide +kernel
theorem fX8_copies_2 : ftc 2 (me_ci mX8_copies) = some (2, .iload_n 2, 1, (0, 0, 0, 0)) := by decide +kernel
theorem fX8_copies_3 : ftc 3 (me_ci mX8_copies) = some (3, .sipush 2107, 3, (0, 0, 0, 0)) := by decide +kernel
theorem fX8_copies_6 : ftc 6 (me_ci mX8_copies) = some (6, .if_icmp .ge 15, 3, (0, 0, 0, 0)) := by decide +kernel
theorem fX8_copies_9 : ftc 9 (me_ci mX8_copies) = some (9, .aload_n 1, 1, (0, 0, 0, 0)) := by decide +kernel
theorem fX8_copies_10 : ftc 10 (me_ci mX8_copies) = some (10, .iload_n 2, 1, (0, 0, 0, 0)) := by decide +kernel
theorem fX8_copies_11 : ftc 11 (me_ci mX8_copies) = some (11, .aload_n 0, 1, (0, 0, 0, 0)) := by decide +kernel
theorem fX8_copies_12 : ftc 12 (me_ci mX8_copies) = some (12, .iload_n 2, 1, (0, 0, 0, 0)) := by decide +kernel
theorem fX8_copies_13 : ftc 13 (me_ci mX8_copies) = some (13, .iaload, 1, (0, 0, 0, 0)) := by decide +kernel
theorem fX8_copies_14 : ftc 14 (me_ci mX8_copies) = some (14, .iastore, 1, (0, 0, 0, 0)) := by decide +kernel
theorem fX8_copies_15 : ftc 15 (me_ci mX8_copies) = some (15, .iinc 2 1, 3, (0, 0, 0, 0)) := by decide +kernel
theorem fX8_copies_18 : ftc 18 (me_ci mX8_copies) = some (18, .goto (-16), 3, (0, 0, 0, 0)) := by decide +kernel
theorem fX8_copies_21 : ftc 21 (me_ci mX8_copies) = some (21, .return_, 1, (0, 0, 0, 0)) := by decide +kernel
theorem pX8_copies : pg 89 = some mX8_copies := by decide +kernel
theorem fX8_changes_0 : ftc 0 (me_ci mX8_changes) = some (0, .aload_n 0, 1, (0, 0, 0, 0)) := by decide +kernel
theorem fX8_changes_1 : ftc 1 (me_ci mX8_changes) = some (1, .getfield 35, 3, (8, 7, 664, 0)) := by decide +kernel
theorem fX8_changes_4 : ftc 4 (me_ci mX8_changes) = some (4, .ifCond .eq 4, 3, (0, 0, 0, 0)) := by decide +kernel
theorem fX8_changes_7 : ftc 7 (me_ci mX8_changes) = some (7, .return_, 1, (0, 0, 0, 0)) := by decide +kernel
theorem fX8_changes_8 : ftc 8 (me_ci mX8_changes) = some (8, .aload_n 0, 1, (0, 0, 0, 0)) := by decide +kernel
theorem fX8_changes_9 : ftc 9 (me_ci mX8_changes) = some (9, .getfield 39, 3, (8, 6, 663, 0)) := by decide +kernel
theorem fX8_changes_12 : ftc 12 (me_ci mX8_changes) = some (12, .iconst 4, 1, (0, 0, 0, 0)) := by decide +kernel
theorem fX8_changes_13 : ftc 13 (me_ci mX8_changes) = some (13, .if_icmp .ne 44, 3, (0, 0, 0, 0)) := by decide +kernel
theorem fX8_changes_16 : ftc 16 (me_ci mX8_changes) = some (16, .iconst 0, 1, (0, 0, 0, 0)) := by decide +kernel
theorem fX8_changes_17 : ftc 17 (me_ci mX8_changes) = some (17, .istore_n 1, 1, (0, 0, 0, 0)) := by decide +kernel
theorem fX8_changes_18 : ftc 18 (me_ci mX8_changes) = some (18, .iload_n 1, 1, (0, 0, 0, 0)) := by decide +kernel
theorem fX8_changes_19 : ftc 19 (me_ci mX8_changes) = some (19, .sipush 6321, 3, (0, 0, 0, 0)) := by decide +kernel
theorem fX8_changes_22 : ftc 22 (me_ci mX8_changes) = some (22, .if_icmp .ge 25, 3, (0, 0, 0, 0)) := by decide +kernel
theorem fX8_changes_25 : ftc 25 (me_ci mX8_changes) = some (25, .aload_n 0, 1, (0, 0, 0, 0)) := by decide +kernel
theorem fX8_changes_26 : ftc 26 (me_ci mX8_changes) = some (26, .getfield 13, 3, (8, 1, 658, 0)) := by decide +kernel
theorem fX8_changes_29 : ftc 29 (me_ci mX8_changes) = some (29, .iload_n 1, 1, (0, 0, 0, 0)) := by decide +kernel
theorem fX8_changes_30 : ftc 30 (me_ci mX8_changes) = some (30, .aload_n 0, 1, (0, 0, 0, 0)) := by decide +kernel
theorem fX8_changes_31 : ftc 31 (me_ci mX8_changes) = some (31, .getfield 13, 3, (8, 1, 658, 0)) := by decide +kernel
theorem fX8_changes_34 : ftc 34 (me_ci mX8_changes) = some (34, .iload_n 1, 1, (0, 0, 0, 0)) := by decide +kernel
theorem fX8_changes_35 : ftc 35 (me_ci mX8_changes) = some (35, .sipush 2107, 3, (0, 0, 0, 0)) := by decide +kernel
theorem fX8_changes_38 : ftc 38 (me_ci mX8_changes) = some (38, .iadd, 1, (0, 0, 0, 0)) := by decide +kernel
theorem fX8_changes_39 : ftc 39 (me_ci mX8_changes) = some (39, .iaload, 1, (0, 0, 0, 0)) := by decide +kernel
theorem fX8_changes_40 : ftc 40 (me_ci mX8_changes) = some (40, .iastore, 1, (0, 0, 0, 0)) := by decide +kernel
theorem fX8_changes_41 : ftc 41 (me_ci mX8_changes) = some (41, .iinc 1 1, 3, (0, 0, 0, 0)) := by decide +kernel
theorem fX8_changes_44 : ftc 44 (me_ci mX8_changes) = some (44, .goto (-26), 3, (0, 0, 0, 0)) := by decide +kernel
theorem fX8_changes_47 : ftc 47 (me_ci mX8_changes) = some (47, .aload_n 0, 1, (0, 0, 0, 0)) := by decide +kernel
theorem fX8_changes_48 : ftc 48 (me_ci mX8_changes) = some (48, .dup, 1, (0, 0, 0, 0)) := by decide +kernel
theorem fX8_changes_49 : ftc 49 (me_ci mX8_changes) = some (49, .getfield 39, 3, (8, 6, 663, 0)) := by decide +kernel
theorem fX8_changes_52 : ftc 52 (me_ci mX8_changes) = some (52, .iconst 1, 1, (0, 0, 0, 0)) := by decide +kernel
theorem fX8_changes_53 : ftc 53 (me_ci mX8_changes) = some (53, .isub, 1, (0, 0, 0, 0)) := by decide +kernel
theorem fX8_changes_54 : ftc 54 (me_ci mX8_changes) = some (54, .putfield 39, 3, (8, 6, 663, 0)) := by decide +kernel
theorem fX8_changes_57 : ftc 57 (me_ci mX8_changes) = some (57, .iconst 0, 1, (0, 0, 0, 0)) := by decide +kernel
theorem fX8_changes_58 : ftc 58 (me_ci mX8_changes) = some (58, .istore_n 1, 1, (0, 0, 0, 0)) := by decide +kernel
theorem fX8_changes_59 : ftc 59 (me_ci mX8_changes) = some (59, .iload_n 1, 1, (0, 0, 0, 0)) := by decide +kernel
theorem fX8_changes_60 : ftc 60 (me_ci mX8_changes) = some (60, .sipush 2107, 3, (0, 0, 0, 0)) := by decide +kernel
theorem fX8_changes_63 : ftc 63 (me_ci mX8_changes) = some (63, .if_icmp .ge 30, 3, (0, 0, 0, 0)) := by decide +kernel
theorem fX8_changes_66 : ftc 66 (me_ci mX8_changes) = some (66, .aload_n 0, 1, (0, 0, 0, 0)) := by decide +kernel
theorem fX8_changes_67 : ftc 67 (me_ci mX8_changes) = some (67, .getfield 13, 3, (8, 1, 658, 0)) := by decide +kernel
theorem fX8_changes_70 : ftc 70 (me_ci mX8_changes) = some (70, .sipush 2107, 3, (0, 0, 0, 0)) := by decide +kernel
theorem fX8_changes_73 : ftc 73 (me_ci mX8_changes) = some (73, .aload_n 0, 1, (0, 0, 0, 0)) := by decide +kernel
theorem fX8_changes_74 : ftc 74 (me_ci mX8_changes) = some (74, .getfield 39, 3, (8, 6, 663, 0)) := by decide +kernel
theorem fX8_changes_77 : ftc 77 (me_ci mX8_changes) = some (77, .imul, 1, (0, 0, 0, 0)) := by decide +kernel
theorem fX8_changes_78 : ftc 78 (me_ci mX8_changes) = some (78, .iload_n 1, 1, (0, 0, 0, 0)) := by decide +kernel
theorem fX8_changes_79 : ftc 79 (me_ci mX8_changes) = some (79, .iadd, 1, (0, 0, 0, 0)) := by decide +kernel
theorem fX8_changes_80 : ftc 80 (me_ci mX8_changes) = some (80, .aload_n 0, 1, (0, 0, 0, 0)) := by decide +kernel
theorem fX8_changes_81 : ftc 81 (me_ci mX8_changes) = some (81, .getfield 7, 3, (8, 0, 657, 0)) := by decide +kernel
theorem fX8_changes_84 : ftc 84 (me_ci mX8_changes) = some (84, .iload_n 1, 1, (0, 0, 0, 0)) := by decide +kernel
theorem fX8_changes_85 : ftc 85 (me_ci mX8_changes) = some (85, .iaload, 1, (0, 0, 0, 0)) := by decide +kernel
theorem fX8_changes_86 : ftc 86 (me_ci mX8_changes) = some (86, .iastore, 1, (0, 0, 0, 0)) := by decide +kernel
theorem fX8_changes_87 : ftc 87 (me_ci mX8_changes) = some (87, .iinc 1 1, 3, (0, 0, 0, 0)) := by decide +kernel
theorem fX8_changes_90 : ftc 90 (me_ci mX8_changes) = some (90, .goto (-31), 3, (0, 0, 0, 0)) := by decide +kernel
theorem fX8_changes_93 : ftc 93 (me_ci mX8_changes) = some (93, .aload_n 0, 1, (0, 0, 0, 0)) := by decide +kernel
theorem fX8_changes_94 : ftc 94 (me_ci mX8_changes) = some (94, .dup, 1, (0, 0, 0, 0)) := by decide +kernel
theorem fX8_changes_95 : ftc 95 (me_ci mX8_changes) = some (95, .getfield 39, 3, (8, 6, 663, 0)) := by decide +kernel
theorem fX8_changes_98 : ftc 98 (me_ci mX8_changes) = some (98, .iconst 1, 1, (0, 0, 0, 0)) := by decide +kernel
theorem fX8_changes_99 : ftc 99 (me_ci mX8_changes) = some (99, .iadd, 1, (0, 0, 0, 0)) := by decide +kernel
theorem fX8_changes_100 : ftc 100 (me_ci mX8_changes) = some (100, .putfield 39, 3, (8, 6, 663, 0)) := by decide +kernel
theorem fX8_changes_103 : ftc 103 (me_ci mX8_changes) = some (103, .return_, 1, (0, 0, 0, 0)) := by decide +kernel
theorem pX8_changes : pg 90 = some mX8_changes := by decide +kernel
theorem fX8_isPlayer_0 : ftc 0 (me_ci mX8_isPlayer) = some (0, .iload_n 1, 1, (0, 0, 0, 0)) := by decide +kernel
theorem fX8_isPlayer_1 : ftc 1 (me_ci mX8_isPlayer) = some (1, .ifCond .lt 17, 3, (0, 0, 0, 0)) := by decide +kernel
theorem fX8_isPlayer_4 : ftc 4 (me_ci mX8_isPlayer) = some (4, .iload_n 1, 1, (0, 0, 0, 0)) := by decide +kernel
theorem fX8_isPlayer_5 : ftc 5 (me_ci mX8_isPlayer) = some (5, .aload_n 0, 1, (0, 0, 0, 0)) := by decide +kernel
theorem fX8_isPlayer_6 : ftc 6 (me_ci mX8_isPlayer) = some (6, .getfield 7, 3, (8, 0, 657, 0)) := by decide +kernel
theorem fX8_isPlayer_9 : ftc 9 (me_ci mX8_isPlayer) = some (9, .iconst 0, 1, (0, 0, 0, 0)) := by decide +kernel
theorem fX8_isPlayer_10 : ftc 10 (me_ci mX8_isPlayer) = some (10, .iaload, 1, (0, 0, 0, 0)) := by decide +kernel
theorem fX8_isPlayer_11 : ftc 11 (me_ci mX8_isPlayer) = some (11, .if_icmp .ge 7, 3, (0, 0, 0, 0)) := by decide +kernel
theorem fX8_isPlayer_14 : ftc 14 (me_ci mX8_isPlayer) = some (14, .iconst 1, 1, (0, 0, 0, 0)) := by decide +kernel
theorem fX8_isPlayer_15 : ftc 15 (me_ci mX8_isPlayer) = some (15, .goto 4, 3, (0, 0, 0, 0)) := by decide +kernel
theorem fX8_isPlayer_18 : ftc 18 (me_ci mX8_isPlayer) = some (18, .iconst 0, 1, (0, 0, 0, 0)) := by decide +kernel
theorem fX8_isPlayer_19 : ftc 19 (me_ci mX8_isPlayer) = some (19, .ireturn, 1, (0, 0, 0, 0)) := by decide +kernel
theorem pX8_isPlayer : pg 91 = some mX8_isPlayer := by decide +kernel
theorem fX8_of_0 : ftc 0 (me_ci mX8_of) = some (0, .aload_n 0, 1, (0, 0, 0, 0)) := by decide +kernel
theorem fX8_of_1 : ftc 1 (me_ci mX8_of) = some (1, .getfield 7, 3, (8, 0, 657, 0)) := by decide +kernel
theorem fX8_of_4 : ftc 4 (me_ci mX8_of) = some (4, .bipush 126, 2, (0, 0, 0, 0)) := by decide +kernel
theorem fX8_of_6 : ftc 6 (me_ci mX8_of) = some (6, .bipush 6, 2, (0, 0, 0, 0)) := by decide +kernel
theorem fX8_of_8 : ftc 8 (me_ci mX8_of) = some (8, .iload_n 1, 1, (0, 0, 0, 0)) := by decide +kernel
theorem fX8_of_9 : ftc 9 (me_ci mX8_of) = some (9, .imul, 1, (0, 0, 0, 0)) := by decide +kernel
theorem fX8_of_10 : ftc 10 (me_ci mX8_of) = some (10, .iadd, 1, (0, 0, 0, 0)) := by decide +kernel
theorem fX8_of_11 : ftc 11 (me_ci mX8_of) = some (11, .iload_n 2, 1, (0, 0, 0, 0)) := by decide +kernel
theorem fX8_of_12 : ftc 12 (me_ci mX8_of) = some (12, .iadd, 1, (0, 0, 0, 0)) := by decide +kernel
theorem fX8_of_13 : ftc 13 (me_ci mX8_of) = some (13, .iaload, 1, (0, 0, 0, 0)) := by decide +kernel
theorem fX8_of_14 : ftc 14 (me_ci mX8_of) = some (14, .ireturn, 1, (0, 0, 0, 0)) := by decide +kernel
theorem pX8_of : pg 92 = some mX8_of := by decide +kernel
theorem fX8_begins_0 : ftc 0 (me_ci mX8_begins) = some (0, .iconst 0, 1, (0, 0, 0, 0)) := by decide +kernel
theorem fX8_begins_1 : ftc 1 (me_ci mX8_begins) = some (1, .istore_n 3, 1, (0, 0, 0, 0)) := by decide +kernel
theorem fX8_begins_2 : ftc 2 (me_ci mX8_begins) = some (2, .iload_n 3, 1, (0, 0, 0, 0)) := by decide +kernel
theorem fX8_begins_3 : ftc 3 (me_ci mX8_begins) = some (3, .sipush 2087, 3, (0, 0, 0, 0)) := by decide +kernel
theorem fX8_begins_6 : ftc 6 (me_ci mX8_begins) = some (6, .if_icmp .ge 36, 3, (0, 0, 0, 0)) := by decide +kernel
theorem fX8_begins_9 : ftc 9 (me_ci mX8_begins) = some (9, .aload_n 0, 1, (0, 0, 0, 0)) := by decide +kernel
theorem fX8_begins_10 : ftc 10 (me_ci mX8_begins) = some (10, .getfield 7, 3, (8, 0, 657, 0)) := by decide +kernel
theorem fX8_begins_13 : ftc 13 (me_ci mX8_begins) = some (13, .iload_n 3, 1, (0, 0, 0, 0)) := by decide +kernel
theorem fX8_begins_14 : ftc 14 (me_ci mX8_begins) = some (14, .iload_n 3, 1, (0, 0, 0, 0)) := by decide +kernel
theorem fX8_begins_15 : ftc 15 (me_ci mX8_begins) = some (15, .bipush 26, 2, (0, 0, 0, 0)) := by decide +kernel
theorem fX8_begins_17 : ftc 17 (me_ci mX8_begins) = some (17, .bipush 28, 2, (0, 0, 0, 0)) := by decide +kernel
theorem fX8_begins_19 : ftc 19 (me_ci mX8_begins) = some (19, .invokestatic 43, 3, (88, 0, 654, 0)) := by decide +kernel
theorem fX8_begins_22 : ftc 22 (me_ci mX8_begins) = some (22, .ifCond .eq 12, 3, (0, 0, 0, 0)) := by decide +kernel
theorem fX8_begins_25 : ftc 25 (me_ci mX8_begins) = some (25, .aload_n 0, 1, (0, 0, 0, 0)) := by decide +kernel
theorem fX8_begins_26 : ftc 26 (me_ci mX8_begins) = some (26, .getfield 7, 3, (8, 0, 657, 0)) := by decide +kernel
theorem fX8_begins_29 : ftc 29 (me_ci mX8_begins) = some (29, .iload_n 3, 1, (0, 0, 0, 0)) := by decide +kernel
theorem fX8_begins_30 : ftc 30 (me_ci mX8_begins) = some (30, .iaload, 1, (0, 0, 0, 0)) := by decide +kernel
theorem fX8_begins_31 : ftc 31 (me_ci mX8_begins) = some (31, .goto 4, 3, (0, 0, 0, 0)) := by decide +kernel
theorem fX8_begins_34 : ftc 34 (me_ci mX8_begins) = some (34, .iconst 0, 1, (0, 0, 0, 0)) := by decide +kernel
theorem fX8_begins_35 : ftc 35 (me_ci mX8_begins) = some (35, .iastore, 1, (0, 0, 0, 0)) := by decide +kernel
theorem fX8_begins_36 : ftc 36 (me_ci mX8_begins) = some (36, .iinc 3 1, 3, (0, 0, 0, 0)) := by decide +kernel
theorem fX8_begins_39 : ftc 39 (me_ci mX8_begins) = some (39, .goto (-37), 3, (0, 0, 0, 0)) := by decide +kernel
theorem fX8_begins_42 : ftc 42 (me_ci mX8_begins) = some (42, .aload_n 0, 1, (0, 0, 0, 0)) := by decide +kernel
theorem fX8_begins_43 : ftc 43 (me_ci mX8_begins) = some (43, .getfield 7, 3, (8, 0, 657, 0)) := by decide +kernel
theorem fX8_begins_46 : ftc 46 (me_ci mX8_begins) = some (46, .iconst 0, 1, (0, 0, 0, 0)) := by decide +kernel
theorem fX8_begins_47 : ftc 47 (me_ci mX8_begins) = some (47, .iload_n 1, 1, (0, 0, 0, 0)) := by decide +kernel
theorem fX8_begins_48 : ftc 48 (me_ci mX8_begins) = some (48, .iastore, 1, (0, 0, 0, 0)) := by decide +kernel
theorem fX8_begins_49 : ftc 49 (me_ci mX8_begins) = some (49, .iconst 0, 1, (0, 0, 0, 0)) := by decide +kernel
theorem fX8_begins_50 : ftc 50 (me_ci mX8_begins) = some (50, .istore_n 3, 1, (0, 0, 0, 0)) := by decide +kernel
theorem fX8_begins_51 : ftc 51 (me_ci mX8_begins) = some (51, .iload_n 3, 1, (0, 0, 0, 0)) := by decide +kernel
theorem fX8_begins_52 : ftc 52 (me_ci mX8_begins) = some (52, .iconst 4, 1, (0, 0, 0, 0)) := by decide +kernel
theorem fX8_begins_53 : ftc 53 (me_ci mX8_begins) = some (53, .if_icmp .ge 48, 3, (0, 0, 0, 0)) := by decide +kernel
theorem fX8_begins_56 : ftc 56 (me_ci mX8_begins) = some (56, .aload_n 0, 1, (0, 0, 0, 0)) := by decide +kernel
theorem fX8_begins_57 : ftc 57 (me_ci mX8_begins) = some (57, .getfield 7, 3, (8, 0, 657, 0)) := by decide +kernel
theorem fX8_begins_60 : ftc 60 (me_ci mX8_begins) = some (60, .bipush 126, 2, (0, 0, 0, 0)) := by decide +kernel
theorem fX8_begins_62 : ftc 62 (me_ci mX8_begins) = some (62, .bipush 6, 2, (0, 0, 0, 0)) := by decide +kernel
theorem fX8_begins_64 : ftc 64 (me_ci mX8_begins) = some (64, .iload_n 3, 1, (0, 0, 0, 0)) := by decide +kernel
theorem fX8_begins_65 : ftc 65 (me_ci mX8_begins) = some (65, .imul, 1, (0, 0, 0, 0)) := by decide +kernel
theorem fX8_begins_66 : ftc 66 (me_ci mX8_begins) = some (66, .iadd, 1, (0, 0, 0, 0)) := by decide +kernel
theorem fX8_begins_67 : ftc 67 (me_ci mX8_begins) = some (67, .iconst 0, 1, (0, 0, 0, 0)) := by decide +kernel
theorem fX8_begins_68 : ftc 68 (me_ci mX8_begins) = some (68, .iadd, 1, (0, 0, 0, 0)) := by decide +kernel
theorem fX8_begins_69 : ftc 69 (me_ci mX8_begins) = some (69, .iload_n 3, 1, (0, 0, 0, 0)) := by decide +kernel
theorem fX8_begins_70 : ftc 70 (me_ci mX8_begins) = some (70, .iload_n 1, 1, (0, 0, 0, 0)) := by decide +kernel
theorem fX8_begins_71 : ftc 71 (me_ci mX8_begins) = some (71, .if_icmp .ge 7, 3, (0, 0, 0, 0)) := by decide +kernel
theorem fX8_begins_74 : ftc 74 (me_ci mX8_begins) = some (74, .iload_n 2, 1, (0, 0, 0, 0)) := by decide +kernel
theorem fX8_begins_75 : ftc 75 (me_ci mX8_begins) = some (75, .goto 4, 3, (0, 0, 0, 0)) := by decide +kernel
theorem fX8_begins_78 : ftc 78 (me_ci mX8_begins) = some (78, .iconst 0, 1, (0, 0, 0, 0)) := by decide +kernel
theorem fX8_begins_79 : ftc 79 (me_ci mX8_begins) = some (79, .iastore, 1, (0, 0, 0, 0)) := by decide +kernel
theorem fX8_begins_80 : ftc 80 (me_ci mX8_begins) = some (80, .aload_n 0, 1, (0, 0, 0, 0)) := by decide +kernel
theorem fX8_begins_81 : ftc 81 (me_ci mX8_begins) = some (81, .getfield 7, 3, (8, 0, 657, 0)) := by decide +kernel
theorem fX8_begins_84 : ftc 84 (me_ci mX8_begins) = some (84, .bipush 126, 2, (0, 0, 0, 0)) := by decide +kernel
theorem fX8_begins_86 : ftc 86 (me_ci mX8_begins) = some (86, .bipush 6, 2, (0, 0, 0, 0)) := by decide +kernel
theorem fX8_begins_88 : ftc 88 (me_ci mX8_begins) = some (88, .iload_n 3, 1, (0, 0, 0, 0)) := by decide +kernel
theorem fX8_begins_89 : ftc 89 (me_ci mX8_begins) = some (89, .imul, 1, (0, 0, 0, 0)) := by decide +kernel
theorem fX8_begins_90 : ftc 90 (me_ci mX8_begins) = some (90, .iadd, 1, (0, 0, 0, 0)) := by decide +kernel
theorem fX8_begins_91 : ftc 91 (me_ci mX8_begins) = some (91, .iconst 2, 1, (0, 0, 0, 0)) := by decide +kernel
theorem fX8_begins_92 : ftc 92 (me_ci mX8_begins) = some (92, .iadd, 1, (0, 0, 0, 0)) := by decide +kernel
theorem fX8_begins_93 : ftc 93 (me_ci mX8_begins) = some (93, .iconst (-1), 1, (0, 0, 0, 0)) := by decide +kernel
theorem fX8_begins_94 : ftc 94 (me_ci mX8_begins) = some (94, .iastore, 1, (0, 0, 0, 0)) := by decide +kernel
theorem fX8_begins_95 : ftc 95 (me_ci mX8_begins) = some (95, .iinc 3 1, 3, (0, 0, 0, 0)) := by decide +kernel
theorem fX8_begins_98 : ftc 98 (me_ci mX8_begins) = some (98, .goto (-47), 3, (0, 0, 0, 0)) := by decide +kernel
theorem fX8_begins_101 : ftc 101 (me_ci mX8_begins) = some (101, .return_, 1, (0, 0, 0, 0)) := by decide +kernel
theorem pX8_begins : pg 93 = some mX8_begins := by decide +kernel
theorem fX8_begin_0 : ftc 0 (me_ci mX8_begin) = some (0, .iload_n 1, 1, (0, 0, 0, 0)) := by decide +kernel
theorem fX8_begin_1 : ftc 1 (me_ci mX8_begin) = some (1, .iconst 2, 1, (0, 0, 0, 0)) := by decide +kernel
theorem fX8_begin_2 : ftc 2 (me_ci mX8_begin) = some (2, .iconst 4, 1, (0, 0, 0, 0)) := by decide +kernel
theorem fX8_begin_3 : ftc 3 (me_ci mX8_begin) = some (3, .invokestatic 43, 3, (88, 0, 654, 0)) := by decide +kernel
theorem fX8_begin_6 : ftc 6 (me_ci mX8_begin) = some (6, .ifCond .eq 13, 3, (0, 0, 0, 0)) := by decide +kernel
theorem fX8_begin_9 : ftc 9 (me_ci mX8_begin) = some (9, .iload_n 2, 1, (0, 0, 0, 0)) := by decide +kernel
theorem fX8_begin_10 : ftc 10 (me_ci mX8_begin) = some (10, .iconst 0, 1, (0, 0, 0, 0)) := by decide +kernel
theorem fX8_begin_11 : ftc 11 (me_ci mX8_begin) = some (11, .bipush 30, 2, (0, 0, 0, 0)) := by decide +kernel
theorem fX8_begin_13 : ftc 13 (me_ci mX8_begin) = some (13, .invokestatic 43, 3, (88, 0, 654, 0)) := by decide +kernel
theorem fX8_begin_16 : ftc 16 (me_ci mX8_begin) = some (16, .ifCond .ne 6, 3, (0, 0, 0, 0)) := by decide +kernel
theorem fX8_begin_19 : ftc 19 (me_ci mX8_begin) = some (19, .ldc 47, 2, (728, 0, 0, -1000001)) := by decide +kernel
theorem fX8_begin_21 : ftc 21 (me_ci mX8_begin) = some (21, .ireturn, 1, (0, 0, 0, 0)) := by decide +kernel
theorem fX8_begin_22 : ftc 22 (me_ci mX8_begin) = some (22, .aload_n 0, 1, (0, 0, 0, 0)) := by decide +kernel
theorem fX8_begin_23 : ftc 23 (me_ci mX8_begin) = some (23, .invokevirtual 48, 3, (90, 0, 729, 0)) := by decide +kernel
theorem fX8_begin_26 : ftc 26 (me_ci mX8_begin) = some (26, .aload_n 0, 1, (0, 0, 0, 0)) := by decide +kernel
theorem fX8_begin_27 : ftc 27 (me_ci mX8_begin) = some (27, .iload_n 1, 1, (0, 0, 0, 0)) := by decide +kernel
theorem fX8_begin_28 : ftc 28 (me_ci mX8_begin) = some (28, .iload_n 2, 1, (0, 0, 0, 0)) := by decide +kernel
theorem fX8_begin_29 : ftc 29 (me_ci mX8_begin) = some (29, .invokevirtual 31, 3, (93, 0, 650, 0)) := by decide +kernel
theorem fX8_begin_32 : ftc 32 (me_ci mX8_begin) = some (32, .iload_n 1, 1, (0, 0, 0, 0)) := by decide +kernel
theorem fX8_begin_33 : ftc 33 (me_ci mX8_begin) = some (33, .iload_n 2, 1, (0, 0, 0, 0)) := by decide +kernel
theorem fX8_begin_34 : ftc 34 (me_ci mX8_begin) = some (34, .imul, 1, (0, 0, 0, 0)) := by decide +kernel
theorem fX8_begin_35 : ftc 35 (me_ci mX8_begin) = some (35, .ireturn, 1, (0, 0, 0, 0)) := by decide +kernel
theorem pX8_begin : pg 94 = some mX8_begin := by decide +kernel
theorem fX8_lot_0 : ftc 0 (me_ci mX8_lot) = some (0, .iload_n 1, 1, (0, 0, 0, 0)) := by decide +kernel
theorem fX8_lot_1 : ftc 1 (me_ci mX8_lot) = some (1, .bipush (-9), 2, (0, 0, 0, 0)) := by decide +kernel
theorem fX8_lot_3 : ftc 3 (me_ci mX8_lot) = some (3, .bipush 20, 2, (0, 0, 0, 0)) := by decide +kernel
theorem fX8_lot_5 : ftc 5 (me_ci mX8_lot) = some (5, .invokestatic 43, 3, (88, 0, 654, 0)) := by decide +kernel
theorem fX8_lot_8 : ftc 8 (me_ci mX8_lot) = some (8, .ifCond .ne 6, 3, (0, 0, 0, 0)) := by decide +kernel
theorem fX8_lot_11 : ftc 11 (me_ci mX8_lot) = some (11, .ldc 47, 2, (728, 0, 0, -1000001)) := by decide +kernel
theorem fX8_lot_13 : ftc 13 (me_ci mX8_lot) = some (13, .ireturn, 1, (0, 0, 0, 0)) := by decide +kernel
theorem fX8_lot_14 : ftc 14 (me_ci mX8_lot) = some (14, .aload_n 0, 1, (0, 0, 0, 0)) := by decide +kernel
theorem fX8_lot_15 : ftc 15 (me_ci mX8_lot) = some (15, .getfield 7, 3, (8, 0, 657, 0)) := by decide +kernel
theorem fX8_lot_18 : ftc 18 (me_ci mX8_lot) = some (18, .iconst 4, 1, (0, 0, 0, 0)) := by decide +kernel
theorem fX8_lot_19 : ftc 19 (me_ci mX8_lot) = some (19, .iaload, 1, (0, 0, 0, 0)) := by decide +kernel
theorem fX8_lot_20 : ftc 20 (me_ci mX8_lot) = some (20, .aload_n 0, 1, (0, 0, 0, 0)) := by decide +kernel
theorem fX8_lot_21 : ftc 21 (me_ci mX8_lot) = some (21, .getfield 7, 3, (8, 0, 657, 0)) := by decide +kernel
theorem fX8_lot_24 : ftc 24 (me_ci mX8_lot) = some (24, .bipush 25, 2, (0, 0, 0, 0)) := by decide +kernel
theorem fX8_lot_26 : ftc 26 (me_ci mX8_lot) = some (26, .iaload, 1, (0, 0, 0, 0)) := by decide +kernel
theorem fX8_lot_27 : ftc 27 (me_ci mX8_lot) = some (27, .iadd, 1, (0, 0, 0, 0)) := by decide +kernel
theorem fX8_lot_28 : ftc 28 (me_ci mX8_lot) = some (28, .bipush 20, 2, (0, 0, 0, 0)) := by decide +kernel
theorem fX8_lot_30 : ftc 30 (me_ci mX8_lot) = some (30, .if_icmp .ne 6, 3, (0, 0, 0, 0)) := by decide +kernel
theorem fX8_lot_33 : ftc 33 (me_ci mX8_lot) = some (33, .ldc 51, 2, (737, 0, 0, -1000003)) := by decide +kernel
theorem fX8_lot_35 : ftc 35 (me_ci mX8_lot) = some (35, .ireturn, 1, (0, 0, 0, 0)) := by decide +kernel
theorem fX8_lot_36 : ftc 36 (me_ci mX8_lot) = some (36, .aload_n 0, 1, (0, 0, 0, 0)) := by decide +kernel
theorem fX8_lot_37 : ftc 37 (me_ci mX8_lot) = some (37, .invokevirtual 48, 3, (90, 0, 729, 0)) := by decide +kernel
theorem fX8_lot_40 : ftc 40 (me_ci mX8_lot) = some (40, .aload_n 0, 1, (0, 0, 0, 0)) := by decide +kernel
theorem fX8_lot_41 : ftc 41 (me_ci mX8_lot) = some (41, .getfield 7, 3, (8, 0, 657, 0)) := by decide +kernel
theorem fX8_lot_44 : ftc 44 (me_ci mX8_lot) = some (44, .iconst 5, 1, (0, 0, 0, 0)) := by decide +kernel
theorem fX8_lot_45 : ftc 45 (me_ci mX8_lot) = some (45, .aload_n 0, 1, (0, 0, 0, 0)) := by decide +kernel
theorem fX8_lot_46 : ftc 46 (me_ci mX8_lot) = some (46, .getfield 7, 3, (8, 0, 657, 0)) := by decide +kernel
theorem fX8_lot_49 : ftc 49 (me_ci mX8_lot) = some (49, .iconst 4, 1, (0, 0, 0, 0)) := by decide +kernel
theorem fX8_lot_50 : ftc 50 (me_ci mX8_lot) = some (50, .iaload, 1, (0, 0, 0, 0)) := by decide +kernel
theorem fX8_lot_51 : ftc 51 (me_ci mX8_lot) = some (51, .iadd, 1, (0, 0, 0, 0)) := by decide +kernel
theorem fX8_lot_52 : ftc 52 (me_ci mX8_lot) = some (52, .iload_n 1, 1, (0, 0, 0, 0)) := by decide +kernel
theorem fX8_lot_53 : ftc 53 (me_ci mX8_lot) = some (53, .iastore, 1, (0, 0, 0, 0)) := by decide +kernel
theorem fX8_lot_54 : ftc 54 (me_ci mX8_lot) = some (54, .aload_n 0, 1, (0, 0, 0, 0)) := by decide +kernel
theorem fX8_lot_55 : ftc 55 (me_ci mX8_lot) = some (55, .getfield 7, 3, (8, 0, 657, 0)) := by decide +kernel
theorem fX8_lot_58 : ftc 58 (me_ci mX8_lot) = some (58, .iconst 4, 1, (0, 0, 0, 0)) := by decide +kernel
theorem fX8_lot_59 : ftc 59 (me_ci mX8_lot) = some (59, .dup2, 1, (0, 0, 0, 0)) := by decide +kernel
theorem fX8_lot_60 : ftc 60 (me_ci mX8_lot) = some (60, .iaload, 1, (0, 0, 0, 0)) := by decide +kernel
theorem fX8_lot_61 : ftc 61 (me_ci mX8_lot) = some (61, .iconst 1, 1, (0, 0, 0, 0)) := by decide +kernel
theorem fX8_lot_62 : ftc 62 (me_ci mX8_lot) = some (62, .iadd, 1, (0, 0, 0, 0)) := by decide +kernel
theorem fX8_lot_63 : ftc 63 (me_ci mX8_lot) = some (63, .iastore, 1, (0, 0, 0, 0)) := by decide +kernel
theorem fX8_lot_64 : ftc 64 (me_ci mX8_lot) = some (64, .aload_n 0, 1, (0, 0, 0, 0)) := by decide +kernel
theorem fX8_lot_65 : ftc 65 (me_ci mX8_lot) = some (65, .getfield 7, 3, (8, 0, 657, 0)) := by decide +kernel
theorem fX8_lot_68 : ftc 68 (me_ci mX8_lot) = some (68, .iconst 4, 1, (0, 0, 0, 0)) := by decide +kernel
theorem fX8_lot_69 : ftc 69 (me_ci mX8_lot) = some (69, .iaload, 1, (0, 0, 0, 0)) := by decide +kernel
theorem fX8_lot_70 : ftc 70 (me_ci mX8_lot) = some (70, .ireturn, 1, (0, 0, 0, 0)) := by decide +kernel
theorem pX8_lot : pg 95 = some mX8_lot := by decide +kernel
theorem fX8_bids_0 : ftc 0 (me_ci mX8_bids) = some (0, .iconst 0, 1, (0, 0, 0, 0)) := by decide +kernel
theorem fX8_bids_1 : ftc 1 (me_ci mX8_bids) = some (1, .istore_n 1, 1, (0, 0, 0, 0)) := by decide +kernel
theorem fX8_bids_2 : ftc 2 (me_ci mX8_bids) = some (2, .iconst 0, 1, (0, 0, 0, 0)) := by decide +kernel
theorem fX8_bids_3 : ftc 3 (me_ci mX8_bids) = some (3, .istore_n 2, 1, (0, 0, 0, 0)) := by decide +kernel
theorem fX8_bids_4 : ftc 4 (me_ci mX8_bids) = some (4, .iload_n 2, 1, (0, 0, 0, 0)) := by decide +kernel
theorem fX8_bids_5 : ftc 5 (me_ci mX8_bids) = some (5, .aload_n 0, 1, (0, 0, 0, 0)) := by decide +kernel
theorem fX8_bids_6 : ftc 6 (me_ci mX8_bids) = some (6, .getfield 7, 3, (8, 0, 657, 0)) := by decide +kernel
theorem fX8_bids_9 : ftc 9 (me_ci mX8_bids) = some (9, .iconst 0, 1, (0, 0, 0, 0)) := by decide +kernel
theorem fX8_bids_10 : ftc 10 (me_ci mX8_bids) = some (10, .iaload, 1, (0, 0, 0, 0)) := by decide +kernel
theorem fX8_bids_11 : ftc 11 (me_ci mX8_bids) = some (11, .if_icmp .ge 26, 3, (0, 0, 0, 0)) := by decide +kernel
theorem fX8_bids_14 : ftc 14 (me_ci mX8_bids) = some (14, .iload_n 1, 1, (0, 0, 0, 0)) := by decide +kernel
theorem fX8_bids_15 : ftc 15 (me_ci mX8_bids) = some (15, .aload_n 0, 1, (0, 0, 0, 0)) := by decide +kernel
theorem fX8_bids_16 : ftc 16 (me_ci mX8_bids) = some (16, .iload_n 2, 1, (0, 0, 0, 0)) := by decide +kernel
theorem fX8_bids_17 : ftc 17 (me_ci mX8_bids) = some (17, .iconst 2, 1, (0, 0, 0, 0)) := by decide +kernel
theorem fX8_bids_18 : ftc 18 (me_ci mX8_bids) = some (18, .invokevirtual 52, 3, (92, 0, 746, 0)) := by decide +kernel
theorem fX8_bids_21 : ftc 21 (me_ci mX8_bids) = some (21, .ifCond .lt 7, 3, (0, 0, 0, 0)) := by decide +kernel
theorem fX8_bids_24 : ftc 24 (me_ci mX8_bids) = some (24, .iconst 1, 1, (0, 0, 0, 0)) := by decide +kernel
theorem fX8_bids_25 : ftc 25 (me_ci mX8_bids) = some (25, .goto 4, 3, (0, 0, 0, 0)) := by decide +kernel
theorem fX8_bids_28 : ftc 28 (me_ci mX8_bids) = some (28, .iconst 0, 1, (0, 0, 0, 0)) := by decide +kernel
theorem fX8_bids_29 : ftc 29 (me_ci mX8_bids) = some (29, .iadd, 1, (0, 0, 0, 0)) := by decide +kernel
theorem fX8_bids_30 : ftc 30 (me_ci mX8_bids) = some (30, .istore_n 1, 1, (0, 0, 0, 0)) := by decide +kernel
theorem fX8_bids_31 : ftc 31 (me_ci mX8_bids) = some (31, .iinc 2 1, 3, (0, 0, 0, 0)) := by decide +kernel
theorem fX8_bids_34 : ftc 34 (me_ci mX8_bids) = some (34, .goto (-30), 3, (0, 0, 0, 0)) := by decide +kernel
theorem fX8_bids_37 : ftc 37 (me_ci mX8_bids) = some (37, .iload_n 1, 1, (0, 0, 0, 0)) := by decide +kernel
theorem fX8_bids_38 : ftc 38 (me_ci mX8_bids) = some (38, .ireturn, 1, (0, 0, 0, 0)) := by decide +kernel
theorem pX8_bids : pg 96 = some mX8_bids := by decide +kernel
theorem fX8_bid_0 : ftc 0 (me_ci mX8_bid) = some (0, .aload_n 0, 1, (0, 0, 0, 0)) := by decide +kernel
theorem fX8_bid_1 : ftc 1 (me_ci mX8_bid) = some (1, .iload_n 1, 1, (0, 0, 0, 0)) := by decide +kernel
theorem fX8_bid_2 : ftc 2 (me_ci mX8_bid) = some (2, .invokevirtual 56, 3, (91, 0, 742, 0)) := by decide +kernel
theorem fX8_bid_5 : ftc 5 (me_ci mX8_bid) = some (5, .ifCond .eq 7, 3, (0, 0, 0, 0)) := by decide +kernel
theorem fX8_bid_8 : ftc 8 (me_ci mX8_bid) = some (8, .iload_n 2, 1, (0, 0, 0, 0)) := by decide +kernel
theorem fX8_bid_9 : ftc 9 (me_ci mX8_bid) = some (9, .ifCond .ge 6, 3, (0, 0, 0, 0)) := by decide +kernel
theorem fX8_bid_12 : ftc 12 (me_ci mX8_bid) = some (12, .ldc 47, 2, (728, 0, 0, -1000001)) := by decide +kernel
theorem fX8_bid_14 : ftc 14 (me_ci mX8_bid) = some (14, .ireturn, 1, (0, 0, 0, 0)) := by decide +kernel
theorem fX8_bid_15 : ftc 15 (me_ci mX8_bid) = some (15, .aload_n 0, 1, (0, 0, 0, 0)) := by decide +kernel
theorem fX8_bid_16 : ftc 16 (me_ci mX8_bid) = some (16, .getfield 7, 3, (8, 0, 657, 0)) := by decide +kernel
theorem fX8_bid_19 : ftc 19 (me_ci mX8_bid) = some (19, .iconst 4, 1, (0, 0, 0, 0)) := by decide +kernel
theorem fX8_bid_20 : ftc 20 (me_ci mX8_bid) = some (20, .iaload, 1, (0, 0, 0, 0)) := by decide +kernel
theorem fX8_bid_21 : ftc 21 (me_ci mX8_bid) = some (21, .ifCond .eq 13, 3, (0, 0, 0, 0)) := by decide +kernel
theorem fX8_bid_24 : ftc 24 (me_ci mX8_bid) = some (24, .iload_n 2, 1, (0, 0, 0, 0)) := by decide +kernel
theorem fX8_bid_25 : ftc 25 (me_ci mX8_bid) = some (25, .aload_n 0, 1, (0, 0, 0, 0)) := by decide +kernel
theorem fX8_bid_26 : ftc 26 (me_ci mX8_bid) = some (26, .iload_n 1, 1, (0, 0, 0, 0)) := by decide +kernel
theorem fX8_bid_27 : ftc 27 (me_ci mX8_bid) = some (27, .iconst 0, 1, (0, 0, 0, 0)) := by decide +kernel
theorem fX8_bid_28 : ftc 28 (me_ci mX8_bid) = some (28, .invokevirtual 52, 3, (92, 0, 746, 0)) := by decide +kernel
theorem fX8_bid_31 : ftc 31 (me_ci mX8_bid) = some (31, .if_icmp .le 6, 3, (0, 0, 0, 0)) := by decide +kernel
theorem fX8_bid_34 : ftc 34 (me_ci mX8_bid) = some (34, .ldc 60, 2, (750, 0, 0, -1000002)) := by decide +kernel
theorem fX8_bid_36 : ftc 36 (me_ci mX8_bid) = some (36, .ireturn, 1, (0, 0, 0, 0)) := by decide +kernel
theorem fX8_bid_37 : ftc 37 (me_ci mX8_bid) = some (37, .aload_n 0, 1, (0, 0, 0, 0)) := by decide +kernel
theorem fX8_bid_38 : ftc 38 (me_ci mX8_bid) = some (38, .invokevirtual 48, 3, (90, 0, 729, 0)) := by decide +kernel
theorem fX8_bid_41 : ftc 41 (me_ci mX8_bid) = some (41, .aload_n 0, 1, (0, 0, 0, 0)) := by decide +kernel
theorem fX8_bid_42 : ftc 42 (me_ci mX8_bid) = some (42, .getfield 7, 3, (8, 0, 657, 0)) := by decide +kernel
theorem fX8_bid_45 : ftc 45 (me_ci mX8_bid) = some (45, .bipush 126, 2, (0, 0, 0, 0)) := by decide +kernel
theorem fX8_bid_47 : ftc 47 (me_ci mX8_bid) = some (47, .bipush 6, 2, (0, 0, 0, 0)) := by decide +kernel
theorem fX8_bid_49 : ftc 49 (me_ci mX8_bid) = some (49, .iload_n 1, 1, (0, 0, 0, 0)) := by decide +kernel
theorem fX8_bid_50 : ftc 50 (me_ci mX8_bid) = some (50, .imul, 1, (0, 0, 0, 0)) := by decide +kernel
theorem fX8_bid_51 : ftc 51 (me_ci mX8_bid) = some (51, .iadd, 1, (0, 0, 0, 0)) := by decide +kernel
theorem fX8_bid_52 : ftc 52 (me_ci mX8_bid) = some (52, .iconst 2, 1, (0, 0, 0, 0)) := by decide +kernel
theorem fX8_bid_53 : ftc 53 (me_ci mX8_bid) = some (53, .iadd, 1, (0, 0, 0, 0)) := by decide +kernel
theorem fX8_bid_54 : ftc 54 (me_ci mX8_bid) = some (54, .iload_n 2, 1, (0, 0, 0, 0)) := by decide +kernel
theorem fX8_bid_55 : ftc 55 (me_ci mX8_bid) = some (55, .iastore, 1, (0, 0, 0, 0)) := by decide +kernel
theorem fX8_bid_56 : ftc 56 (me_ci mX8_bid) = some (56, .aload_n 0, 1, (0, 0, 0, 0)) := by decide +kernel
theorem fX8_bid_57 : ftc 57 (me_ci mX8_bid) = some (57, .invokevirtual 61, 3, (96, 0, 751, 0)) := by decide +kernel
theorem fX8_bid_60 : ftc 60 (me_ci mX8_bid) = some (60, .ireturn, 1, (0, 0, 0, 0)) := by decide +kernel
theorem pX8_bid : pg 97 = some mX8_bid := by decide +kernel
theorem fX8_onTable_0 : ftc 0 (me_ci mX8_onTable) = some (0, .iconst 0, 1, (0, 0, 0, 0)) := by decide +kernel
theorem fX8_onTable_1 : ftc 1 (me_ci mX8_onTable) = some (1, .istore_n 1, 1, (0, 0, 0, 0)) := by decide +kernel
theorem fX8_onTable_2 : ftc 2 (me_ci mX8_onTable) = some (2, .iconst 0, 1, (0, 0, 0, 0)) := by decide +kernel
theorem fX8_onTable_3 : ftc 3 (me_ci mX8_onTable) = some (3, .istore_n 2, 1, (0, 0, 0, 0)) := by decide +kernel
theorem fX8_onTable_4 : ftc 4 (me_ci mX8_onTable) = some (4, .iload_n 2, 1, (0, 0, 0, 0)) := by decide +kernel
theorem fX8_onTable_5 : ftc 5 (me_ci mX8_onTable) = some (5, .aload_n 0, 1, (0, 0, 0, 0)) := by decide +kernel
theorem fX8_onTable_6 : ftc 6 (me_ci mX8_onTable) = some (6, .getfield 7, 3, (8, 0, 657, 0)) := by decide +kernel
theorem fX8_onTable_9 : ftc 9 (me_ci mX8_onTable) = some (9, .bipush 25, 2, (0, 0, 0, 0)) := by decide +kernel
theorem fX8_onTable_11 : ftc 11 (me_ci mX8_onTable) = some (11, .iaload, 1, (0, 0, 0, 0)) := by decide +kernel
theorem fX8_onTable_12 : ftc 12 (me_ci mX8_onTable) = some (12, .if_icmp .ge 22, 3, (0, 0, 0, 0)) := by decide +kernel
theorem fX8_onTable_15 : ftc 15 (me_ci mX8_onTable) = some (15, .iload_n 1, 1, (0, 0, 0, 0)) := by decide +kernel
theorem fX8_onTable_16 : ftc 16 (me_ci mX8_onTable) = some (16, .aload_n 0, 1, (0, 0, 0, 0)) := by decide +kernel
theorem fX8_onTable_17 : ftc 17 (me_ci mX8_onTable) = some (17, .getfield 7, 3, (8, 0, 657, 0)) := by decide +kernel
theorem fX8_onTable_20 : ftc 20 (me_ci mX8_onTable) = some (20, .sipush 2087, 3, (0, 0, 0, 0)) := by decide +kernel
theorem fX8_onTable_23 : ftc 23 (me_ci mX8_onTable) = some (23, .iload_n 2, 1, (0, 0, 0, 0)) := by decide +kernel
theorem fX8_onTable_24 : ftc 24 (me_ci mX8_onTable) = some (24, .iadd, 1, (0, 0, 0, 0)) := by decide +kernel
theorem fX8_onTable_25 : ftc 25 (me_ci mX8_onTable) = some (25, .iaload, 1, (0, 0, 0, 0)) := by decide +kernel
theorem fX8_onTable_26 : ftc 26 (me_ci mX8_onTable) = some (26, .iadd, 1, (0, 0, 0, 0)) := by decide +kernel
theorem fX8_onTable_27 : ftc 27 (me_ci mX8_onTable) = some (27, .istore_n 1, 1, (0, 0, 0, 0)) := by decide +kernel
theorem fX8_onTable_28 : ftc 28 (me_ci mX8_onTable) = some (28, .iinc 2 1, 3, (0, 0, 0, 0)) := by decide +kernel
theorem fX8_onTable_31 : ftc 31 (me_ci mX8_onTable) = some (31, .goto (-27), 3, (0, 0, 0, 0)) := by decide +kernel
theorem fX8_onTable_34 : ftc 34 (me_ci mX8_onTable) = some (34, .iload_n 1, 1, (0, 0, 0, 0)) := by decide +kernel
theorem fX8_onTable_35 : ftc 35 (me_ci mX8_onTable) = some (35, .ireturn, 1, (0, 0, 0, 0)) := by decide +kernel
theorem pX8_onTable : pg 98 = some mX8_onTable := by decide +kernel
theorem fX8_greatest_0 : ftc 0 (me_ci mX8_greatest) = some (0, .iconst (-1), 1, (0, 0, 0, 0)) := by decide +kernel
theorem fX8_greatest_1 : ftc 1 (me_ci mX8_greatest) = some (1, .istore_n 1, 1, (0, 0, 0, 0)) := by decide +kernel
theorem fX8_greatest_2 : ftc 2 (me_ci mX8_greatest) = some (2, .iconst 0, 1, (0, 0, 0, 0)) := by decide +kernel
theorem fX8_greatest_3 : ftc 3 (me_ci mX8_greatest) = some (3, .istore_n 2, 1, (0, 0, 0, 0)) := by decide +kernel
theorem fX8_greatest_4 : ftc 4 (me_ci mX8_greatest) = some (4, .iload_n 2, 1, (0, 0, 0, 0)) := by decide +kernel
theorem fX8_greatest_5 : ftc 5 (me_ci mX8_greatest) = some (5, .aload_n 0, 1, (0, 0, 0, 0)) := by decide +kernel
theorem fX8_greatest_6 : ftc 6 (me_ci mX8_greatest) = some (6, .getfield 7, 3, (8, 0, 657, 0)) := by decide +kernel
theorem fX8_greatest_9 : ftc 9 (me_ci mX8_greatest) = some (9, .iconst 0, 1, (0, 0, 0, 0)) := by decide +kernel
theorem fX8_greatest_10 : ftc 10 (me_ci mX8_greatest) = some (10, .iaload, 1, (0, 0, 0, 0)) := by decide +kernel
theorem fX8_greatest_11 : ftc 11 (me_ci mX8_greatest) = some (11, .if_icmp .ge 30, 3, (0, 0, 0, 0)) := by decide +kernel
theorem fX8_greatest_14 : ftc 14 (me_ci mX8_greatest) = some (14, .aload_n 0, 1, (0, 0, 0, 0)) := by decide +kernel
theorem fX8_greatest_15 : ftc 15 (me_ci mX8_greatest) = some (15, .iload_n 2, 1, (0, 0, 0, 0)) := by decide +kernel
theorem fX8_greatest_16 : ftc 16 (me_ci mX8_greatest) = some (16, .iconst 2, 1, (0, 0, 0, 0)) := by decide +kernel
theorem fX8_greatest_17 : ftc 17 (me_ci mX8_greatest) = some (17, .invokevirtual 52, 3, (92, 0, 746, 0)) := by decide +kernel
theorem fX8_greatest_20 : ftc 20 (me_ci mX8_greatest) = some (20, .iload_n 1, 1, (0, 0, 0, 0)) := by decide +kernel
theorem fX8_greatest_21 : ftc 21 (me_ci mX8_greatest) = some (21, .if_icmp .le 12, 3, (0, 0, 0, 0)) := by decide +kernel
theorem fX8_greatest_24 : ftc 24 (me_ci mX8_greatest) = some (24, .aload_n 0, 1, (0, 0, 0, 0)) := by decide +kernel
theorem fX8_greatest_25 : ftc 25 (me_ci mX8_greatest) = some (25, .iload_n 2, 1, (0, 0, 0, 0)) := by decide +kernel
theorem fX8_greatest_26 : ftc 26 (me_ci mX8_greatest) = some (26, .iconst 2, 1, (0, 0, 0, 0)) := by decide +kernel
theorem fX8_greatest_27 : ftc 27 (me_ci mX8_greatest) = some (27, .invokevirtual 52, 3, (92, 0, 746, 0)) := by decide +kernel
theorem fX8_greatest_30 : ftc 30 (me_ci mX8_greatest) = some (30, .goto 4, 3, (0, 0, 0, 0)) := by decide +kernel
theorem fX8_greatest_33 : ftc 33 (me_ci mX8_greatest) = some (33, .iload_n 1, 1, (0, 0, 0, 0)) := by decide +kernel
theorem fX8_greatest_34 : ftc 34 (me_ci mX8_greatest) = some (34, .istore_n 1, 1, (0, 0, 0, 0)) := by decide +kernel
theorem fX8_greatest_35 : ftc 35 (me_ci mX8_greatest) = some (35, .iinc 2 1, 3, (0, 0, 0, 0)) := by decide +kernel
theorem fX8_greatest_38 : ftc 38 (me_ci mX8_greatest) = some (38, .goto (-34), 3, (0, 0, 0, 0)) := by decide +kernel
theorem fX8_greatest_41 : ftc 41 (me_ci mX8_greatest) = some (41, .iload_n 1, 1, (0, 0, 0, 0)) := by decide +kernel
theorem fX8_greatest_42 : ftc 42 (me_ci mX8_greatest) = some (42, .ireturn, 1, (0, 0, 0, 0)) := by decide +kernel
theorem pX8_greatest : pg 99 = some mX8_greatest := by decide +kernel
theorem fX8_lays_0 : ftc 0 (me_ci mX8_lays) = some (0, .aload_n 0, 1, (0, 0, 0, 0)) := by decide +kernel
theorem fX8_lays_1 : ftc 1 (me_ci mX8_lays) = some (1, .getfield 7, 3, (8, 0, 657, 0)) := by decide +kernel
theorem fX8_lays_4 : ftc 4 (me_ci mX8_lays) = some (4, .sipush 2087, 3, (0, 0, 0, 0)) := by decide +kernel
theorem fX8_lays_7 : ftc 7 (me_ci mX8_lays) = some (7, .aload_n 0, 1, (0, 0, 0, 0)) := by decide +kernel
theorem fX8_lays_8 : ftc 8 (me_ci mX8_lays) = some (8, .getfield 7, 3, (8, 0, 657, 0)) := by decide +kernel
theorem fX8_lays_11 : ftc 11 (me_ci mX8_lays) = some (11, .bipush 25, 2, (0, 0, 0, 0)) := by decide +kernel
theorem fX8_lays_13 : ftc 13 (me_ci mX8_lays) = some (13, .iaload, 1, (0, 0, 0, 0)) := by decide +kernel
theorem fX8_lays_14 : ftc 14 (me_ci mX8_lays) = some (14, .iadd, 1, (0, 0, 0, 0)) := by decide +kernel
theorem fX8_lays_15 : ftc 15 (me_ci mX8_lays) = some (15, .aload_n 0, 1, (0, 0, 0, 0)) := by decide +kernel
theorem fX8_lays_16 : ftc 16 (me_ci mX8_lays) = some (16, .getfield 7, 3, (8, 0, 657, 0)) := by decide +kernel
theorem fX8_lays_19 : ftc 19 (me_ci mX8_lays) = some (19, .iconst 5, 1, (0, 0, 0, 0)) := by decide +kernel
theorem fX8_lays_20 : ftc 20 (me_ci mX8_lays) = some (20, .iaload, 1, (0, 0, 0, 0)) := by decide +kernel
theorem fX8_lays_21 : ftc 21 (me_ci mX8_lays) = some (21, .iastore, 1, (0, 0, 0, 0)) := by decide +kernel
theorem fX8_lays_22 : ftc 22 (me_ci mX8_lays) = some (22, .aload_n 0, 1, (0, 0, 0, 0)) := by decide +kernel
theorem fX8_lays_23 : ftc 23 (me_ci mX8_lays) = some (23, .getfield 7, 3, (8, 0, 657, 0)) := by decide +kernel
theorem fX8_lays_26 : ftc 26 (me_ci mX8_lays) = some (26, .bipush 25, 2, (0, 0, 0, 0)) := by decide +kernel
theorem fX8_lays_28 : ftc 28 (me_ci mX8_lays) = some (28, .dup2, 1, (0, 0, 0, 0)) := by decide +kernel
theorem fX8_lays_29 : ftc 29 (me_ci mX8_lays) = some (29, .iaload, 1, (0, 0, 0, 0)) := by decide +kernel
theorem fX8_lays_30 : ftc 30 (me_ci mX8_lays) = some (30, .iconst 1, 1, (0, 0, 0, 0)) := by decide +kernel
theorem fX8_lays_31 : ftc 31 (me_ci mX8_lays) = some (31, .iadd, 1, (0, 0, 0, 0)) := by decide +kernel
theorem fX8_lays_32 : ftc 32 (me_ci mX8_lays) = some (32, .iastore, 1, (0, 0, 0, 0)) := by decide +kernel
theorem fX8_lays_33 : ftc 33 (me_ci mX8_lays) = some (33, .aload_n 0, 1, (0, 0, 0, 0)) := by decide +kernel
theorem fX8_lays_34 : ftc 34 (me_ci mX8_lays) = some (34, .getfield 7, 3, (8, 0, 657, 0)) := by decide +kernel
theorem fX8_lays_37 : ftc 37 (me_ci mX8_lays) = some (37, .iconst 4, 1, (0, 0, 0, 0)) := by decide +kernel
theorem fX8_lays_38 : ftc 38 (me_ci mX8_lays) = some (38, .dup2, 1, (0, 0, 0, 0)) := by decide +kernel
theorem fX8_lays_39 : ftc 39 (me_ci mX8_lays) = some (39, .iaload, 1, (0, 0, 0, 0)) := by decide +kernel
theorem fX8_lays_40 : ftc 40 (me_ci mX8_lays) = some (40, .iconst 1, 1, (0, 0, 0, 0)) := by decide +kernel
theorem fX8_lays_41 : ftc 41 (me_ci mX8_lays) = some (41, .isub, 1, (0, 0, 0, 0)) := by decide +kernel
theorem fX8_lays_42 : ftc 42 (me_ci mX8_lays) = some (42, .iastore, 1, (0, 0, 0, 0)) := by decide +kernel
theorem fX8_lays_43 : ftc 43 (me_ci mX8_lays) = some (43, .iconst 0, 1, (0, 0, 0, 0)) := by decide +kernel
theorem fX8_lays_44 : ftc 44 (me_ci mX8_lays) = some (44, .istore_n 1, 1, (0, 0, 0, 0)) := by decide +kernel
theorem fX8_lays_45 : ftc 45 (me_ci mX8_lays) = some (45, .iload_n 1, 1, (0, 0, 0, 0)) := by decide +kernel
theorem fX8_lays_46 : ftc 46 (me_ci mX8_lays) = some (46, .aload_n 0, 1, (0, 0, 0, 0)) := by decide +kernel
theorem fX8_lays_47 : ftc 47 (me_ci mX8_lays) = some (47, .getfield 7, 3, (8, 0, 657, 0)) := by decide +kernel
theorem fX8_lays_50 : ftc 50 (me_ci mX8_lays) = some (50, .iconst 4, 1, (0, 0, 0, 0)) := by decide +kernel
theorem fX8_lays_51 : ftc 51 (me_ci mX8_lays) = some (51, .iaload, 1, (0, 0, 0, 0)) := by decide +kernel
theorem fX8_lays_52 : ftc 52 (me_ci mX8_lays) = some (52, .if_icmp .ge 27, 3, (0, 0, 0, 0)) := by decide +kernel
theorem fX8_lays_55 : ftc 55 (me_ci mX8_lays) = some (55, .aload_n 0, 1, (0, 0, 0, 0)) := by decide +kernel
theorem fX8_lays_56 : ftc 56 (me_ci mX8_lays) = some (56, .getfield 7, 3, (8, 0, 657, 0)) := by decide +kernel
theorem fX8_lays_59 : ftc 59 (me_ci mX8_lays) = some (59, .iconst 5, 1, (0, 0, 0, 0)) := by decide +kernel
theorem fX8_lays_60 : ftc 60 (me_ci mX8_lays) = some (60, .iload_n 1, 1, (0, 0, 0, 0)) := by decide +kernel
theorem fX8_lays_61 : ftc 61 (me_ci mX8_lays) = some (61, .iadd, 1, (0, 0, 0, 0)) := by decide +kernel
theorem fX8_lays_62 : ftc 62 (me_ci mX8_lays) = some (62, .aload_n 0, 1, (0, 0, 0, 0)) := by decide +kernel
theorem fX8_lays_63 : ftc 63 (me_ci mX8_lays) = some (63, .getfield 7, 3, (8, 0, 657, 0)) := by decide +kernel
theorem fX8_lays_66 : ftc 66 (me_ci mX8_lays) = some (66, .iconst 5, 1, (0, 0, 0, 0)) := by decide +kernel
theorem fX8_lays_67 : ftc 67 (me_ci mX8_lays) = some (67, .iload_n 1, 1, (0, 0, 0, 0)) := by decide +kernel
theorem fX8_lays_68 : ftc 68 (me_ci mX8_lays) = some (68, .iadd, 1, (0, 0, 0, 0)) := by decide +kernel
theorem fX8_lays_69 : ftc 69 (me_ci mX8_lays) = some (69, .iconst 1, 1, (0, 0, 0, 0)) := by decide +kernel
theorem fX8_lays_70 : ftc 70 (me_ci mX8_lays) = some (70, .iadd, 1, (0, 0, 0, 0)) := by decide +kernel
theorem fX8_lays_71 : ftc 71 (me_ci mX8_lays) = some (71, .iaload, 1, (0, 0, 0, 0)) := by decide +kernel
theorem fX8_lays_72 : ftc 72 (me_ci mX8_lays) = some (72, .iastore, 1, (0, 0, 0, 0)) := by decide +kernel
theorem fX8_lays_73 : ftc 73 (me_ci mX8_lays) = some (73, .iinc 1 1, 3, (0, 0, 0, 0)) := by decide +kernel
theorem fX8_lays_76 : ftc 76 (me_ci mX8_lays) = some (76, .goto (-31), 3, (0, 0, 0, 0)) := by decide +kernel
theorem fX8_lays_79 : ftc 79 (me_ci mX8_lays) = some (79, .return_, 1, (0, 0, 0, 0)) := by decide +kernel
theorem pX8_lays : pg 100 = some mX8_lays := by decide +kernel
theorem fX8_pays_0 : ftc 0 (me_ci mX8_pays) = some (0, .aload_n 0, 1, (0, 0, 0, 0)) := by decide +kernel
theorem fX8_pays_1 : ftc 1 (me_ci mX8_pays) = some (1, .getfield 7, 3, (8, 0, 657, 0)) := by decide +kernel
theorem fX8_pays_4 : ftc 4 (me_ci mX8_pays) = some (4, .bipush 126, 2, (0, 0, 0, 0)) := by decide +kernel
theorem fX8_pays_6 : ftc 6 (me_ci mX8_pays) = some (6, .bipush 6, 2, (0, 0, 0, 0)) := by decide +kernel
theorem fX8_pays_8 : ftc 8 (me_ci mX8_pays) = some (8, .iload_n 1, 1, (0, 0, 0, 0)) := by decide +kernel
theorem fX8_pays_9 : ftc 9 (me_ci mX8_pays) = some (9, .imul, 1, (0, 0, 0, 0)) := by decide +kernel
theorem fX8_pays_10 : ftc 10 (me_ci mX8_pays) = some (10, .iadd, 1, (0, 0, 0, 0)) := by decide +kernel
theorem fX8_pays_11 : ftc 11 (me_ci mX8_pays) = some (11, .iconst 0, 1, (0, 0, 0, 0)) := by decide +kernel
theorem fX8_pays_12 : ftc 12 (me_ci mX8_pays) = some (12, .iadd, 1, (0, 0, 0, 0)) := by decide +kernel
theorem fX8_pays_13 : ftc 13 (me_ci mX8_pays) = some (13, .dup2, 1, (0, 0, 0, 0)) := by decide +kernel
theorem fX8_pays_14 : ftc 14 (me_ci mX8_pays) = some (14, .iaload, 1, (0, 0, 0, 0)) := by decide +kernel
theorem fX8_pays_15 : ftc 15 (me_ci mX8_pays) = some (15, .iload_n 2, 1, (0, 0, 0, 0)) := by decide +kernel
theorem fX8_pays_16 : ftc 16 (me_ci mX8_pays) = some (16, .isub, 1, (0, 0, 0, 0)) := by decide +kernel
theorem fX8_pays_17 : ftc 17 (me_ci mX8_pays) = some (17, .iastore, 1, (0, 0, 0, 0)) := by decide +kernel
theorem fX8_pays_18 : ftc 18 (me_ci mX8_pays) = some (18, .aload_n 0, 1, (0, 0, 0, 0)) := by decide +kernel
theorem fX8_pays_19 : ftc 19 (me_ci mX8_pays) = some (19, .getfield 7, 3, (8, 0, 657, 0)) := by decide +kernel
theorem fX8_pays_22 : ftc 22 (me_ci mX8_pays) = some (22, .bipush 126, 2, (0, 0, 0, 0)) := by decide +kernel
theorem fX8_pays_24 : ftc 24 (me_ci mX8_pays) = some (24, .bipush 6, 2, (0, 0, 0, 0)) := by decide +kernel
theorem fX8_pays_26 : ftc 26 (me_ci mX8_pays) = some (26, .iload_n 1, 1, (0, 0, 0, 0)) := by decide +kernel
theorem fX8_pays_27 : ftc 27 (me_ci mX8_pays) = some (27, .imul, 1, (0, 0, 0, 0)) := by decide +kernel
theorem fX8_pays_28 : ftc 28 (me_ci mX8_pays) = some (28, .iadd, 1, (0, 0, 0, 0)) := by decide +kernel
theorem fX8_pays_29 : ftc 29 (me_ci mX8_pays) = some (29, .iconst 4, 1, (0, 0, 0, 0)) := by decide +kernel
theorem fX8_pays_30 : ftc 30 (me_ci mX8_pays) = some (30, .iadd, 1, (0, 0, 0, 0)) := by decide +kernel
theorem fX8_pays_31 : ftc 31 (me_ci mX8_pays) = some (31, .dup2, 1, (0, 0, 0, 0)) := by decide +kernel
theorem fX8_pays_32 : ftc 32 (me_ci mX8_pays) = some (32, .iaload, 1, (0, 0, 0, 0)) := by decide +kernel
theorem fX8_pays_33 : ftc 33 (me_ci mX8_pays) = some (33, .iload_n 2, 1, (0, 0, 0, 0)) := by decide +kernel
theorem fX8_pays_34 : ftc 34 (me_ci mX8_pays) = some (34, .iadd, 1, (0, 0, 0, 0)) := by decide +kernel
theorem fX8_pays_35 : ftc 35 (me_ci mX8_pays) = some (35, .iastore, 1, (0, 0, 0, 0)) := by decide +kernel
theorem fX8_pays_36 : ftc 36 (me_ci mX8_pays) = some (36, .aload_n 0, 1, (0, 0, 0, 0)) := by decide +kernel
theorem fX8_pays_37 : ftc 37 (me_ci mX8_pays) = some (37, .getfield 7, 3, (8, 0, 657, 0)) := by decide +kernel
theorem fX8_pays_40 : ftc 40 (me_ci mX8_pays) = some (40, .iconst 1, 1, (0, 0, 0, 0)) := by decide +kernel
theorem fX8_pays_41 : ftc 41 (me_ci mX8_pays) = some (41, .dup2, 1, (0, 0, 0, 0)) := by decide +kernel
theorem fX8_pays_42 : ftc 42 (me_ci mX8_pays) = some (42, .iaload, 1, (0, 0, 0, 0)) := by decide +kernel
theorem fX8_pays_43 : ftc 43 (me_ci mX8_pays) = some (43, .iload_n 2, 1, (0, 0, 0, 0)) := by decide +kernel
theorem fX8_pays_44 : ftc 44 (me_ci mX8_pays) = some (44, .iadd, 1, (0, 0, 0, 0)) := by decide +kernel
theorem fX8_pays_45 : ftc 45 (me_ci mX8_pays) = some (45, .iastore, 1, (0, 0, 0, 0)) := by decide +kernel
theorem fX8_pays_46 : ftc 46 (me_ci mX8_pays) = some (46, .return_, 1, (0, 0, 0, 0)) := by decide +kernel
theorem pX8_pays : pg 101 = some mX8_pays := by decide +kernel
theorem fX8_least_0 : ftc 0 (me_ci mX8_least) = some (0, .iload_n 0, 1, (0, 0, 0, 0)) := by decide +kernel
theorem fX8_least_1 : ftc 1 (me_ci mX8_least) = some (1, .iload_n 1, 1, (0, 0, 0, 0)) := by decide +kernel
theorem fX8_least_2 : ftc 2 (me_ci mX8_least) = some (2, .if_icmp .ge 7, 3, (0, 0, 0, 0)) := by decide +kernel
theorem fX8_least_5 : ftc 5 (me_ci mX8_least) = some (5, .iload_n 0, 1, (0, 0, 0, 0)) := by decide +kernel
theorem fX8_least_6 : ftc 6 (me_ci mX8_least) = some (6, .goto 4, 3, (0, 0, 0, 0)) := by decide +kernel
theorem fX8_least_9 : ftc 9 (me_ci mX8_least) = some (9, .iload_n 1, 1, (0, 0, 0, 0)) := by decide +kernel
theorem fX8_least_10 : ftc 10 (me_ci mX8_least) = some (10, .ireturn, 1, (0, 0, 0, 0)) := by decide +kernel
theorem pX8_least : pg 102 = some mX8_least := by decide +kernel
theorem fX8_notes_0 : ftc 0 (me_ci mX8_notes) = some (0, .sipush 151, 3, (0, 0, 0, 0)) := by decide +kernel
theorem fX8_notes_3 : ftc 3 (me_ci mX8_notes) = some (3, .istore_n 3, 1, (0, 0, 0, 0)) := by decide +kernel
theorem fX8_notes_4 : ftc 4 (me_ci mX8_notes) = some (4, .iload_n 3, 1, (0, 0, 0, 0)) := by decide +kernel
theorem fX8_notes_5 : ftc 5 (me_ci mX8_notes) = some (5, .sipush 151, 3, (0, 0, 0, 0)) := by decide +kernel
theorem fX8_notes_8 : ftc 8 (me_ci mX8_notes) = some (8, .iconst 4, 1, (0, 0, 0, 0)) := by decide +kernel
theorem fX8_notes_9 : ftc 9 (me_ci mX8_notes) = some (9, .aload_n 0, 1, (0, 0, 0, 0)) := by decide +kernel
theorem fX8_notes_10 : ftc 10 (me_ci mX8_notes) = some (10, .getfield 7, 3, (8, 0, 657, 0)) := by decide +kernel
theorem fX8_notes_13 : ftc 13 (me_ci mX8_notes) = some (13, .sipush 150, 3, (0, 0, 0, 0)) := by decide +kernel
theorem fX8_notes_16 : ftc 16 (me_ci mX8_notes) = some (16, .iaload, 1, (0, 0, 0, 0)) := by decide +kernel
theorem fX8_notes_17 : ftc 17 (me_ci mX8_notes) = some (17, .imul, 1, (0, 0, 0, 0)) := by decide +kernel
theorem fX8_notes_18 : ftc 18 (me_ci mX8_notes) = some (18, .iadd, 1, (0, 0, 0, 0)) := by decide +kernel
theorem fX8_notes_19 : ftc 19 (me_ci mX8_notes) = some (19, .if_icmp .ge 36, 3, (0, 0, 0, 0)) := by decide +kernel
theorem fX8_notes_22 : ftc 22 (me_ci mX8_notes) = some (22, .aload_n 0, 1, (0, 0, 0, 0)) := by decide +kernel
theorem fX8_notes_23 : ftc 23 (me_ci mX8_notes) = some (23, .getfield 7, 3, (8, 0, 657, 0)) := by decide +kernel
theorem fX8_notes_26 : ftc 26 (me_ci mX8_notes) = some (26, .iload_n 3, 1, (0, 0, 0, 0)) := by decide +kernel
theorem fX8_notes_27 : ftc 27 (me_ci mX8_notes) = some (27, .iaload, 1, (0, 0, 0, 0)) := by decide +kernel
theorem fX8_notes_28 : ftc 28 (me_ci mX8_notes) = some (28, .iload_n 1, 1, (0, 0, 0, 0)) := by decide +kernel
theorem fX8_notes_29 : ftc 29 (me_ci mX8_notes) = some (29, .if_icmp .ne 20, 3, (0, 0, 0, 0)) := by decide +kernel
theorem fX8_notes_32 : ftc 32 (me_ci mX8_notes) = some (32, .aload_n 0, 1, (0, 0, 0, 0)) := by decide +kernel
theorem fX8_notes_33 : ftc 33 (me_ci mX8_notes) = some (33, .getfield 7, 3, (8, 0, 657, 0)) := by decide +kernel
theorem fX8_notes_36 : ftc 36 (me_ci mX8_notes) = some (36, .iload_n 3, 1, (0, 0, 0, 0)) := by decide +kernel
theorem fX8_notes_37 : ftc 37 (me_ci mX8_notes) = some (37, .iconst 1, 1, (0, 0, 0, 0)) := by decide +kernel
theorem fX8_notes_38 : ftc 38 (me_ci mX8_notes) = some (38, .iadd, 1, (0, 0, 0, 0)) := by decide +kernel
theorem fX8_notes_39 : ftc 39 (me_ci mX8_notes) = some (39, .iaload, 1, (0, 0, 0, 0)) := by decide +kernel
theorem fX8_notes_40 : ftc 40 (me_ci mX8_notes) = some (40, .aload_n 0, 1, (0, 0, 0, 0)) := by decide +kernel
theorem fX8_notes_41 : ftc 41 (me_ci mX8_notes) = some (41, .iload_n 1, 1, (0, 0, 0, 0)) := by decide +kernel
theorem fX8_notes_42 : ftc 42 (me_ci mX8_notes) = some (42, .iconst 2, 1, (0, 0, 0, 0)) := by decide +kernel
theorem fX8_notes_43 : ftc 43 (me_ci mX8_notes) = some (43, .invokevirtual 52, 3, (92, 0, 746, 0)) := by decide +kernel
theorem fX8_notes_46 : ftc 46 (me_ci mX8_notes) = some (46, .if_icmp .eq 9, 3, (0, 0, 0, 0)) := by decide +kernel
theorem fX8_notes_49 : ftc 49 (me_ci mX8_notes) = some (49, .iinc 3 4, 3, (0, 0, 0, 0)) := by decide +kernel
theorem fX8_notes_52 : ftc 52 (me_ci mX8_notes) = some (52, .goto (-48), 3, (0, 0, 0, 0)) := by decide +kernel
theorem fX8_notes_55 : ftc 55 (me_ci mX8_notes) = some (55, .iload_n 3, 1, (0, 0, 0, 0)) := by decide +kernel
theorem fX8_notes_56 : ftc 56 (me_ci mX8_notes) = some (56, .sipush 151, 3, (0, 0, 0, 0)) := by decide +kernel
theorem fX8_notes_59 : ftc 59 (me_ci mX8_notes) = some (59, .iconst 4, 1, (0, 0, 0, 0)) := by decide +kernel
theorem fX8_notes_60 : ftc 60 (me_ci mX8_notes) = some (60, .aload_n 0, 1, (0, 0, 0, 0)) := by decide +kernel
theorem fX8_notes_61 : ftc 61 (me_ci mX8_notes) = some (61, .getfield 7, 3, (8, 0, 657, 0)) := by decide +kernel
theorem fX8_notes_64 : ftc 64 (me_ci mX8_notes) = some (64, .sipush 150, 3, (0, 0, 0, 0)) := by decide +kernel
theorem fX8_notes_67 : ftc 67 (me_ci mX8_notes) = some (67, .iaload, 1, (0, 0, 0, 0)) := by decide +kernel
theorem fX8_notes_68 : ftc 68 (me_ci mX8_notes) = some (68, .imul, 1, (0, 0, 0, 0)) := by decide +kernel
theorem fX8_notes_69 : ftc 69 (me_ci mX8_notes) = some (69, .iadd, 1, (0, 0, 0, 0)) := by decide +kernel
theorem fX8_notes_70 : ftc 70 (me_ci mX8_notes) = some (70, .if_icmp .ne 54, 3, (0, 0, 0, 0)) := by decide +kernel
theorem fX8_notes_73 : ftc 73 (me_ci mX8_notes) = some (73, .aload_n 0, 1, (0, 0, 0, 0)) := by decide +kernel
theorem fX8_notes_74 : ftc 74 (me_ci mX8_notes) = some (74, .getfield 7, 3, (8, 0, 657, 0)) := by decide +kernel
theorem fX8_notes_77 : ftc 77 (me_ci mX8_notes) = some (77, .iload_n 3, 1, (0, 0, 0, 0)) := by decide +kernel
theorem fX8_notes_78 : ftc 78 (me_ci mX8_notes) = some (78, .iload_n 1, 1, (0, 0, 0, 0)) := by decide +kernel
theorem fX8_notes_79 : ftc 79 (me_ci mX8_notes) = some (79, .iastore, 1, (0, 0, 0, 0)) := by decide +kernel
theorem fX8_notes_80 : ftc 80 (me_ci mX8_notes) = some (80, .aload_n 0, 1, (0, 0, 0, 0)) := by decide +kernel
theorem fX8_notes_81 : ftc 81 (me_ci mX8_notes) = some (81, .getfield 7, 3, (8, 0, 657, 0)) := by decide +kernel
theorem fX8_notes_84 : ftc 84 (me_ci mX8_notes) = some (84, .iload_n 3, 1, (0, 0, 0, 0)) := by decide +kernel
theorem fX8_notes_85 : ftc 85 (me_ci mX8_notes) = some (85, .iconst 1, 1, (0, 0, 0, 0)) := by decide +kernel
theorem fX8_notes_86 : ftc 86 (me_ci mX8_notes) = some (86, .iadd, 1, (0, 0, 0, 0)) := by decide +kernel
theorem fX8_notes_87 : ftc 87 (me_ci mX8_notes) = some (87, .aload_n 0, 1, (0, 0, 0, 0)) := by decide +kernel
theorem fX8_notes_88 : ftc 88 (me_ci mX8_notes) = some (88, .iload_n 1, 1, (0, 0, 0, 0)) := by decide +kernel
theorem fX8_notes_89 : ftc 89 (me_ci mX8_notes) = some (89, .iconst 2, 1, (0, 0, 0, 0)) := by decide +kernel
theorem fX8_notes_90 : ftc 90 (me_ci mX8_notes) = some (90, .invokevirtual 52, 3, (92, 0, 746, 0)) := by decide +kernel
theorem fX8_notes_93 : ftc 93 (me_ci mX8_notes) = some (93, .iastore, 1, (0, 0, 0, 0)) := by decide +kernel
theorem fX8_notes_94 : ftc 94 (me_ci mX8_notes) = some (94, .aload_n 0, 1, (0, 0, 0, 0)) := by decide +kernel
theorem fX8_notes_95 : ftc 95 (me_ci mX8_notes) = some (95, .getfield 7, 3, (8, 0, 657, 0)) := by decide +kernel
theorem fX8_notes_98 : ftc 98 (me_ci mX8_notes) = some (98, .iload_n 3, 1, (0, 0, 0, 0)) := by decide +kernel
theorem fX8_notes_99 : ftc 99 (me_ci mX8_notes) = some (99, .iconst 2, 1, (0, 0, 0, 0)) := by decide +kernel
theorem fX8_notes_100 : ftc 100 (me_ci mX8_notes) = some (100, .iadd, 1, (0, 0, 0, 0)) := by decide +kernel
theorem fX8_notes_101 : ftc 101 (me_ci mX8_notes) = some (101, .iconst 0, 1, (0, 0, 0, 0)) := by decide +kernel
theorem fX8_notes_102 : ftc 102 (me_ci mX8_notes) = some (102, .iastore, 1, (0, 0, 0, 0)) := by decide +kernel
theorem fX8_notes_103 : ftc 103 (me_ci mX8_notes) = some (103, .aload_n 0, 1, (0, 0, 0, 0)) := by decide +kernel
theorem fX8_notes_104 : ftc 104 (me_ci mX8_notes) = some (104, .getfield 7, 3, (8, 0, 657, 0)) := by decide +kernel
theorem fX8_notes_107 : ftc 107 (me_ci mX8_notes) = some (107, .iload_n 3, 1, (0, 0, 0, 0)) := by decide +kernel
theorem fX8_notes_108 : ftc 108 (me_ci mX8_notes) = some (108, .iconst 3, 1, (0, 0, 0, 0)) := by decide +kernel
theorem fX8_notes_109 : ftc 109 (me_ci mX8_notes) = some (109, .iadd, 1, (0, 0, 0, 0)) := by decide +kernel
theorem fX8_notes_110 : ftc 110 (me_ci mX8_notes) = some (110, .iconst 0, 1, (0, 0, 0, 0)) := by decide +kernel
theorem fX8_notes_111 : ftc 111 (me_ci mX8_notes) = some (111, .iastore, 1, (0, 0, 0, 0)) := by decide +kernel
theorem fX8_notes_112 : ftc 112 (me_ci mX8_notes) = some (112, .aload_n 0, 1, (0, 0, 0, 0)) := by decide +kernel
theorem fX8_notes_113 : ftc 113 (me_ci mX8_notes) = some (113, .getfield 7, 3, (8, 0, 657, 0)) := by decide +kernel
theorem fX8_notes_116 : ftc 116 (me_ci mX8_notes) = some (116, .sipush 150, 3, (0, 0, 0, 0)) := by decide +kernel
theorem fX8_notes_119 : ftc 119 (me_ci mX8_notes) = some (119, .dup2, 1, (0, 0, 0, 0)) := by decide +kernel
theorem fX8_notes_120 : ftc 120 (me_ci mX8_notes) = some (120, .iaload, 1, (0, 0, 0, 0)) := by decide +kernel
theorem fX8_notes_121 : ftc 121 (me_ci mX8_notes) = some (121, .iconst 1, 1, (0, 0, 0, 0)) := by decide +kernel
theorem fX8_notes_122 : ftc 122 (me_ci mX8_notes) = some (122, .iadd, 1, (0, 0, 0, 0)) := by decide +kernel
theorem fX8_notes_123 : ftc 123 (me_ci mX8_notes) = some (123, .iastore, 1, (0, 0, 0, 0)) := by decide +kernel
theorem fX8_notes_124 : ftc 124 (me_ci mX8_notes) = some (124, .aload_n 0, 1, (0, 0, 0, 0)) := by decide +kernel
theorem fX8_notes_125 : ftc 125 (me_ci mX8_notes) = some (125, .getfield 7, 3, (8, 0, 657, 0)) := by decide +kernel
theorem fX8_notes_128 : ftc 128 (me_ci mX8_notes) = some (128, .iload_n 3, 1, (0, 0, 0, 0)) := by decide +kernel
theorem fX8_notes_129 : ftc 129 (me_ci mX8_notes) = some (129, .iconst 2, 1, (0, 0, 0, 0)) := by decide +kernel
theorem fX8_notes_130 : ftc 130 (me_ci mX8_notes) = some (130, .iadd, 1, (0, 0, 0, 0)) := by decide +kernel
theorem fX8_notes_131 : ftc 131 (me_ci mX8_notes) = some (131, .dup2, 1, (0, 0, 0, 0)) := by decide +kernel
theorem fX8_notes_132 : ftc 132 (me_ci mX8_notes) = some (132, .iaload, 1, (0, 0, 0, 0)) := by decide +kernel
theorem fX8_notes_133 : ftc 133 (me_ci mX8_notes) = some (133, .iconst 1, 1, (0, 0, 0, 0)) := by decide +kernel
theorem fX8_notes_134 : ftc 134 (me_ci mX8_notes) = some (134, .iadd, 1, (0, 0, 0, 0)) := by decide +kernel
theorem fX8_notes_135 : ftc 135 (me_ci mX8_notes) = some (135, .iastore, 1, (0, 0, 0, 0)) := by decide +kernel
theorem fX8_notes_136 : ftc 136 (me_ci mX8_notes) = some (136, .aload_n 0, 1, (0, 0, 0, 0)) := by decide +kernel
theorem fX8_notes_137 : ftc 137 (me_ci mX8_notes) = some (137, .getfield 7, 3, (8, 0, 657, 0)) := by decide +kernel
theorem fX8_notes_140 : ftc 140 (me_ci mX8_notes) = some (140, .iload_n 3, 1, (0, 0, 0, 0)) := by decide +kernel
theorem fX8_notes_141 : ftc 141 (me_ci mX8_notes) = some (141, .iconst 3, 1, (0, 0, 0, 0)) := by decide +kernel
theorem fX8_notes_142 : ftc 142 (me_ci mX8_notes) = some (142, .iadd, 1, (0, 0, 0, 0)) := by decide +kernel
theorem fX8_notes_143 : ftc 143 (me_ci mX8_notes) = some (143, .dup2, 1, (0, 0, 0, 0)) := by decide +kernel
theorem fX8_notes_144 : ftc 144 (me_ci mX8_notes) = some (144, .iaload, 1, (0, 0, 0, 0)) := by decide +kernel
theorem fX8_notes_145 : ftc 145 (me_ci mX8_notes) = some (145, .iload_n 2, 1, (0, 0, 0, 0)) := by decide +kernel
theorem fX8_notes_146 : ftc 146 (me_ci mX8_notes) = some (146, .ifCond .eq 7, 3, (0, 0, 0, 0)) := by decide +kernel
theorem fX8_notes_149 : ftc 149 (me_ci mX8_notes) = some (149, .iconst 1, 1, (0, 0, 0, 0)) := by decide +kernel
theorem fX8_notes_150 : ftc 150 (me_ci mX8_notes) = some (150, .goto 4, 3, (0, 0, 0, 0)) := by decide +kernel
theorem fX8_notes_153 : ftc 153 (me_ci mX8_notes) = some (153, .iconst 0, 1, (0, 0, 0, 0)) := by decide +kernel
theorem fX8_notes_154 : ftc 154 (me_ci mX8_notes) = some (154, .iadd, 1, (0, 0, 0, 0)) := by decide +kernel
theorem fX8_notes_155 : ftc 155 (me_ci mX8_notes) = some (155, .iastore, 1, (0, 0, 0, 0)) := by decide +kernel
theorem fX8_notes_156 : ftc 156 (me_ci mX8_notes) = some (156, .return_, 1, (0, 0, 0, 0)) := by decide +kernel
theorem pX8_notes : pg 103 = some mX8_notes := by decide +kernel
theorem fX8_keeps_0 : ftc 0 (me_ci mX8_keeps) = some (0, .bipush 95, 2, (0, 0, 0, 0)) := by decide +kernel
theorem fX8_keeps_2 : ftc 2 (me_ci mX8_keeps) = some (2, .istore 5, 2, (0, 0, 0, 0)) := by decide +kernel
theorem fX8_keeps_4 : ftc 4 (me_ci mX8_keeps) = some (4, .iload 5, 2, (0, 0, 0, 0)) := by decide +kernel
theorem fX8_keeps_6 : ftc 6 (me_ci mX8_keeps) = some (6, .bipush 8, 2, (0, 0, 0, 0)) := by decide +kernel
theorem fX8_keeps_8 : ftc 8 (me_ci mX8_keeps) = some (8, .if_icmp .lt 32, 3, (0, 0, 0, 0)) := by decide +kernel
theorem fX8_keeps_11 : ftc 11 (me_ci mX8_keeps) = some (11, .aload_n 0, 1, (0, 0, 0, 0)) := by decide +kernel
theorem fX8_keeps_12 : ftc 12 (me_ci mX8_keeps) = some (12, .getfield 7, 3, (8, 0, 657, 0)) := by decide +kernel
theorem fX8_keeps_15 : ftc 15 (me_ci mX8_keeps) = some (15, .bipush 30, 2, (0, 0, 0, 0)) := by decide +kernel
theorem fX8_keeps_17 : ftc 17 (me_ci mX8_keeps) = some (17, .iload 5, 2, (0, 0, 0, 0)) := by decide +kernel
theorem fX8_keeps_19 : ftc 19 (me_ci mX8_keeps) = some (19, .iadd, 1, (0, 0, 0, 0)) := by decide +kernel
theorem fX8_keeps_20 : ftc 20 (me_ci mX8_keeps) = some (20, .aload_n 0, 1, (0, 0, 0, 0)) := by decide +kernel
theorem fX8_keeps_21 : ftc 21 (me_ci mX8_keeps) = some (21, .getfield 7, 3, (8, 0, 657, 0)) := by decide +kernel
theorem fX8_keeps_24 : ftc 24 (me_ci mX8_keeps) = some (24, .bipush 30, 2, (0, 0, 0, 0)) := by decide +kernel
theorem fX8_keeps_26 : ftc 26 (me_ci mX8_keeps) = some (26, .iload 5, 2, (0, 0, 0, 0)) := by decide +kernel
theorem fX8_keeps_28 : ftc 28 (me_ci mX8_keeps) = some (28, .iadd, 1, (0, 0, 0, 0)) := by decide +kernel
theorem fX8_keeps_29 : ftc 29 (me_ci mX8_keeps) = some (29, .bipush 8, 2, (0, 0, 0, 0)) := by decide +kernel
theorem fX8_keeps_31 : ftc 31 (me_ci mX8_keeps) = some (31, .isub, 1, (0, 0, 0, 0)) := by decide +kernel
theorem fX8_keeps_32 : ftc 32 (me_ci mX8_keeps) = some (32, .iaload, 1, (0, 0, 0, 0)) := by decide +kernel
theorem fX8_keeps_33 : ftc 33 (me_ci mX8_keeps) = some (33, .iastore, 1, (0, 0, 0, 0)) := by decide +kernel
theorem fX8_keeps_34 : ftc 34 (me_ci mX8_keeps) = some (34, .iinc 5 (-1), 3, (0, 0, 0, 0)) := by decide +kernel
theorem fX8_keeps_37 : ftc 37 (me_ci mX8_keeps) = some (37, .goto (-33), 3, (0, 0, 0, 0)) := by decide +kernel
theorem fX8_keeps_40 : ftc 40 (me_ci mX8_keeps) = some (40, .aload_n 0, 1, (0, 0, 0, 0)) := by decide +kernel
theorem fX8_keeps_41 : ftc 41 (me_ci mX8_keeps) = some (41, .getfield 7, 3, (8, 0, 657, 0)) := by decide +kernel
theorem fX8_keeps_44 : ftc 44 (me_ci mX8_keeps) = some (44, .bipush 30, 2, (0, 0, 0, 0)) := by decide +kernel
theorem fX8_keeps_46 : ftc 46 (me_ci mX8_keeps) = some (46, .iload_n 1, 1, (0, 0, 0, 0)) := by decide +kernel
theorem fX8_keeps_47 : ftc 47 (me_ci mX8_keeps) = some (47, .iastore, 1, (0, 0, 0, 0)) := by decide +kernel
theorem fX8_keeps_48 : ftc 48 (me_ci mX8_keeps) = some (48, .aload_n 0, 1, (0, 0, 0, 0)) := by decide +kernel
theorem fX8_keeps_49 : ftc 49 (me_ci mX8_keeps) = some (49, .getfield 7, 3, (8, 0, 657, 0)) := by decide +kernel
theorem fX8_keeps_52 : ftc 52 (me_ci mX8_keeps) = some (52, .bipush 31, 2, (0, 0, 0, 0)) := by decide +kernel
theorem fX8_keeps_54 : ftc 54 (me_ci mX8_keeps) = some (54, .iload_n 2, 1, (0, 0, 0, 0)) := by decide +kernel
theorem fX8_keeps_55 : ftc 55 (me_ci mX8_keeps) = some (55, .iastore, 1, (0, 0, 0, 0)) := by decide +kernel
theorem fX8_keeps_56 : ftc 56 (me_ci mX8_keeps) = some (56, .aload_n 0, 1, (0, 0, 0, 0)) := by decide +kernel
theorem fX8_keeps_57 : ftc 57 (me_ci mX8_keeps) = some (57, .getfield 7, 3, (8, 0, 657, 0)) := by decide +kernel
theorem fX8_keeps_60 : ftc 60 (me_ci mX8_keeps) = some (60, .bipush 32, 2, (0, 0, 0, 0)) := by decide +kernel
theorem fX8_keeps_62 : ftc 62 (me_ci mX8_keeps) = some (62, .iload_n 3, 1, (0, 0, 0, 0)) := by decide +kernel
theorem fX8_keeps_63 : ftc 63 (me_ci mX8_keeps) = some (63, .iastore, 1, (0, 0, 0, 0)) := by decide +kernel
theorem fX8_keeps_64 : ftc 64 (me_ci mX8_keeps) = some (64, .aload_n 0, 1, (0, 0, 0, 0)) := by decide +kernel
theorem fX8_keeps_65 : ftc 65 (me_ci mX8_keeps) = some (65, .getfield 7, 3, (8, 0, 657, 0)) := by decide +kernel
theorem fX8_keeps_68 : ftc 68 (me_ci mX8_keeps) = some (68, .bipush 33, 2, (0, 0, 0, 0)) := by decide +kernel
theorem fX8_keeps_70 : ftc 70 (me_ci mX8_keeps) = some (70, .iload 4, 2, (0, 0, 0, 0)) := by decide +kernel
theorem fX8_keeps_72 : ftc 72 (me_ci mX8_keeps) = some (72, .iastore, 1, (0, 0, 0, 0)) := by decide +kernel
theorem fX8_keeps_73 : ftc 73 (me_ci mX8_keeps) = some (73, .iconst 0, 1, (0, 0, 0, 0)) := by decide +kernel
theorem fX8_keeps_74 : ftc 74 (me_ci mX8_keeps) = some (74, .istore 5, 2, (0, 0, 0, 0)) := by decide +kernel
theorem fX8_keeps_76 : ftc 76 (me_ci mX8_keeps) = some (76, .iload 5, 2, (0, 0, 0, 0)) := by decide +kernel
theorem fX8_keeps_78 : ftc 78 (me_ci mX8_keeps) = some (78, .iconst 4, 1, (0, 0, 0, 0)) := by decide +kernel
theorem fX8_keeps_79 : ftc 79 (me_ci mX8_keeps) = some (79, .if_icmp .ge 26, 3, (0, 0, 0, 0)) := by decide +kernel
theorem fX8_keeps_82 : ftc 82 (me_ci mX8_keeps) = some (82, .aload_n 0, 1, (0, 0, 0, 0)) := by decide +kernel
theorem fX8_keeps_83 : ftc 83 (me_ci mX8_keeps) = some (83, .getfield 7, 3, (8, 0, 657, 0)) := by decide +kernel
theorem fX8_keeps_86 : ftc 86 (me_ci mX8_keeps) = some (86, .bipush 34, 2, (0, 0, 0, 0)) := by decide +kernel
theorem fX8_keeps_88 : ftc 88 (me_ci mX8_keeps) = some (88, .iload 5, 2, (0, 0, 0, 0)) := by decide +kernel
theorem fX8_keeps_90 : ftc 90 (me_ci mX8_keeps) = some (90, .iadd, 1, (0, 0, 0, 0)) := by decide +kernel
theorem fX8_keeps_91 : ftc 91 (me_ci mX8_keeps) = some (91, .aload_n 0, 1, (0, 0, 0, 0)) := by decide +kernel
theorem fX8_keeps_92 : ftc 92 (me_ci mX8_keeps) = some (92, .iload 5, 2, (0, 0, 0, 0)) := by decide +kernel
theorem fX8_keeps_94 : ftc 94 (me_ci mX8_keeps) = some (94, .iconst 2, 1, (0, 0, 0, 0)) := by decide +kernel
theorem fX8_keeps_95 : ftc 95 (me_ci mX8_keeps) = some (95, .invokevirtual 52, 3, (92, 0, 746, 0)) := by decide +kernel
theorem fX8_keeps_98 : ftc 98 (me_ci mX8_keeps) = some (98, .iastore, 1, (0, 0, 0, 0)) := by decide +kernel
theorem fX8_keeps_99 : ftc 99 (me_ci mX8_keeps) = some (99, .iinc 5 1, 3, (0, 0, 0, 0)) := by decide +kernel
theorem fX8_keeps_102 : ftc 102 (me_ci mX8_keeps) = some (102, .goto (-26), 3, (0, 0, 0, 0)) := by decide +kernel
theorem fX8_keeps_105 : ftc 105 (me_ci mX8_keeps) = some (105, .aload_n 0, 1, (0, 0, 0, 0)) := by decide +kernel
theorem fX8_keeps_106 : ftc 106 (me_ci mX8_keeps) = some (106, .getfield 7, 3, (8, 0, 657, 0)) := by decide +kernel
theorem fX8_keeps_109 : ftc 109 (me_ci mX8_keeps) = some (109, .bipush 29, 2, (0, 0, 0, 0)) := by decide +kernel
theorem fX8_keeps_111 : ftc 111 (me_ci mX8_keeps) = some (111, .aload_n 0, 1, (0, 0, 0, 0)) := by decide +kernel
theorem fX8_keeps_112 : ftc 112 (me_ci mX8_keeps) = some (112, .getfield 7, 3, (8, 0, 657, 0)) := by decide +kernel
theorem fX8_keeps_115 : ftc 115 (me_ci mX8_keeps) = some (115, .bipush 29, 2, (0, 0, 0, 0)) := by decide +kernel
theorem fX8_keeps_117 : ftc 117 (me_ci mX8_keeps) = some (117, .iaload, 1, (0, 0, 0, 0)) := by decide +kernel
theorem fX8_keeps_118 : ftc 118 (me_ci mX8_keeps) = some (118, .iconst 1, 1, (0, 0, 0, 0)) := by decide +kernel
theorem fX8_keeps_119 : ftc 119 (me_ci mX8_keeps) = some (119, .iadd, 1, (0, 0, 0, 0)) := by decide +kernel
theorem fX8_keeps_120 : ftc 120 (me_ci mX8_keeps) = some (120, .bipush 12, 2, (0, 0, 0, 0)) := by decide +kernel
theorem fX8_keeps_122 : ftc 122 (me_ci mX8_keeps) = some (122, .invokestatic 65, 3, (102, 0, 779, 0)) := by decide +kernel
theorem fX8_keeps_125 : ftc 125 (me_ci mX8_keeps) = some (125, .iastore, 1, (0, 0, 0, 0)) := by decide +kernel
theorem fX8_keeps_126 : ftc 126 (me_ci mX8_keeps) = some (126, .aload_n 0, 1, (0, 0, 0, 0)) := by decide +kernel
theorem fX8_keeps_127 : ftc 127 (me_ci mX8_keeps) = some (127, .getfield 7, 3, (8, 0, 657, 0)) := by decide +kernel
theorem fX8_keeps_130 : ftc 130 (me_ci mX8_keeps) = some (130, .iconst 2, 1, (0, 0, 0, 0)) := by decide +kernel
theorem fX8_keeps_131 : ftc 131 (me_ci mX8_keeps) = some (131, .dup2, 1, (0, 0, 0, 0)) := by decide +kernel
theorem fX8_keeps_132 : ftc 132 (me_ci mX8_keeps) = some (132, .iaload, 1, (0, 0, 0, 0)) := by decide +kernel
theorem fX8_keeps_133 : ftc 133 (me_ci mX8_keeps) = some (133, .iconst 1, 1, (0, 0, 0, 0)) := by decide +kernel
theorem fX8_keeps_134 : ftc 134 (me_ci mX8_keeps) = some (134, .iadd, 1, (0, 0, 0, 0)) := by decide +kernel
theorem fX8_keeps_135 : ftc 135 (me_ci mX8_keeps) = some (135, .iastore, 1, (0, 0, 0, 0)) := by decide +kernel
theorem fX8_keeps_136 : ftc 136 (me_ci mX8_keeps) = some (136, .aload_n 0, 1, (0, 0, 0, 0)) := by decide +kernel
theorem fX8_keeps_137 : ftc 137 (me_ci mX8_keeps) = some (137, .getfield 7, 3, (8, 0, 657, 0)) := by decide +kernel
theorem fX8_keeps_140 : ftc 140 (me_ci mX8_keeps) = some (140, .iconst 3, 1, (0, 0, 0, 0)) := by decide +kernel
theorem fX8_keeps_141 : ftc 141 (me_ci mX8_keeps) = some (141, .dup2, 1, (0, 0, 0, 0)) := by decide +kernel
theorem fX8_keeps_142 : ftc 142 (me_ci mX8_keeps) = some (142, .iaload, 1, (0, 0, 0, 0)) := by decide +kernel
theorem fX8_keeps_143 : ftc 143 (me_ci mX8_keeps) = some (143, .iload_n 1, 1, (0, 0, 0, 0)) := by decide +kernel
theorem fX8_keeps_144 : ftc 144 (me_ci mX8_keeps) = some (144, .ifCond .ge 7, 3, (0, 0, 0, 0)) := by decide +kernel
theorem fX8_keeps_147 : ftc 147 (me_ci mX8_keeps) = some (147, .iconst 1, 1, (0, 0, 0, 0)) := by decide +kernel
theorem fX8_keeps_148 : ftc 148 (me_ci mX8_keeps) = some (148, .goto 4, 3, (0, 0, 0, 0)) := by decide +kernel
theorem fX8_keeps_151 : ftc 151 (me_ci mX8_keeps) = some (151, .iconst 0, 1, (0, 0, 0, 0)) := by decide +kernel
theorem fX8_keeps_152 : ftc 152 (me_ci mX8_keeps) = some (152, .iadd, 1, (0, 0, 0, 0)) := by decide +kernel
theorem fX8_keeps_153 : ftc 153 (me_ci mX8_keeps) = some (153, .iastore, 1, (0, 0, 0, 0)) := by decide +kernel
theorem fX8_keeps_154 : ftc 154 (me_ci mX8_keeps) = some (154, .return_, 1, (0, 0, 0, 0)) := by decide +kernel
theorem pX8_keeps : pg 104 = some mX8_keeps := by decide +kernel
theorem fX8_shares_0 : ftc 0 (me_ci mX8_shares) = some (0, .aload_n 0, 1, (0, 0, 0, 0)) := by decide +kernel
theorem fX8_shares_1 : ftc 1 (me_ci mX8_shares) = some (1, .getfield 7, 3, (8, 0, 657, 0)) := by decide +kernel
theorem fX8_shares_4 : ftc 4 (me_ci mX8_shares) = some (4, .iconst 1, 1, (0, 0, 0, 0)) := by decide +kernel
theorem fX8_shares_5 : ftc 5 (me_ci mX8_shares) = some (5, .iaload, 1, (0, 0, 0, 0)) := by decide +kernel
theorem fX8_shares_6 : ftc 6 (me_ci mX8_shares) = some (6, .aload_n 0, 1, (0, 0, 0, 0)) := by decide +kernel
theorem fX8_shares_7 : ftc 7 (me_ci mX8_shares) = some (7, .getfield 7, 3, (8, 0, 657, 0)) := by decide +kernel
theorem fX8_shares_10 : ftc 10 (me_ci mX8_shares) = some (10, .iconst 0, 1, (0, 0, 0, 0)) := by decide +kernel
theorem fX8_shares_11 : ftc 11 (me_ci mX8_shares) = some (11, .iaload, 1, (0, 0, 0, 0)) := by decide +kernel
theorem fX8_shares_12 : ftc 12 (me_ci mX8_shares) = some (12, .iconst 1, 1, (0, 0, 0, 0)) := by decide +kernel
theorem fX8_shares_13 : ftc 13 (me_ci mX8_shares) = some (13, .isub, 1, (0, 0, 0, 0)) := by decide +kernel
theorem fX8_shares_14 : ftc 14 (me_ci mX8_shares) = some (14, .idiv, 1, (0, 0, 0, 0)) := by decide +kernel
theorem fX8_shares_15 : ftc 15 (me_ci mX8_shares) = some (15, .istore_n 2, 1, (0, 0, 0, 0)) := by decide +kernel
theorem fX8_shares_16 : ftc 16 (me_ci mX8_shares) = some (16, .iconst 0, 1, (0, 0, 0, 0)) := by decide +kernel
theorem fX8_shares_17 : ftc 17 (me_ci mX8_shares) = some (17, .istore_n 3, 1, (0, 0, 0, 0)) := by decide +kernel
theorem fX8_shares_18 : ftc 18 (me_ci mX8_shares) = some (18, .iload_n 3, 1, (0, 0, 0, 0)) := by decide +kernel
theorem fX8_shares_19 : ftc 19 (me_ci mX8_shares) = some (19, .aload_n 0, 1, (0, 0, 0, 0)) := by decide +kernel
theorem fX8_shares_20 : ftc 20 (me_ci mX8_shares) = some (20, .getfield 7, 3, (8, 0, 657, 0)) := by decide +kernel
theorem fX8_shares_23 : ftc 23 (me_ci mX8_shares) = some (23, .iconst 0, 1, (0, 0, 0, 0)) := by decide +kernel
theorem fX8_shares_24 : ftc 24 (me_ci mX8_shares) = some (24, .iaload, 1, (0, 0, 0, 0)) := by decide +kernel
theorem fX8_shares_25 : ftc 25 (me_ci mX8_shares) = some (25, .if_icmp .ge 70, 3, (0, 0, 0, 0)) := by decide +kernel
theorem fX8_shares_28 : ftc 28 (me_ci mX8_shares) = some (28, .iload_n 3, 1, (0, 0, 0, 0)) := by decide +kernel
theorem fX8_shares_29 : ftc 29 (me_ci mX8_shares) = some (29, .iload_n 1, 1, (0, 0, 0, 0)) := by decide +kernel
theorem fX8_shares_30 : ftc 30 (me_ci mX8_shares) = some (30, .if_icmp .ne 7, 3, (0, 0, 0, 0)) := by decide +kernel
theorem fX8_shares_33 : ftc 33 (me_ci mX8_shares) = some (33, .iconst 0, 1, (0, 0, 0, 0)) := by decide +kernel
theorem fX8_shares_34 : ftc 34 (me_ci mX8_shares) = some (34, .goto 4, 3, (0, 0, 0, 0)) := by decide +kernel
theorem fX8_shares_37 : ftc 37 (me_ci mX8_shares) = some (37, .iload_n 2, 1, (0, 0, 0, 0)) := by decide +kernel
theorem fX8_shares_38 : ftc 38 (me_ci mX8_shares) = some (38, .istore 4, 2, (0, 0, 0, 0)) := by decide +kernel
theorem fX8_shares_40 : ftc 40 (me_ci mX8_shares) = some (40, .aload_n 0, 1, (0, 0, 0, 0)) := by decide +kernel
theorem fX8_shares_41 : ftc 41 (me_ci mX8_shares) = some (41, .getfield 7, 3, (8, 0, 657, 0)) := by decide +kernel
theorem fX8_shares_44 : ftc 44 (me_ci mX8_shares) = some (44, .bipush 126, 2, (0, 0, 0, 0)) := by decide +kernel
theorem fX8_shares_46 : ftc 46 (me_ci mX8_shares) = some (46, .bipush 6, 2, (0, 0, 0, 0)) := by decide +kernel
theorem fX8_shares_48 : ftc 48 (me_ci mX8_shares) = some (48, .iload_n 3, 1, (0, 0, 0, 0)) := by decide +kernel
theorem fX8_shares_49 : ftc 49 (me_ci mX8_shares) = some (49, .imul, 1, (0, 0, 0, 0)) := by decide +kernel
theorem fX8_shares_50 : ftc 50 (me_ci mX8_shares) = some (50, .iadd, 1, (0, 0, 0, 0)) := by decide +kernel
theorem fX8_shares_51 : ftc 51 (me_ci mX8_shares) = some (51, .iconst 0, 1, (0, 0, 0, 0)) := by decide +kernel
theorem fX8_shares_52 : ftc 52 (me_ci mX8_shares) = some (52, .iadd, 1, (0, 0, 0, 0)) := by decide +kernel
theorem fX8_shares_53 : ftc 53 (me_ci mX8_shares) = some (53, .dup2, 1, (0, 0, 0, 0)) := by decide +kernel
theorem fX8_shares_54 : ftc 54 (me_ci mX8_shares) = some (54, .iaload, 1, (0, 0, 0, 0)) := by decide +kernel
theorem fX8_shares_55 : ftc 55 (me_ci mX8_shares) = some (55, .iload 4, 2, (0, 0, 0, 0)) := by decide +kernel
theorem fX8_shares_57 : ftc 57 (me_ci mX8_shares) = some (57, .iadd, 1, (0, 0, 0, 0)) := by decide +kernel
theorem fX8_shares_58 : ftc 58 (me_ci mX8_shares) = some (58, .iastore, 1, (0, 0, 0, 0)) := by decide +kernel
theorem fX8_shares_59 : ftc 59 (me_ci mX8_shares) = some (59, .aload_n 0, 1, (0, 0, 0, 0)) := by decide +kernel
theorem fX8_shares_60 : ftc 60 (me_ci mX8_shares) = some (60, .getfield 7, 3, (8, 0, 657, 0)) := by decide +kernel
theorem fX8_shares_63 : ftc 63 (me_ci mX8_shares) = some (63, .bipush 126, 2, (0, 0, 0, 0)) := by decide +kernel
theorem fX8_shares_65 : ftc 65 (me_ci mX8_shares) = some (65, .bipush 6, 2, (0, 0, 0, 0)) := by decide +kernel
theorem fX8_shares_67 : ftc 67 (me_ci mX8_shares) = some (67, .iload_n 3, 1, (0, 0, 0, 0)) := by decide +kernel
theorem fX8_shares_68 : ftc 68 (me_ci mX8_shares) = some (68, .imul, 1, (0, 0, 0, 0)) := by decide +kernel
theorem fX8_shares_69 : ftc 69 (me_ci mX8_shares) = some (69, .iadd, 1, (0, 0, 0, 0)) := by decide +kernel
theorem fX8_shares_70 : ftc 70 (me_ci mX8_shares) = some (70, .iconst 5, 1, (0, 0, 0, 0)) := by decide +kernel
theorem fX8_shares_71 : ftc 71 (me_ci mX8_shares) = some (71, .iadd, 1, (0, 0, 0, 0)) := by decide +kernel
theorem fX8_shares_72 : ftc 72 (me_ci mX8_shares) = some (72, .dup2, 1, (0, 0, 0, 0)) := by decide +kernel
theorem fX8_shares_73 : ftc 73 (me_ci mX8_shares) = some (73, .iaload, 1, (0, 0, 0, 0)) := by decide +kernel
theorem fX8_shares_74 : ftc 74 (me_ci mX8_shares) = some (74, .iload 4, 2, (0, 0, 0, 0)) := by decide +kernel
theorem fX8_shares_76 : ftc 76 (me_ci mX8_shares) = some (76, .iadd, 1, (0, 0, 0, 0)) := by decide +kernel
theorem fX8_shares_77 : ftc 77 (me_ci mX8_shares) = some (77, .iastore, 1, (0, 0, 0, 0)) := by decide +kernel
theorem fX8_shares_78 : ftc 78 (me_ci mX8_shares) = some (78, .aload_n 0, 1, (0, 0, 0, 0)) := by decide +kernel
theorem fX8_shares_79 : ftc 79 (me_ci mX8_shares) = some (79, .getfield 7, 3, (8, 0, 657, 0)) := by decide +kernel
theorem fX8_shares_82 : ftc 82 (me_ci mX8_shares) = some (82, .iconst 1, 1, (0, 0, 0, 0)) := by decide +kernel
theorem fX8_shares_83 : ftc 83 (me_ci mX8_shares) = some (83, .dup2, 1, (0, 0, 0, 0)) := by decide +kernel
theorem fX8_shares_84 : ftc 84 (me_ci mX8_shares) = some (84, .iaload, 1, (0, 0, 0, 0)) := by decide +kernel
theorem fX8_shares_85 : ftc 85 (me_ci mX8_shares) = some (85, .iload 4, 2, (0, 0, 0, 0)) := by decide +kernel
theorem fX8_shares_87 : ftc 87 (me_ci mX8_shares) = some (87, .isub, 1, (0, 0, 0, 0)) := by decide +kernel
theorem fX8_shares_88 : ftc 88 (me_ci mX8_shares) = some (88, .iastore, 1, (0, 0, 0, 0)) := by decide +kernel
theorem fX8_shares_89 : ftc 89 (me_ci mX8_shares) = some (89, .iinc 3 1, 3, (0, 0, 0, 0)) := by decide +kernel
theorem fX8_shares_92 : ftc 92 (me_ci mX8_shares) = some (92, .goto (-74), 3, (0, 0, 0, 0)) := by decide +kernel
theorem fX8_shares_95 : ftc 95 (me_ci mX8_shares) = some (95, .return_, 1, (0, 0, 0, 0)) := by decide +kernel
theorem pX8_shares : pg 105 = some mX8_shares := by decide +kernel
theorem fX8_resolves_0 : ftc 0 (me_ci mX8_resolves) = some (0, .aload_n 0, 1, (0, 0, 0, 0)) := by decide +kernel
theorem fX8_resolves_1 : ftc 1 (me_ci mX8_resolves) = some (1, .invokevirtual 68, 3, (99, 0, 763, 0)) := by decide +kernel
theorem fX8_resolves_4 : ftc 4 (me_ci mX8_resolves) = some (4, .istore_n 1, 1, (0, 0, 0, 0)) := by decide +kernel
theorem fX8_resolves_5 : ftc 5 (me_ci mX8_resolves) = some (5, .iconst 0, 1, (0, 0, 0, 0)) := by decide +kernel
theorem fX8_resolves_6 : ftc 6 (me_ci mX8_resolves) = some (6, .istore_n 2, 1, (0, 0, 0, 0)) := by decide +kernel
theorem fX8_resolves_7 : ftc 7 (me_ci mX8_resolves) = some (7, .iconst (-1), 1, (0, 0, 0, 0)) := by decide +kernel
theorem fX8_resolves_8 : ftc 8 (me_ci mX8_resolves) = some (8, .istore_n 3, 1, (0, 0, 0, 0)) := by decide +kernel
theorem fX8_resolves_9 : ftc 9 (me_ci mX8_resolves) = some (9, .iconst 0, 1, (0, 0, 0, 0)) := by decide +kernel
theorem fX8_resolves_10 : ftc 10 (me_ci mX8_resolves) = some (10, .istore 4, 2, (0, 0, 0, 0)) := by decide +kernel
theorem fX8_resolves_12 : ftc 12 (me_ci mX8_resolves) = some (12, .iload 4, 2, (0, 0, 0, 0)) := by decide +kernel
theorem fX8_resolves_14 : ftc 14 (me_ci mX8_resolves) = some (14, .aload_n 0, 1, (0, 0, 0, 0)) := by decide +kernel
theorem fX8_resolves_15 : ftc 15 (me_ci mX8_resolves) = some (15, .getfield 7, 3, (8, 0, 657, 0)) := by decide +kernel
theorem fX8_resolves_18 : ftc 18 (me_ci mX8_resolves) = some (18, .iconst 0, 1, (0, 0, 0, 0)) := by decide +kernel
theorem fX8_resolves_19 : ftc 19 (me_ci mX8_resolves) = some (19, .iaload, 1, (0, 0, 0, 0)) := by decide +kernel
theorem fX8_resolves_20 : ftc 20 (me_ci mX8_resolves) = some (20, .if_icmp .ge 46, 3, (0, 0, 0, 0)) := by decide +kernel
theorem fX8_resolves_23 : ftc 23 (me_ci mX8_resolves) = some (23, .iload_n 2, 1, (0, 0, 0, 0)) := by decide +kernel
theorem fX8_resolves_24 : ftc 24 (me_ci mX8_resolves) = some (24, .aload_n 0, 1, (0, 0, 0, 0)) := by decide +kernel
theorem fX8_resolves_25 : ftc 25 (me_ci mX8_resolves) = some (25, .iload 4, 2, (0, 0, 0, 0)) := by decide +kernel
theorem fX8_resolves_27 : ftc 27 (me_ci mX8_resolves) = some (27, .iconst 2, 1, (0, 0, 0, 0)) := by decide +kernel
theorem fX8_resolves_28 : ftc 28 (me_ci mX8_resolves) = some (28, .invokevirtual 52, 3, (92, 0, 746, 0)) := by decide +kernel
theorem fX8_resolves_31 : ftc 31 (me_ci mX8_resolves) = some (31, .iload_n 1, 1, (0, 0, 0, 0)) := by decide +kernel
theorem fX8_resolves_32 : ftc 32 (me_ci mX8_resolves) = some (32, .if_icmp .ne 7, 3, (0, 0, 0, 0)) := by decide +kernel
theorem fX8_resolves_35 : ftc 35 (me_ci mX8_resolves) = some (35, .iconst 1, 1, (0, 0, 0, 0)) := by decide +kernel
theorem fX8_resolves_36 : ftc 36 (me_ci mX8_resolves) = some (36, .goto 4, 3, (0, 0, 0, 0)) := by decide +kernel
theorem fX8_resolves_39 : ftc 39 (me_ci mX8_resolves) = some (39, .iconst 0, 1, (0, 0, 0, 0)) := by decide +kernel
theorem fX8_resolves_40 : ftc 40 (me_ci mX8_resolves) = some (40, .iadd, 1, (0, 0, 0, 0)) := by decide +kernel
theorem fX8_resolves_41 : ftc 41 (me_ci mX8_resolves) = some (41, .istore_n 2, 1, (0, 0, 0, 0)) := by decide +kernel
theorem fX8_resolves_42 : ftc 42 (me_ci mX8_resolves) = some (42, .aload_n 0, 1, (0, 0, 0, 0)) := by decide +kernel
theorem fX8_resolves_43 : ftc 43 (me_ci mX8_resolves) = some (43, .iload 4, 2, (0, 0, 0, 0)) := by decide +kernel
theorem fX8_resolves_45 : ftc 45 (me_ci mX8_resolves) = some (45, .iconst 2, 1, (0, 0, 0, 0)) := by decide +kernel
theorem fX8_resolves_46 : ftc 46 (me_ci mX8_resolves) = some (46, .invokevirtual 52, 3, (92, 0, 746, 0)) := by decide +kernel
theorem fX8_resolves_49 : ftc 49 (me_ci mX8_resolves) = some (49, .iload_n 1, 1, (0, 0, 0, 0)) := by decide +kernel
theorem fX8_resolves_50 : ftc 50 (me_ci mX8_resolves) = some (50, .if_icmp .ne 8, 3, (0, 0, 0, 0)) := by decide +kernel
theorem fX8_resolves_53 : ftc 53 (me_ci mX8_resolves) = some (53, .iload 4, 2, (0, 0, 0, 0)) := by decide +kernel
theorem fX8_resolves_55 : ftc 55 (me_ci mX8_resolves) = some (55, .goto 4, 3, (0, 0, 0, 0)) := by decide +kernel
theorem fX8_resolves_58 : ftc 58 (me_ci mX8_resolves) = some (58, .iload_n 3, 1, (0, 0, 0, 0)) := by decide +kernel
theorem fX8_resolves_59 : ftc 59 (me_ci mX8_resolves) = some (59, .istore_n 3, 1, (0, 0, 0, 0)) := by decide +kernel
theorem fX8_resolves_60 : ftc 60 (me_ci mX8_resolves) = some (60, .iinc 4 1, 3, (0, 0, 0, 0)) := by decide +kernel
theorem fX8_resolves_63 : ftc 63 (me_ci mX8_resolves) = some (63, .goto (-51), 3, (0, 0, 0, 0)) := by decide +kernel
theorem fX8_resolves_66 : ftc 66 (me_ci mX8_resolves) = some (66, .iload_n 2, 1, (0, 0, 0, 0)) := by decide +kernel
theorem fX8_resolves_67 : ftc 67 (me_ci mX8_resolves) = some (67, .iconst 1, 1, (0, 0, 0, 0)) := by decide +kernel
theorem fX8_resolves_68 : ftc 68 (me_ci mX8_resolves) = some (68, .if_icmp .ne 7, 3, (0, 0, 0, 0)) := by decide +kernel
theorem fX8_resolves_71 : ftc 71 (me_ci mX8_resolves) = some (71, .iload_n 3, 1, (0, 0, 0, 0)) := by decide +kernel
theorem fX8_resolves_72 : ftc 72 (me_ci mX8_resolves) = some (72, .goto 4, 3, (0, 0, 0, 0)) := by decide +kernel
theorem fX8_resolves_75 : ftc 75 (me_ci mX8_resolves) = some (75, .iconst (-1), 1, (0, 0, 0, 0)) := by decide +kernel
theorem fX8_resolves_76 : ftc 76 (me_ci mX8_resolves) = some (76, .istore_n 3, 1, (0, 0, 0, 0)) := by decide +kernel
theorem fX8_resolves_77 : ftc 77 (me_ci mX8_resolves) = some (77, .aload_n 0, 1, (0, 0, 0, 0)) := by decide +kernel
theorem fX8_resolves_78 : ftc 78 (me_ci mX8_resolves) = some (78, .invokevirtual 71, 3, (98, 0, 767, 0)) := by decide +kernel
theorem fX8_resolves_81 : ftc 81 (me_ci mX8_resolves) = some (81, .aload_n 0, 1, (0, 0, 0, 0)) := by decide +kernel
theorem fX8_resolves_82 : ftc 82 (me_ci mX8_resolves) = some (82, .getfield 7, 3, (8, 0, 657, 0)) := by decide +kernel
theorem fX8_resolves_85 : ftc 85 (me_ci mX8_resolves) = some (85, .iconst 5, 1, (0, 0, 0, 0)) := by decide +kernel
theorem fX8_resolves_86 : ftc 86 (me_ci mX8_resolves) = some (86, .iaload, 1, (0, 0, 0, 0)) := by decide +kernel
theorem fX8_resolves_87 : ftc 87 (me_ci mX8_resolves) = some (87, .iadd, 1, (0, 0, 0, 0)) := by decide +kernel
theorem fX8_resolves_88 : ftc 88 (me_ci mX8_resolves) = some (88, .istore 4, 2, (0, 0, 0, 0)) := by decide +kernel
theorem fX8_resolves_90 : ftc 90 (me_ci mX8_resolves) = some (90, .aload_n 0, 1, (0, 0, 0, 0)) := by decide +kernel
theorem fX8_resolves_91 : ftc 91 (me_ci mX8_resolves) = some (91, .invokevirtual 74, 3, (100, 0, 771, 0)) := by decide +kernel
theorem fX8_resolves_94 : ftc 94 (me_ci mX8_resolves) = some (94, .aload_n 0, 1, (0, 0, 0, 0)) := by decide +kernel
theorem fX8_resolves_95 : ftc 95 (me_ci mX8_resolves) = some (95, .iload_n 3, 1, (0, 0, 0, 0)) := by decide +kernel
theorem fX8_resolves_96 : ftc 96 (me_ci mX8_resolves) = some (96, .iload_n 1, 1, (0, 0, 0, 0)) := by decide +kernel
theorem fX8_resolves_97 : ftc 97 (me_ci mX8_resolves) = some (97, .iload 4, 2, (0, 0, 0, 0)) := by decide +kernel
theorem fX8_resolves_99 : ftc 99 (me_ci mX8_resolves) = some (99, .iload_n 2, 1, (0, 0, 0, 0)) := by decide +kernel
theorem fX8_resolves_100 : ftc 100 (me_ci mX8_resolves) = some (100, .invokevirtual 77, 3, (104, 0, 775, 0)) := by decide +kernel
theorem fX8_resolves_103 : ftc 103 (me_ci mX8_resolves) = some (103, .iconst 0, 1, (0, 0, 0, 0)) := by decide +kernel
theorem fX8_resolves_104 : ftc 104 (me_ci mX8_resolves) = some (104, .istore 5, 2, (0, 0, 0, 0)) := by decide +kernel
theorem fX8_resolves_106 : ftc 106 (me_ci mX8_resolves) = some (106, .iload 5, 2, (0, 0, 0, 0)) := by decide +kernel
theorem fX8_resolves_108 : ftc 108 (me_ci mX8_resolves) = some (108, .aload_n 0, 1, (0, 0, 0, 0)) := by decide +kernel
theorem fX8_resolves_109 : ftc 109 (me_ci mX8_resolves) = some (109, .getfield 7, 3, (8, 0, 657, 0)) := by decide +kernel
theorem fX8_resolves_112 : ftc 112 (me_ci mX8_resolves) = some (112, .iconst 0, 1, (0, 0, 0, 0)) := by decide +kernel
theorem fX8_resolves_113 : ftc 113 (me_ci mX8_resolves) = some (113, .iaload, 1, (0, 0, 0, 0)) := by decide +kernel
theorem fX8_resolves_114 : ftc 114 (me_ci mX8_resolves) = some (114, .if_icmp .ge 94, 3, (0, 0, 0, 0)) := by decide +kernel
theorem fX8_resolves_117 : ftc 117 (me_ci mX8_resolves) = some (117, .aload_n 0, 1, (0, 0, 0, 0)) := by decide +kernel
theorem fX8_resolves_118 : ftc 118 (me_ci mX8_resolves) = some (118, .iload 5, 2, (0, 0, 0, 0)) := by decide +kernel
theorem fX8_resolves_120 : ftc 120 (me_ci mX8_resolves) = some (120, .iconst 2, 1, (0, 0, 0, 0)) := by decide +kernel
theorem fX8_resolves_121 : ftc 121 (me_ci mX8_resolves) = some (121, .invokevirtual 52, 3, (92, 0, 746, 0)) := by decide +kernel
theorem fX8_resolves_124 : ftc 124 (me_ci mX8_resolves) = some (124, .istore 6, 2, (0, 0, 0, 0)) := by decide +kernel
theorem fX8_resolves_126 : ftc 126 (me_ci mX8_resolves) = some (126, .aload_n 0, 1, (0, 0, 0, 0)) := by decide +kernel
theorem fX8_resolves_127 : ftc 127 (me_ci mX8_resolves) = some (127, .iload 5, 2, (0, 0, 0, 0)) := by decide +kernel
theorem fX8_resolves_129 : ftc 129 (me_ci mX8_resolves) = some (129, .iload 5, 2, (0, 0, 0, 0)) := by decide +kernel
theorem fX8_resolves_131 : ftc 131 (me_ci mX8_resolves) = some (131, .iload_n 3, 1, (0, 0, 0, 0)) := by decide +kernel
theorem fX8_resolves_132 : ftc 132 (me_ci mX8_resolves) = some (132, .if_icmp .ne 7, 3, (0, 0, 0, 0)) := by decide +kernel
theorem fX8_resolves_135 : ftc 135 (me_ci mX8_resolves) = some (135, .iconst 1, 1, (0, 0, 0, 0)) := by decide +kernel
theorem fX8_resolves_136 : ftc 136 (me_ci mX8_resolves) = some (136, .goto 4, 3, (0, 0, 0, 0)) := by decide +kernel
theorem fX8_resolves_139 : ftc 139 (me_ci mX8_resolves) = some (139, .iconst 0, 1, (0, 0, 0, 0)) := by decide +kernel
theorem fX8_resolves_140 : ftc 140 (me_ci mX8_resolves) = some (140, .invokevirtual 81, 3, (103, 0, 782, 0)) := by decide +kernel
theorem fX8_resolves_143 : ftc 143 (me_ci mX8_resolves) = some (143, .aload_n 0, 1, (0, 0, 0, 0)) := by decide +kernel
theorem fX8_resolves_144 : ftc 144 (me_ci mX8_resolves) = some (144, .iload 5, 2, (0, 0, 0, 0)) := by decide +kernel
theorem fX8_resolves_146 : ftc 146 (me_ci mX8_resolves) = some (146, .iload_n 2, 1, (0, 0, 0, 0)) := by decide +kernel
theorem fX8_resolves_147 : ftc 147 (me_ci mX8_resolves) = some (147, .iconst 1, 1, (0, 0, 0, 0)) := by decide +kernel
theorem fX8_resolves_148 : ftc 148 (me_ci mX8_resolves) = some (148, .if_icmp .le 28, 3, (0, 0, 0, 0)) := by decide +kernel
theorem fX8_resolves_151 : ftc 151 (me_ci mX8_resolves) = some (151, .iload 6, 2, (0, 0, 0, 0)) := by decide +kernel
theorem fX8_resolves_153 : ftc 153 (me_ci mX8_resolves) = some (153, .iload_n 1, 1, (0, 0, 0, 0)) := by decide +kernel
theorem fX8_resolves_154 : ftc 154 (me_ci mX8_resolves) = some (154, .if_icmp .ne 18, 3, (0, 0, 0, 0)) := by decide +kernel
theorem fX8_resolves_157 : ftc 157 (me_ci mX8_resolves) = some (157, .iload 6, 2, (0, 0, 0, 0)) := by decide +kernel
theorem fX8_resolves_159 : ftc 159 (me_ci mX8_resolves) = some (159, .aload_n 0, 1, (0, 0, 0, 0)) := by decide +kernel
theorem fX8_resolves_160 : ftc 160 (me_ci mX8_resolves) = some (160, .getfield 7, 3, (8, 0, 657, 0)) := by decide +kernel
theorem fX8_resolves_163 : ftc 163 (me_ci mX8_resolves) = some (163, .bipush 26, 2, (0, 0, 0, 0)) := by decide +kernel
theorem fX8_resolves_165 : ftc 165 (me_ci mX8_resolves) = some (165, .iaload, 1, (0, 0, 0, 0)) := by decide +kernel
theorem fX8_resolves_166 : ftc 166 (me_ci mX8_resolves) = some (166, .invokestatic 65, 3, (102, 0, 779, 0)) := by decide +kernel
theorem fX8_resolves_169 : ftc 169 (me_ci mX8_resolves) = some (169, .goto 30, 3, (0, 0, 0, 0)) := by decide +kernel
theorem fX8_resolves_172 : ftc 172 (me_ci mX8_resolves) = some (172, .iconst 0, 1, (0, 0, 0, 0)) := by decide +kernel
theorem fX8_resolves_173 : ftc 173 (me_ci mX8_resolves) = some (173, .goto 26, 3, (0, 0, 0, 0)) := by decide +kernel
theorem fX8_resolves_176 : ftc 176 (me_ci mX8_resolves) = some (176, .iload 5, 2, (0, 0, 0, 0)) := by decide +kernel
theorem fX8_resolves_178 : ftc 178 (me_ci mX8_resolves) = some (178, .iload_n 3, 1, (0, 0, 0, 0)) := by decide +kernel
theorem fX8_resolves_179 : ftc 179 (me_ci mX8_resolves) = some (179, .if_icmp .ne 8, 3, (0, 0, 0, 0)) := by decide +kernel
theorem fX8_resolves_182 : ftc 182 (me_ci mX8_resolves) = some (182, .iload 6, 2, (0, 0, 0, 0)) := by decide +kernel
theorem fX8_resolves_184 : ftc 184 (me_ci mX8_resolves) = some (184, .goto 15, 3, (0, 0, 0, 0)) := by decide +kernel
theorem fX8_resolves_187 : ftc 187 (me_ci mX8_resolves) = some (187, .iload 6, 2, (0, 0, 0, 0)) := by decide +kernel
theorem fX8_resolves_189 : ftc 189 (me_ci mX8_resolves) = some (189, .aload_n 0, 1, (0, 0, 0, 0)) := by decide +kernel
theorem fX8_resolves_190 : ftc 190 (me_ci mX8_resolves) = some (190, .getfield 7, 3, (8, 0, 657, 0)) := by decide +kernel
theorem fX8_resolves_193 : ftc 193 (me_ci mX8_resolves) = some (193, .bipush 27, 2, (0, 0, 0, 0)) := by decide +kernel
theorem fX8_resolves_195 : ftc 195 (me_ci mX8_resolves) = some (195, .iaload, 1, (0, 0, 0, 0)) := by decide +kernel
theorem fX8_resolves_196 : ftc 196 (me_ci mX8_resolves) = some (196, .invokestatic 65, 3, (102, 0, 779, 0)) := by decide +kernel
theorem fX8_resolves_199 : ftc 199 (me_ci mX8_resolves) = some (199, .invokevirtual 85, 3, (101, 0, 786, 0)) := by decide +kernel
theorem fX8_resolves_202 : ftc 202 (me_ci mX8_resolves) = some (202, .iinc 5 1, 3, (0, 0, 0, 0)) := by decide +kernel
theorem fX8_resolves_205 : ftc 205 (me_ci mX8_resolves) = some (205, .goto (-99), 3, (0, 0, 0, 0)) := by decide +kernel
theorem fX8_resolves_208 : ftc 208 (me_ci mX8_resolves) = some (208, .iload_n 3, 1, (0, 0, 0, 0)) := by decide +kernel
theorem fX8_resolves_209 : ftc 209 (me_ci mX8_resolves) = some (209, .ifCond .lt 48, 3, (0, 0, 0, 0)) := by decide +kernel
theorem fX8_resolves_212 : ftc 212 (me_ci mX8_resolves) = some (212, .aload_n 0, 1, (0, 0, 0, 0)) := by decide +kernel
theorem fX8_resolves_213 : ftc 213 (me_ci mX8_resolves) = some (213, .getfield 7, 3, (8, 0, 657, 0)) := by decide +kernel
theorem fX8_resolves_216 : ftc 216 (me_ci mX8_resolves) = some (216, .bipush 126, 2, (0, 0, 0, 0)) := by decide +kernel
theorem fX8_resolves_218 : ftc 218 (me_ci mX8_resolves) = some (218, .bipush 6, 2, (0, 0, 0, 0)) := by decide +kernel
theorem fX8_resolves_220 : ftc 220 (me_ci mX8_resolves) = some (220, .iload_n 3, 1, (0, 0, 0, 0)) := by decide +kernel
theorem fX8_resolves_221 : ftc 221 (me_ci mX8_resolves) = some (221, .imul, 1, (0, 0, 0, 0)) := by decide +kernel
theorem fX8_resolves_222 : ftc 222 (me_ci mX8_resolves) = some (222, .iadd, 1, (0, 0, 0, 0)) := by decide +kernel
theorem fX8_resolves_223 : ftc 223 (me_ci mX8_resolves) = some (223, .iconst 1, 1, (0, 0, 0, 0)) := by decide +kernel
theorem fX8_resolves_224 : ftc 224 (me_ci mX8_resolves) = some (224, .iadd, 1, (0, 0, 0, 0)) := by decide +kernel
theorem fX8_resolves_225 : ftc 225 (me_ci mX8_resolves) = some (225, .dup2, 1, (0, 0, 0, 0)) := by decide +kernel
theorem fX8_resolves_226 : ftc 226 (me_ci mX8_resolves) = some (226, .iaload, 1, (0, 0, 0, 0)) := by decide +kernel
theorem fX8_resolves_227 : ftc 227 (me_ci mX8_resolves) = some (227, .iload 4, 2, (0, 0, 0, 0)) := by decide +kernel
theorem fX8_resolves_229 : ftc 229 (me_ci mX8_resolves) = some (229, .iadd, 1, (0, 0, 0, 0)) := by decide +kernel
theorem fX8_resolves_230 : ftc 230 (me_ci mX8_resolves) = some (230, .iastore, 1, (0, 0, 0, 0)) := by decide +kernel
theorem fX8_resolves_231 : ftc 231 (me_ci mX8_resolves) = some (231, .aload_n 0, 1, (0, 0, 0, 0)) := by decide +kernel
theorem fX8_resolves_232 : ftc 232 (me_ci mX8_resolves) = some (232, .getfield 7, 3, (8, 0, 657, 0)) := by decide +kernel
theorem fX8_resolves_235 : ftc 235 (me_ci mX8_resolves) = some (235, .bipush 126, 2, (0, 0, 0, 0)) := by decide +kernel
theorem fX8_resolves_237 : ftc 237 (me_ci mX8_resolves) = some (237, .bipush 6, 2, (0, 0, 0, 0)) := by decide +kernel
theorem fX8_resolves_239 : ftc 239 (me_ci mX8_resolves) = some (239, .iload_n 3, 1, (0, 0, 0, 0)) := by decide +kernel
theorem fX8_resolves_240 : ftc 240 (me_ci mX8_resolves) = some (240, .imul, 1, (0, 0, 0, 0)) := by decide +kernel
theorem fX8_resolves_241 : ftc 241 (me_ci mX8_resolves) = some (241, .iadd, 1, (0, 0, 0, 0)) := by decide +kernel
theorem fX8_resolves_242 : ftc 242 (me_ci mX8_resolves) = some (242, .iconst 3, 1, (0, 0, 0, 0)) := by decide +kernel
theorem fX8_resolves_243 : ftc 243 (me_ci mX8_resolves) = some (243, .iadd, 1, (0, 0, 0, 0)) := by decide +kernel
theorem fX8_resolves_244 : ftc 244 (me_ci mX8_resolves) = some (244, .dup2, 1, (0, 0, 0, 0)) := by decide +kernel
theorem fX8_resolves_245 : ftc 245 (me_ci mX8_resolves) = some (245, .iaload, 1, (0, 0, 0, 0)) := by decide +kernel
theorem fX8_resolves_246 : ftc 246 (me_ci mX8_resolves) = some (246, .iconst 1, 1, (0, 0, 0, 0)) := by decide +kernel
theorem fX8_resolves_247 : ftc 247 (me_ci mX8_resolves) = some (247, .iadd, 1, (0, 0, 0, 0)) := by decide +kernel
theorem fX8_resolves_248 : ftc 248 (me_ci mX8_resolves) = some (248, .iastore, 1, (0, 0, 0, 0)) := by decide +kernel
theorem fX8_resolves_249 : ftc 249 (me_ci mX8_resolves) = some (249, .aload_n 0, 1, (0, 0, 0, 0)) := by decide +kernel
theorem fX8_resolves_250 : ftc 250 (me_ci mX8_resolves) = some (250, .getfield 7, 3, (8, 0, 657, 0)) := by decide +kernel
theorem fX8_resolves_253 : ftc 253 (me_ci mX8_resolves) = some (253, .bipush 25, 2, (0, 0, 0, 0)) := by decide +kernel
theorem fX8_resolves_255 : ftc 255 (me_ci mX8_resolves) = some (255, .iconst 0, 1, (0, 0, 0, 0)) := by decide +kernel
theorem fX8_resolves_256 : ftc 256 (me_ci mX8_resolves) = some (256, .iastore, 1, (0, 0, 0, 0)) := by decide +kernel
theorem fX8_resolves_257 : ftc 257 (me_ci mX8_resolves) = some (257, .iload_n 3, 1, (0, 0, 0, 0)) := by decide +kernel
theorem fX8_resolves_258 : ftc 258 (me_ci mX8_resolves) = some (258, .ifCond .lt 19, 3, (0, 0, 0, 0)) := by decide +kernel
theorem fX8_resolves_261 : ftc 261 (me_ci mX8_resolves) = some (261, .aload_n 0, 1, (0, 0, 0, 0)) := by decide +kernel
theorem fX8_resolves_262 : ftc 262 (me_ci mX8_resolves) = some (262, .getfield 7, 3, (8, 0, 657, 0)) := by decide +kernel
theorem fX8_resolves_265 : ftc 265 (me_ci mX8_resolves) = some (265, .bipush 28, 2, (0, 0, 0, 0)) := by decide +kernel
theorem fX8_resolves_267 : ftc 267 (me_ci mX8_resolves) = some (267, .iaload, 1, (0, 0, 0, 0)) := by decide +kernel
theorem fX8_resolves_268 : ftc 268 (me_ci mX8_resolves) = some (268, .iconst 1, 1, (0, 0, 0, 0)) := by decide +kernel
theorem fX8_resolves_269 : ftc 269 (me_ci mX8_resolves) = some (269, .if_icmp .ne 8, 3, (0, 0, 0, 0)) := by decide +kernel
theorem fX8_resolves_272 : ftc 272 (me_ci mX8_resolves) = some (272, .aload_n 0, 1, (0, 0, 0, 0)) := by decide +kernel
theorem fX8_resolves_273 : ftc 273 (me_ci mX8_resolves) = some (273, .iload_n 3, 1, (0, 0, 0, 0)) := by decide +kernel
theorem fX8_resolves_274 : ftc 274 (me_ci mX8_resolves) = some (274, .invokevirtual 88, 3, (105, 0, 790, 0)) := by decide +kernel
theorem fX8_resolves_277 : ftc 277 (me_ci mX8_resolves) = some (277, .iconst 0, 1, (0, 0, 0, 0)) := by decide +kernel
theorem fX8_resolves_278 : ftc 278 (me_ci mX8_resolves) = some (278, .istore 5, 2, (0, 0, 0, 0)) := by decide +kernel
theorem fX8_resolves_280 : ftc 280 (me_ci mX8_resolves) = some (280, .iload 5, 2, (0, 0, 0, 0)) := by decide +kernel
theorem fX8_resolves_282 : ftc 282 (me_ci mX8_resolves) = some (282, .aload_n 0, 1, (0, 0, 0, 0)) := by decide +kernel
theorem fX8_resolves_283 : ftc 283 (me_ci mX8_resolves) = some (283, .getfield 7, 3, (8, 0, 657, 0)) := by decide +kernel
theorem fX8_resolves_286 : ftc 286 (me_ci mX8_resolves) = some (286, .iconst 0, 1, (0, 0, 0, 0)) := by decide +kernel
theorem fX8_resolves_287 : ftc 287 (me_ci mX8_resolves) = some (287, .iaload, 1, (0, 0, 0, 0)) := by decide +kernel
theorem fX8_resolves_288 : ftc 288 (me_ci mX8_resolves) = some (288, .if_icmp .ge 25, 3, (0, 0, 0, 0)) := by decide +kernel
theorem fX8_resolves_291 : ftc 291 (me_ci mX8_resolves) = some (291, .aload_n 0, 1, (0, 0, 0, 0)) := by decide +kernel
theorem fX8_resolves_292 : ftc 292 (me_ci mX8_resolves) = some (292, .getfield 7, 3, (8, 0, 657, 0)) := by decide +kernel
theorem fX8_resolves_295 : ftc 295 (me_ci mX8_resolves) = some (295, .bipush 126, 2, (0, 0, 0, 0)) := by decide +kernel
theorem fX8_resolves_297 : ftc 297 (me_ci mX8_resolves) = some (297, .bipush 6, 2, (0, 0, 0, 0)) := by decide +kernel
theorem fX8_resolves_299 : ftc 299 (me_ci mX8_resolves) = some (299, .iload 5, 2, (0, 0, 0, 0)) := by decide +kernel
theorem fX8_resolves_301 : ftc 301 (me_ci mX8_resolves) = some (301, .imul, 1, (0, 0, 0, 0)) := by decide +kernel
theorem fX8_resolves_302 : ftc 302 (me_ci mX8_resolves) = some (302, .iadd, 1, (0, 0, 0, 0)) := by decide +kernel
theorem fX8_resolves_303 : ftc 303 (me_ci mX8_resolves) = some (303, .iconst 2, 1, (0, 0, 0, 0)) := by decide +kernel
theorem fX8_resolves_304 : ftc 304 (me_ci mX8_resolves) = some (304, .iadd, 1, (0, 0, 0, 0)) := by decide +kernel
theorem fX8_resolves_305 : ftc 305 (me_ci mX8_resolves) = some (305, .iconst (-1), 1, (0, 0, 0, 0)) := by decide +kernel
theorem fX8_resolves_306 : ftc 306 (me_ci mX8_resolves) = some (306, .iastore, 1, (0, 0, 0, 0)) := by decide +kernel
theorem fX8_resolves_307 : ftc 307 (me_ci mX8_resolves) = some (307, .iinc 5 1, 3, (0, 0, 0, 0)) := by decide +kernel
theorem fX8_resolves_310 : ftc 310 (me_ci mX8_resolves) = some (310, .goto (-30), 3, (0, 0, 0, 0)) := by decide +kernel
theorem fX8_resolves_313 : ftc 313 (me_ci mX8_resolves) = some (313, .iload_n 3, 1, (0, 0, 0, 0)) := by decide +kernel
theorem fX8_resolves_314 : ftc 314 (me_ci mX8_resolves) = some (314, .ireturn, 1, (0, 0, 0, 0)) := by decide +kernel
theorem pX8_resolves : pg 106 = some mX8_resolves := by decide +kernel
theorem fX8_resolve_0 : ftc 0 (me_ci mX8_resolve) = some (0, .aload_n 0, 1, (0, 0, 0, 0)) := by decide +kernel
theorem fX8_resolve_1 : ftc 1 (me_ci mX8_resolve) = some (1, .getfield 7, 3, (8, 0, 657, 0)) := by decide +kernel
theorem fX8_resolve_4 : ftc 4 (me_ci mX8_resolve) = some (4, .iconst 4, 1, (0, 0, 0, 0)) := by decide +kernel
theorem fX8_resolve_5 : ftc 5 (me_ci mX8_resolve) = some (5, .iaload, 1, (0, 0, 0, 0)) := by decide +kernel
theorem fX8_resolve_6 : ftc 6 (me_ci mX8_resolve) = some (6, .ifCond .eq 16, 3, (0, 0, 0, 0)) := by decide +kernel
theorem fX8_resolve_9 : ftc 9 (me_ci mX8_resolve) = some (9, .aload_n 0, 1, (0, 0, 0, 0)) := by decide +kernel
theorem fX8_resolve_10 : ftc 10 (me_ci mX8_resolve) = some (10, .invokevirtual 61, 3, (96, 0, 751, 0)) := by decide +kernel
theorem fX8_resolve_13 : ftc 13 (me_ci mX8_resolve) = some (13, .aload_n 0, 1, (0, 0, 0, 0)) := by decide +kernel
theorem fX8_resolve_14 : ftc 14 (me_ci mX8_resolve) = some (14, .getfield 7, 3, (8, 0, 657, 0)) := by decide +kernel
theorem fX8_resolve_17 : ftc 17 (me_ci mX8_resolve) = some (17, .iconst 0, 1, (0, 0, 0, 0)) := by decide +kernel
theorem fX8_resolve_18 : ftc 18 (me_ci mX8_resolve) = some (18, .iaload, 1, (0, 0, 0, 0)) := by decide +kernel
theorem fX8_resolve_19 : ftc 19 (me_ci mX8_resolve) = some (19, .if_icmp .ge 6, 3, (0, 0, 0, 0)) := by decide +kernel
theorem fX8_resolve_22 : ftc 22 (me_ci mX8_resolve) = some (22, .ldc 60, 2, (750, 0, 0, -1000002)) := by decide +kernel
theorem fX8_resolve_24 : ftc 24 (me_ci mX8_resolve) = some (24, .ireturn, 1, (0, 0, 0, 0)) := by decide +kernel
theorem fX8_resolve_25 : ftc 25 (me_ci mX8_resolve) = some (25, .aload_n 0, 1, (0, 0, 0, 0)) := by decide +kernel
theorem fX8_resolve_26 : ftc 26 (me_ci mX8_resolve) = some (26, .invokevirtual 48, 3, (90, 0, 729, 0)) := by decide +kernel
theorem fX8_resolve_29 : ftc 29 (me_ci mX8_resolve) = some (29, .aload_n 0, 1, (0, 0, 0, 0)) := by decide +kernel
theorem fX8_resolve_30 : ftc 30 (me_ci mX8_resolve) = some (30, .invokevirtual 92, 3, (106, 0, 759, 0)) := by decide +kernel
theorem fX8_resolve_33 : ftc 33 (me_ci mX8_resolve) = some (33, .ireturn, 1, (0, 0, 0, 0)) := by decide +kernel
theorem pX8_resolve : pg 107 = some mX8_resolve := by decide +kernel
theorem fX8_set_0 : ftc 0 (me_ci mX8_set) = some (0, .iload_n 1, 1, (0, 0, 0, 0)) := by decide +kernel
theorem fX8_set_1 : ftc 1 (me_ci mX8_set) = some (1, .iconst 0, 1, (0, 0, 0, 0)) := by decide +kernel
theorem fX8_set_2 : ftc 2 (me_ci mX8_set) = some (2, .iconst 2, 1, (0, 0, 0, 0)) := by decide +kernel
theorem fX8_set_3 : ftc 3 (me_ci mX8_set) = some (3, .invokestatic 43, 3, (88, 0, 654, 0)) := by decide +kernel
theorem fX8_set_6 : ftc 6 (me_ci mX8_set) = some (6, .ifCond .eq 21, 3, (0, 0, 0, 0)) := by decide +kernel
theorem fX8_set_9 : ftc 9 (me_ci mX8_set) = some (9, .iload_n 2, 1, (0, 0, 0, 0)) := by decide +kernel
theorem fX8_set_10 : ftc 10 (me_ci mX8_set) = some (10, .iconst 0, 1, (0, 0, 0, 0)) := by decide +kernel
theorem fX8_set_11 : ftc 11 (me_ci mX8_set) = some (11, .iload_n 1, 1, (0, 0, 0, 0)) := by decide +kernel
theorem fX8_set_12 : ftc 12 (me_ci mX8_set) = some (12, .iconst 2, 1, (0, 0, 0, 0)) := by decide +kernel
theorem fX8_set_13 : ftc 13 (me_ci mX8_set) = some (13, .if_icmp .ne 7, 3, (0, 0, 0, 0)) := by decide +kernel
theorem fX8_set_16 : ftc 16 (me_ci mX8_set) = some (16, .iconst 1, 1, (0, 0, 0, 0)) := by decide +kernel
theorem fX8_set_17 : ftc 17 (me_ci mX8_set) = some (17, .goto 4, 3, (0, 0, 0, 0)) := by decide +kernel
theorem fX8_set_20 : ftc 20 (me_ci mX8_set) = some (20, .iconst 5, 1, (0, 0, 0, 0)) := by decide +kernel
theorem fX8_set_21 : ftc 21 (me_ci mX8_set) = some (21, .invokestatic 43, 3, (88, 0, 654, 0)) := by decide +kernel
theorem fX8_set_24 : ftc 24 (me_ci mX8_set) = some (24, .ifCond .ne 6, 3, (0, 0, 0, 0)) := by decide +kernel
theorem fX8_set_27 : ftc 27 (me_ci mX8_set) = some (27, .ldc 47, 2, (728, 0, 0, -1000001)) := by decide +kernel
theorem fX8_set_29 : ftc 29 (me_ci mX8_set) = some (29, .ireturn, 1, (0, 0, 0, 0)) := by decide +kernel
theorem fX8_set_30 : ftc 30 (me_ci mX8_set) = some (30, .aload_n 0, 1, (0, 0, 0, 0)) := by decide +kernel
theorem fX8_set_31 : ftc 31 (me_ci mX8_set) = some (31, .invokevirtual 48, 3, (90, 0, 729, 0)) := by decide +kernel
theorem fX8_set_34 : ftc 34 (me_ci mX8_set) = some (34, .aload_n 0, 1, (0, 0, 0, 0)) := by decide +kernel
theorem fX8_set_35 : ftc 35 (me_ci mX8_set) = some (35, .getfield 7, 3, (8, 0, 657, 0)) := by decide +kernel
theorem fX8_set_38 : ftc 38 (me_ci mX8_set) = some (38, .bipush 26, 2, (0, 0, 0, 0)) := by decide +kernel
theorem fX8_set_40 : ftc 40 (me_ci mX8_set) = some (40, .iload_n 1, 1, (0, 0, 0, 0)) := by decide +kernel
theorem fX8_set_41 : ftc 41 (me_ci mX8_set) = some (41, .iadd, 1, (0, 0, 0, 0)) := by decide +kernel
theorem fX8_set_42 : ftc 42 (me_ci mX8_set) = some (42, .iaload, 1, (0, 0, 0, 0)) := by decide +kernel
theorem fX8_set_43 : ftc 43 (me_ci mX8_set) = some (43, .istore_n 3, 1, (0, 0, 0, 0)) := by decide +kernel
theorem fX8_set_44 : ftc 44 (me_ci mX8_set) = some (44, .aload_n 0, 1, (0, 0, 0, 0)) := by decide +kernel
theorem fX8_set_45 : ftc 45 (me_ci mX8_set) = some (45, .getfield 7, 3, (8, 0, 657, 0)) := by decide +kernel
theorem fX8_set_48 : ftc 48 (me_ci mX8_set) = some (48, .bipush 26, 2, (0, 0, 0, 0)) := by decide +kernel
theorem fX8_set_50 : ftc 50 (me_ci mX8_set) = some (50, .iload_n 1, 1, (0, 0, 0, 0)) := by decide +kernel
theorem fX8_set_51 : ftc 51 (me_ci mX8_set) = some (51, .iadd, 1, (0, 0, 0, 0)) := by decide +kernel
theorem fX8_set_52 : ftc 52 (me_ci mX8_set) = some (52, .iload_n 2, 1, (0, 0, 0, 0)) := by decide +kernel
theorem fX8_set_53 : ftc 53 (me_ci mX8_set) = some (53, .iastore, 1, (0, 0, 0, 0)) := by decide +kernel
theorem fX8_set_54 : ftc 54 (me_ci mX8_set) = some (54, .iload_n 3, 1, (0, 0, 0, 0)) := by decide +kernel
theorem fX8_set_55 : ftc 55 (me_ci mX8_set) = some (55, .ireturn, 1, (0, 0, 0, 0)) := by decide +kernel
theorem pX8_set : pg 108 = some mX8_set := by decide +kernel
theorem fX8_playerOf_0 : ftc 0 (me_ci mX8_playerOf) = some (0, .aload_n 0, 1, (0, 0, 0, 0)) := by decide +kernel
theorem fX8_playerOf_1 : ftc 1 (me_ci mX8_playerOf) = some (1, .iload_n 1, 1, (0, 0, 0, 0)) := by decide +kernel
theorem fX8_playerOf_2 : ftc 2 (me_ci mX8_playerOf) = some (2, .invokevirtual 56, 3, (91, 0, 742, 0)) := by decide +kernel
theorem fX8_playerOf_5 : ftc 5 (me_ci mX8_playerOf) = some (5, .ifCond .eq 12, 3, (0, 0, 0, 0)) := by decide +kernel
theorem fX8_playerOf_8 : ftc 8 (me_ci mX8_playerOf) = some (8, .iload_n 2, 1, (0, 0, 0, 0)) := by decide +kernel
theorem fX8_playerOf_9 : ftc 9 (me_ci mX8_playerOf) = some (9, .iconst 0, 1, (0, 0, 0, 0)) := by decide +kernel
theorem fX8_playerOf_10 : ftc 10 (me_ci mX8_playerOf) = some (10, .iconst 5, 1, (0, 0, 0, 0)) := by decide +kernel
theorem fX8_playerOf_11 : ftc 11 (me_ci mX8_playerOf) = some (11, .invokestatic 43, 3, (88, 0, 654, 0)) := by decide +kernel
theorem fX8_playerOf_14 : ftc 14 (me_ci mX8_playerOf) = some (14, .ifCond .ne 6, 3, (0, 0, 0, 0)) := by decide +kernel
theorem fX8_playerOf_17 : ftc 17 (me_ci mX8_playerOf) = some (17, .ldc 47, 2, (728, 0, 0, -1000001)) := by decide +kernel
theorem fX8_playerOf_19 : ftc 19 (me_ci mX8_playerOf) = some (19, .ireturn, 1, (0, 0, 0, 0)) := by decide +kernel
theorem fX8_playerOf_20 : ftc 20 (me_ci mX8_playerOf) = some (20, .iload_n 2, 1, (0, 0, 0, 0)) := by decide +kernel
theorem fX8_playerOf_21 : ftc 21 (me_ci mX8_playerOf) = some (21, .iconst 2, 1, (0, 0, 0, 0)) := by decide +kernel
theorem fX8_playerOf_22 : ftc 22 (me_ci mX8_playerOf) = some (22, .if_icmp .ne 20, 3, (0, 0, 0, 0)) := by decide +kernel
theorem fX8_playerOf_25 : ftc 25 (me_ci mX8_playerOf) = some (25, .aload_n 0, 1, (0, 0, 0, 0)) := by decide +kernel
theorem fX8_playerOf_26 : ftc 26 (me_ci mX8_playerOf) = some (26, .iload_n 1, 1, (0, 0, 0, 0)) := by decide +kernel
theorem fX8_playerOf_27 : ftc 27 (me_ci mX8_playerOf) = some (27, .iconst 2, 1, (0, 0, 0, 0)) := by decide +kernel
theorem fX8_playerOf_28 : ftc 28 (me_ci mX8_playerOf) = some (28, .invokevirtual 52, 3, (92, 0, 746, 0)) := by decide +kernel
theorem fX8_playerOf_31 : ftc 31 (me_ci mX8_playerOf) = some (31, .ifCond .lt 7, 3, (0, 0, 0, 0)) := by decide +kernel
theorem fX8_playerOf_34 : ftc 34 (me_ci mX8_playerOf) = some (34, .iconst 1, 1, (0, 0, 0, 0)) := by decide +kernel
theorem fX8_playerOf_35 : ftc 35 (me_ci mX8_playerOf) = some (35, .goto 13, 3, (0, 0, 0, 0)) := by decide +kernel
theorem fX8_playerOf_38 : ftc 38 (me_ci mX8_playerOf) = some (38, .iconst 0, 1, (0, 0, 0, 0)) := by decide +kernel
theorem fX8_playerOf_39 : ftc 39 (me_ci mX8_playerOf) = some (39, .goto 9, 3, (0, 0, 0, 0)) := by decide +kernel
theorem fX8_playerOf_42 : ftc 42 (me_ci mX8_playerOf) = some (42, .aload_n 0, 1, (0, 0, 0, 0)) := by decide +kernel
theorem fX8_playerOf_43 : ftc 43 (me_ci mX8_playerOf) = some (43, .iload_n 1, 1, (0, 0, 0, 0)) := by decide +kernel
theorem fX8_playerOf_44 : ftc 44 (me_ci mX8_playerOf) = some (44, .iload_n 2, 1, (0, 0, 0, 0)) := by decide +kernel
theorem fX8_playerOf_45 : ftc 45 (me_ci mX8_playerOf) = some (45, .invokevirtual 52, 3, (92, 0, 746, 0)) := by decide +kernel
theorem fX8_playerOf_48 : ftc 48 (me_ci mX8_playerOf) = some (48, .ireturn, 1, (0, 0, 0, 0)) := by decide +kernel
theorem pX8_playerOf : pg 109 = some mX8_playerOf := by decide +kernel
theorem fX8_lotOf_0 : ftc 0 (me_ci mX8_lotOf) = some (0, .iload_n 1, 1, (0, 0, 0, 0)) := by decide +kernel
theorem fX8_lotOf_1 : ftc 1 (me_ci mX8_lotOf) = some (1, .iconst 0, 1, (0, 0, 0, 0)) := by decide +kernel
theorem fX8_lotOf_2 : ftc 2 (me_ci mX8_lotOf) = some (2, .iconst 1, 1, (0, 0, 0, 0)) := by decide +kernel
theorem fX8_lotOf_3 : ftc 3 (me_ci mX8_lotOf) = some (3, .invokestatic 43, 3, (88, 0, 654, 0)) := by decide +kernel
theorem fX8_lotOf_6 : ftc 6 (me_ci mX8_lotOf) = some (6, .ifCond .eq 7, 3, (0, 0, 0, 0)) := by decide +kernel
theorem fX8_lotOf_9 : ftc 9 (me_ci mX8_lotOf) = some (9, .iload_n 2, 1, (0, 0, 0, 0)) := by decide +kernel
theorem fX8_lotOf_10 : ftc 10 (me_ci mX8_lotOf) = some (10, .ifCond .ge 6, 3, (0, 0, 0, 0)) := by decide +kernel
theorem fX8_lotOf_13 : ftc 13 (me_ci mX8_lotOf) = some (13, .ldc 47, 2, (728, 0, 0, -1000001)) := by decide +kernel
theorem fX8_lotOf_15 : ftc 15 (me_ci mX8_lotOf) = some (15, .ireturn, 1, (0, 0, 0, 0)) := by decide +kernel
theorem fX8_lotOf_16 : ftc 16 (me_ci mX8_lotOf) = some (16, .iload_n 2, 1, (0, 0, 0, 0)) := by decide +kernel
theorem fX8_lotOf_17 : ftc 17 (me_ci mX8_lotOf) = some (17, .aload_n 0, 1, (0, 0, 0, 0)) := by decide +kernel
theorem fX8_lotOf_18 : ftc 18 (me_ci mX8_lotOf) = some (18, .getfield 7, 3, (8, 0, 657, 0)) := by decide +kernel
theorem fX8_lotOf_21 : ftc 21 (me_ci mX8_lotOf) = some (21, .iload_n 1, 1, (0, 0, 0, 0)) := by decide +kernel
theorem fX8_lotOf_22 : ftc 22 (me_ci mX8_lotOf) = some (22, .ifCond .ne 7, 3, (0, 0, 0, 0)) := by decide +kernel
theorem fX8_lotOf_25 : ftc 25 (me_ci mX8_lotOf) = some (25, .iconst 4, 1, (0, 0, 0, 0)) := by decide +kernel
theorem fX8_lotOf_26 : ftc 26 (me_ci mX8_lotOf) = some (26, .goto 5, 3, (0, 0, 0, 0)) := by decide +kernel
theorem fX8_lotOf_29 : ftc 29 (me_ci mX8_lotOf) = some (29, .bipush 25, 2, (0, 0, 0, 0)) := by decide +kernel
theorem fX8_lotOf_31 : ftc 31 (me_ci mX8_lotOf) = some (31, .iaload, 1, (0, 0, 0, 0)) := by decide +kernel
theorem fX8_lotOf_32 : ftc 32 (me_ci mX8_lotOf) = some (32, .if_icmp .lt 8, 3, (0, 0, 0, 0)) := by decide +kernel
theorem fX8_lotOf_35 : ftc 35 (me_ci mX8_lotOf) = some (35, .ldc 95, 2, (806, 0, 0, -1000004)) := by decide +kernel
theorem fX8_lotOf_37 : ftc 37 (me_ci mX8_lotOf) = some (37, .goto 21, 3, (0, 0, 0, 0)) := by decide +kernel
theorem fX8_lotOf_40 : ftc 40 (me_ci mX8_lotOf) = some (40, .aload_n 0, 1, (0, 0, 0, 0)) := by decide +kernel
theorem fX8_lotOf_41 : ftc 41 (me_ci mX8_lotOf) = some (41, .getfield 7, 3, (8, 0, 657, 0)) := by decide +kernel
theorem fX8_lotOf_44 : ftc 44 (me_ci mX8_lotOf) = some (44, .iload_n 1, 1, (0, 0, 0, 0)) := by decide +kernel
theorem fX8_lotOf_45 : ftc 45 (me_ci mX8_lotOf) = some (45, .ifCond .ne 7, 3, (0, 0, 0, 0)) := by decide +kernel
theorem fX8_lotOf_48 : ftc 48 (me_ci mX8_lotOf) = some (48, .iconst 5, 1, (0, 0, 0, 0)) := by decide +kernel
theorem fX8_lotOf_49 : ftc 49 (me_ci mX8_lotOf) = some (49, .goto 6, 3, (0, 0, 0, 0)) := by decide +kernel
theorem fX8_lotOf_52 : ftc 52 (me_ci mX8_lotOf) = some (52, .sipush 2087, 3, (0, 0, 0, 0)) := by decide +kernel
theorem fX8_lotOf_55 : ftc 55 (me_ci mX8_lotOf) = some (55, .iload_n 2, 1, (0, 0, 0, 0)) := by decide +kernel
theorem fX8_lotOf_56 : ftc 56 (me_ci mX8_lotOf) = some (56, .iadd, 1, (0, 0, 0, 0)) := by decide +kernel
theorem fX8_lotOf_57 : ftc 57 (me_ci mX8_lotOf) = some (57, .iaload, 1, (0, 0, 0, 0)) := by decide +kernel
theorem fX8_lotOf_58 : ftc 58 (me_ci mX8_lotOf) = some (58, .ireturn, 1, (0, 0, 0, 0)) := by decide +kernel
theorem pX8_lotOf : pg 110 = some mX8_lotOf := by decide +kernel
theorem fX8_roundOf_0 : ftc 0 (me_ci mX8_roundOf) = some (0, .iload_n 2, 1, (0, 0, 0, 0)) := by decide +kernel
theorem fX8_roundOf_1 : ftc 1 (me_ci mX8_roundOf) = some (1, .bipush 10, 2, (0, 0, 0, 0)) := by decide +kernel
theorem fX8_roundOf_3 : ftc 3 (me_ci mX8_roundOf) = some (3, .if_icmp .lt 18, 3, (0, 0, 0, 0)) := by decide +kernel
theorem fX8_roundOf_6 : ftc 6 (me_ci mX8_roundOf) = some (6, .aload_n 0, 1, (0, 0, 0, 0)) := by decide +kernel
theorem fX8_roundOf_7 : ftc 7 (me_ci mX8_roundOf) = some (7, .iload_n 2, 1, (0, 0, 0, 0)) := by decide +kernel
theorem fX8_roundOf_8 : ftc 8 (me_ci mX8_roundOf) = some (8, .bipush 10, 2, (0, 0, 0, 0)) := by decide +kernel
theorem fX8_roundOf_10 : ftc 10 (me_ci mX8_roundOf) = some (10, .isub, 1, (0, 0, 0, 0)) := by decide +kernel
theorem fX8_roundOf_11 : ftc 11 (me_ci mX8_roundOf) = some (11, .invokevirtual 56, 3, (91, 0, 742, 0)) := by decide +kernel
theorem fX8_roundOf_14 : ftc 14 (me_ci mX8_roundOf) = some (14, .ifCond .eq 7, 3, (0, 0, 0, 0)) := by decide +kernel
theorem fX8_roundOf_17 : ftc 17 (me_ci mX8_roundOf) = some (17, .iconst 1, 1, (0, 0, 0, 0)) := by decide +kernel
theorem fX8_roundOf_18 : ftc 18 (me_ci mX8_roundOf) = some (18, .goto 4, 3, (0, 0, 0, 0)) := by decide +kernel
theorem fX8_roundOf_21 : ftc 21 (me_ci mX8_roundOf) = some (21, .iconst 0, 1, (0, 0, 0, 0)) := by decide +kernel
theorem fX8_roundOf_22 : ftc 22 (me_ci mX8_roundOf) = some (22, .istore_n 3, 1, (0, 0, 0, 0)) := by decide +kernel
theorem fX8_roundOf_23 : ftc 23 (me_ci mX8_roundOf) = some (23, .iload_n 1, 1, (0, 0, 0, 0)) := by decide +kernel
theorem fX8_roundOf_24 : ftc 24 (me_ci mX8_roundOf) = some (24, .ifCond .lt 16, 3, (0, 0, 0, 0)) := by decide +kernel
theorem fX8_roundOf_27 : ftc 27 (me_ci mX8_roundOf) = some (27, .iload_n 2, 1, (0, 0, 0, 0)) := by decide +kernel
theorem fX8_roundOf_28 : ftc 28 (me_ci mX8_roundOf) = some (28, .iconst 0, 1, (0, 0, 0, 0)) := by decide +kernel
theorem fX8_roundOf_29 : ftc 29 (me_ci mX8_roundOf) = some (29, .iconst 3, 1, (0, 0, 0, 0)) := by decide +kernel
theorem fX8_roundOf_30 : ftc 30 (me_ci mX8_roundOf) = some (30, .invokestatic 43, 3, (88, 0, 654, 0)) := by decide +kernel
theorem fX8_roundOf_33 : ftc 33 (me_ci mX8_roundOf) = some (33, .ifCond .ne 10, 3, (0, 0, 0, 0)) := by decide +kernel
theorem fX8_roundOf_36 : ftc 36 (me_ci mX8_roundOf) = some (36, .iload_n 3, 1, (0, 0, 0, 0)) := by decide +kernel
theorem fX8_roundOf_37 : ftc 37 (me_ci mX8_roundOf) = some (37, .ifCond .ne 6, 3, (0, 0, 0, 0)) := by decide +kernel
theorem fX8_roundOf_40 : ftc 40 (me_ci mX8_roundOf) = some (40, .ldc 47, 2, (728, 0, 0, -1000001)) := by decide +kernel
theorem fX8_roundOf_42 : ftc 42 (me_ci mX8_roundOf) = some (42, .ireturn, 1, (0, 0, 0, 0)) := by decide +kernel
theorem fX8_roundOf_43 : ftc 43 (me_ci mX8_roundOf) = some (43, .iload_n 1, 1, (0, 0, 0, 0)) := by decide +kernel
theorem fX8_roundOf_44 : ftc 44 (me_ci mX8_roundOf) = some (44, .aload_n 0, 1, (0, 0, 0, 0)) := by decide +kernel
theorem fX8_roundOf_45 : ftc 45 (me_ci mX8_roundOf) = some (45, .getfield 7, 3, (8, 0, 657, 0)) := by decide +kernel
theorem fX8_roundOf_48 : ftc 48 (me_ci mX8_roundOf) = some (48, .bipush 29, 2, (0, 0, 0, 0)) := by decide +kernel
theorem fX8_roundOf_50 : ftc 50 (me_ci mX8_roundOf) = some (50, .iaload, 1, (0, 0, 0, 0)) := by decide +kernel
theorem fX8_roundOf_51 : ftc 51 (me_ci mX8_roundOf) = some (51, .if_icmp .lt 8, 3, (0, 0, 0, 0)) := by decide +kernel
theorem fX8_roundOf_54 : ftc 54 (me_ci mX8_roundOf) = some (54, .ldc 95, 2, (806, 0, 0, -1000004)) := by decide +kernel
theorem fX8_roundOf_56 : ftc 56 (me_ci mX8_roundOf) = some (56, .goto 28, 3, (0, 0, 0, 0)) := by decide +kernel
theorem fX8_roundOf_59 : ftc 59 (me_ci mX8_roundOf) = some (59, .aload_n 0, 1, (0, 0, 0, 0)) := by decide +kernel
theorem fX8_roundOf_60 : ftc 60 (me_ci mX8_roundOf) = some (60, .getfield 7, 3, (8, 0, 657, 0)) := by decide +kernel
theorem fX8_roundOf_63 : ftc 63 (me_ci mX8_roundOf) = some (63, .bipush 30, 2, (0, 0, 0, 0)) := by decide +kernel
theorem fX8_roundOf_65 : ftc 65 (me_ci mX8_roundOf) = some (65, .bipush 8, 2, (0, 0, 0, 0)) := by decide +kernel
theorem fX8_roundOf_67 : ftc 67 (me_ci mX8_roundOf) = some (67, .iload_n 1, 1, (0, 0, 0, 0)) := by decide +kernel
theorem fX8_roundOf_68 : ftc 68 (me_ci mX8_roundOf) = some (68, .imul, 1, (0, 0, 0, 0)) := by decide +kernel
theorem fX8_roundOf_69 : ftc 69 (me_ci mX8_roundOf) = some (69, .iadd, 1, (0, 0, 0, 0)) := by decide +kernel
theorem fX8_roundOf_70 : ftc 70 (me_ci mX8_roundOf) = some (70, .iload_n 3, 1, (0, 0, 0, 0)) := by decide +kernel
theorem fX8_roundOf_71 : ftc 71 (me_ci mX8_roundOf) = some (71, .ifCond .eq 10, 3, (0, 0, 0, 0)) := by decide +kernel
theorem fX8_roundOf_74 : ftc 74 (me_ci mX8_roundOf) = some (74, .iload_n 2, 1, (0, 0, 0, 0)) := by decide +kernel
theorem fX8_roundOf_75 : ftc 75 (me_ci mX8_roundOf) = some (75, .bipush 6, 2, (0, 0, 0, 0)) := by decide +kernel
theorem fX8_roundOf_77 : ftc 77 (me_ci mX8_roundOf) = some (77, .isub, 1, (0, 0, 0, 0)) := by decide +kernel
theorem fX8_roundOf_78 : ftc 78 (me_ci mX8_roundOf) = some (78, .goto 4, 3, (0, 0, 0, 0)) := by decide +kernel
theorem fX8_roundOf_81 : ftc 81 (me_ci mX8_roundOf) = some (81, .iload_n 2, 1, (0, 0, 0, 0)) := by decide +kernel
theorem fX8_roundOf_82 : ftc 82 (me_ci mX8_roundOf) = some (82, .iadd, 1, (0, 0, 0, 0)) := by decide +kernel
theorem fX8_roundOf_83 : ftc 83 (me_ci mX8_roundOf) = some (83, .iaload, 1, (0, 0, 0, 0)) := by decide +kernel
theorem fX8_roundOf_84 : ftc 84 (me_ci mX8_roundOf) = some (84, .ireturn, 1, (0, 0, 0, 0)) := by decide +kernel
theorem pX8_roundOf : pg 111 = some mX8_roundOf := by decide +kernel
theorem fX8_record_0 : ftc 0 (me_ci mX8_record) = some (0, .iload_n 1, 1, (0, 0, 0, 0)) := by decide +kernel
theorem fX8_record_1 : ftc 1 (me_ci mX8_record) = some (1, .ifCond .lt 12, 3, (0, 0, 0, 0)) := by decide +kernel
theorem fX8_record_4 : ftc 4 (me_ci mX8_record) = some (4, .iload_n 2, 1, (0, 0, 0, 0)) := by decide +kernel
theorem fX8_record_5 : ftc 5 (me_ci mX8_record) = some (5, .iconst 0, 1, (0, 0, 0, 0)) := by decide +kernel
theorem fX8_record_6 : ftc 6 (me_ci mX8_record) = some (6, .iconst 3, 1, (0, 0, 0, 0)) := by decide +kernel
theorem fX8_record_7 : ftc 7 (me_ci mX8_record) = some (7, .invokestatic 43, 3, (88, 0, 654, 0)) := by decide +kernel
theorem fX8_record_10 : ftc 10 (me_ci mX8_record) = some (10, .ifCond .ne 6, 3, (0, 0, 0, 0)) := by decide +kernel
theorem fX8_record_13 : ftc 13 (me_ci mX8_record) = some (13, .ldc 47, 2, (728, 0, 0, -1000001)) := by decide +kernel
theorem fX8_record_15 : ftc 15 (me_ci mX8_record) = some (15, .ireturn, 1, (0, 0, 0, 0)) := by decide +kernel
theorem fX8_record_16 : ftc 16 (me_ci mX8_record) = some (16, .iload_n 1, 1, (0, 0, 0, 0)) := by decide +kernel
theorem fX8_record_17 : ftc 17 (me_ci mX8_record) = some (17, .aload_n 0, 1, (0, 0, 0, 0)) := by decide +kernel
theorem fX8_record_18 : ftc 18 (me_ci mX8_record) = some (18, .getfield 7, 3, (8, 0, 657, 0)) := by decide +kernel
theorem fX8_record_21 : ftc 21 (me_ci mX8_record) = some (21, .sipush 150, 3, (0, 0, 0, 0)) := by decide +kernel
theorem fX8_record_24 : ftc 24 (me_ci mX8_record) = some (24, .iaload, 1, (0, 0, 0, 0)) := by decide +kernel
theorem fX8_record_25 : ftc 25 (me_ci mX8_record) = some (25, .if_icmp .lt 8, 3, (0, 0, 0, 0)) := by decide +kernel
theorem fX8_record_28 : ftc 28 (me_ci mX8_record) = some (28, .ldc 95, 2, (806, 0, 0, -1000004)) := by decide +kernel
theorem fX8_record_30 : ftc 30 (me_ci mX8_record) = some (30, .goto 17, 3, (0, 0, 0, 0)) := by decide +kernel
theorem fX8_record_33 : ftc 33 (me_ci mX8_record) = some (33, .aload_n 0, 1, (0, 0, 0, 0)) := by decide +kernel
theorem fX8_record_34 : ftc 34 (me_ci mX8_record) = some (34, .getfield 7, 3, (8, 0, 657, 0)) := by decide +kernel
theorem fX8_record_37 : ftc 37 (me_ci mX8_record) = some (37, .sipush 151, 3, (0, 0, 0, 0)) := by decide +kernel
theorem fX8_record_40 : ftc 40 (me_ci mX8_record) = some (40, .iconst 4, 1, (0, 0, 0, 0)) := by decide +kernel
theorem fX8_record_41 : ftc 41 (me_ci mX8_record) = some (41, .iload_n 1, 1, (0, 0, 0, 0)) := by decide +kernel
theorem fX8_record_42 : ftc 42 (me_ci mX8_record) = some (42, .imul, 1, (0, 0, 0, 0)) := by decide +kernel
theorem fX8_record_43 : ftc 43 (me_ci mX8_record) = some (43, .iadd, 1, (0, 0, 0, 0)) := by decide +kernel
theorem fX8_record_44 : ftc 44 (me_ci mX8_record) = some (44, .iload_n 2, 1, (0, 0, 0, 0)) := by decide +kernel
theorem fX8_record_45 : ftc 45 (me_ci mX8_record) = some (45, .iadd, 1, (0, 0, 0, 0)) := by decide +kernel
theorem fX8_record_46 : ftc 46 (me_ci mX8_record) = some (46, .iaload, 1, (0, 0, 0, 0)) := by decide +kernel
theorem fX8_record_47 : ftc 47 (me_ci mX8_record) = some (47, .ireturn, 1, (0, 0, 0, 0)) := by decide +kernel
theorem pX8_record : pg 112 = some mX8_record := by decide +kernel
theorem fX8_coinsAll_0 : ftc 0 (me_ci mX8_coinsAll) = some (0, .aload_n 0, 1, (0, 0, 0, 0)) := by decide +kernel
theorem fX8_coinsAll_1 : ftc 1 (me_ci mX8_coinsAll) = some (1, .getfield 7, 3, (8, 0, 657, 0)) := by decide +kernel
theorem fX8_coinsAll_4 : ftc 4 (me_ci mX8_coinsAll) = some (4, .iconst 1, 1, (0, 0, 0, 0)) := by decide +kernel
theorem fX8_coinsAll_5 : ftc 5 (me_ci mX8_coinsAll) = some (5, .iaload, 1, (0, 0, 0, 0)) := by decide +kernel
theorem fX8_coinsAll_6 : ftc 6 (me_ci mX8_coinsAll) = some (6, .istore_n 1, 1, (0, 0, 0, 0)) := by decide +kernel
theorem fX8_coinsAll_7 : ftc 7 (me_ci mX8_coinsAll) = some (7, .iconst 0, 1, (0, 0, 0, 0)) := by decide +kernel
theorem fX8_coinsAll_8 : ftc 8 (me_ci mX8_coinsAll) = some (8, .istore_n 2, 1, (0, 0, 0, 0)) := by decide +kernel
theorem fX8_coinsAll_9 : ftc 9 (me_ci mX8_coinsAll) = some (9, .iload_n 2, 1, (0, 0, 0, 0)) := by decide +kernel
theorem fX8_coinsAll_10 : ftc 10 (me_ci mX8_coinsAll) = some (10, .aload_n 0, 1, (0, 0, 0, 0)) := by decide +kernel
theorem fX8_coinsAll_11 : ftc 11 (me_ci mX8_coinsAll) = some (11, .getfield 7, 3, (8, 0, 657, 0)) := by decide +kernel
theorem fX8_coinsAll_14 : ftc 14 (me_ci mX8_coinsAll) = some (14, .iconst 0, 1, (0, 0, 0, 0)) := by decide +kernel
theorem fX8_coinsAll_15 : ftc 15 (me_ci mX8_coinsAll) = some (15, .iaload, 1, (0, 0, 0, 0)) := by decide +kernel
theorem fX8_coinsAll_16 : ftc 16 (me_ci mX8_coinsAll) = some (16, .if_icmp .ge 18, 3, (0, 0, 0, 0)) := by decide +kernel
theorem fX8_coinsAll_19 : ftc 19 (me_ci mX8_coinsAll) = some (19, .iload_n 1, 1, (0, 0, 0, 0)) := by decide +kernel
theorem fX8_coinsAll_20 : ftc 20 (me_ci mX8_coinsAll) = some (20, .aload_n 0, 1, (0, 0, 0, 0)) := by decide +kernel
theorem fX8_coinsAll_21 : ftc 21 (me_ci mX8_coinsAll) = some (21, .iload_n 2, 1, (0, 0, 0, 0)) := by decide +kernel
theorem fX8_coinsAll_22 : ftc 22 (me_ci mX8_coinsAll) = some (22, .iconst 0, 1, (0, 0, 0, 0)) := by decide +kernel
theorem fX8_coinsAll_23 : ftc 23 (me_ci mX8_coinsAll) = some (23, .invokevirtual 52, 3, (92, 0, 746, 0)) := by decide +kernel
theorem fX8_coinsAll_26 : ftc 26 (me_ci mX8_coinsAll) = some (26, .iadd, 1, (0, 0, 0, 0)) := by decide +kernel
theorem fX8_coinsAll_27 : ftc 27 (me_ci mX8_coinsAll) = some (27, .istore_n 1, 1, (0, 0, 0, 0)) := by decide +kernel
theorem fX8_coinsAll_28 : ftc 28 (me_ci mX8_coinsAll) = some (28, .iinc 2 1, 3, (0, 0, 0, 0)) := by decide +kernel
theorem fX8_coinsAll_31 : ftc 31 (me_ci mX8_coinsAll) = some (31, .goto (-22), 3, (0, 0, 0, 0)) := by decide +kernel
theorem fX8_coinsAll_34 : ftc 34 (me_ci mX8_coinsAll) = some (34, .iload_n 1, 1, (0, 0, 0, 0)) := by decide +kernel
theorem fX8_coinsAll_35 : ftc 35 (me_ci mX8_coinsAll) = some (35, .ireturn, 1, (0, 0, 0, 0)) := by decide +kernel
theorem pX8_coinsAll : pg 113 = some mX8_coinsAll := by decide +kernel
theorem fX8_count_0 : ftc 0 (me_ci mX8_count) = some (0, .iload_n 1, 1, (0, 0, 0, 0)) := by decide +kernel
theorem fX8_count_1 : ftc 1 (me_ci mX8_count) = some (1, .tableswitch 157 0 12 #[67, 74, 81, 89, 94, 101, 108, 115, 120, 125, 134, 139, 144], 67, (0, 0, 0, 0)) := by decide +kernel
theorem fX8_count_68 : ftc 68 (me_ci mX8_count) = some (68, .aload_n 0, 1, (0, 0, 0, 0)) := by decide +kernel
theorem fX8_count_69 : ftc 69 (me_ci mX8_count) = some (69, .getfield 7, 3, (8, 0, 657, 0)) := by decide +kernel
theorem fX8_count_72 : ftc 72 (me_ci mX8_count) = some (72, .iconst 0, 1, (0, 0, 0, 0)) := by decide +kernel
theorem fX8_count_73 : ftc 73 (me_ci mX8_count) = some (73, .iaload, 1, (0, 0, 0, 0)) := by decide +kernel
theorem fX8_count_74 : ftc 74 (me_ci mX8_count) = some (74, .ireturn, 1, (0, 0, 0, 0)) := by decide +kernel
theorem fX8_count_75 : ftc 75 (me_ci mX8_count) = some (75, .aload_n 0, 1, (0, 0, 0, 0)) := by decide +kernel
theorem fX8_count_76 : ftc 76 (me_ci mX8_count) = some (76, .getfield 7, 3, (8, 0, 657, 0)) := by decide +kernel
theorem fX8_count_79 : ftc 79 (me_ci mX8_count) = some (79, .iconst 4, 1, (0, 0, 0, 0)) := by decide +kernel
theorem fX8_count_80 : ftc 80 (me_ci mX8_count) = some (80, .iaload, 1, (0, 0, 0, 0)) := by decide +kernel
theorem fX8_count_81 : ftc 81 (me_ci mX8_count) = some (81, .ireturn, 1, (0, 0, 0, 0)) := by decide +kernel
theorem fX8_count_82 : ftc 82 (me_ci mX8_count) = some (82, .aload_n 0, 1, (0, 0, 0, 0)) := by decide +kernel
theorem fX8_count_83 : ftc 83 (me_ci mX8_count) = some (83, .getfield 7, 3, (8, 0, 657, 0)) := by decide +kernel
theorem fX8_count_86 : ftc 86 (me_ci mX8_count) = some (86, .bipush 25, 2, (0, 0, 0, 0)) := by decide +kernel
theorem fX8_count_88 : ftc 88 (me_ci mX8_count) = some (88, .iaload, 1, (0, 0, 0, 0)) := by decide +kernel
theorem fX8_count_89 : ftc 89 (me_ci mX8_count) = some (89, .ireturn, 1, (0, 0, 0, 0)) := by decide +kernel
theorem fX8_count_90 : ftc 90 (me_ci mX8_count) = some (90, .aload_n 0, 1, (0, 0, 0, 0)) := by decide +kernel
theorem fX8_count_91 : ftc 91 (me_ci mX8_count) = some (91, .invokevirtual 71, 3, (98, 0, 767, 0)) := by decide +kernel
theorem fX8_count_94 : ftc 94 (me_ci mX8_count) = some (94, .ireturn, 1, (0, 0, 0, 0)) := by decide +kernel
theorem fX8_count_95 : ftc 95 (me_ci mX8_count) = some (95, .aload_n 0, 1, (0, 0, 0, 0)) := by decide +kernel
theorem fX8_count_96 : ftc 96 (me_ci mX8_count) = some (96, .getfield 7, 3, (8, 0, 657, 0)) := by decide +kernel
theorem fX8_count_99 : ftc 99 (me_ci mX8_count) = some (99, .iconst 1, 1, (0, 0, 0, 0)) := by decide +kernel
theorem fX8_count_100 : ftc 100 (me_ci mX8_count) = some (100, .iaload, 1, (0, 0, 0, 0)) := by decide +kernel
theorem fX8_count_101 : ftc 101 (me_ci mX8_count) = some (101, .ireturn, 1, (0, 0, 0, 0)) := by decide +kernel
theorem fX8_count_102 : ftc 102 (me_ci mX8_count) = some (102, .aload_n 0, 1, (0, 0, 0, 0)) := by decide +kernel
theorem fX8_count_103 : ftc 103 (me_ci mX8_count) = some (103, .getfield 7, 3, (8, 0, 657, 0)) := by decide +kernel
theorem fX8_count_106 : ftc 106 (me_ci mX8_count) = some (106, .iconst 2, 1, (0, 0, 0, 0)) := by decide +kernel
theorem fX8_count_107 : ftc 107 (me_ci mX8_count) = some (107, .iaload, 1, (0, 0, 0, 0)) := by decide +kernel
theorem fX8_count_108 : ftc 108 (me_ci mX8_count) = some (108, .ireturn, 1, (0, 0, 0, 0)) := by decide +kernel
theorem fX8_count_109 : ftc 109 (me_ci mX8_count) = some (109, .aload_n 0, 1, (0, 0, 0, 0)) := by decide +kernel
theorem fX8_count_110 : ftc 110 (me_ci mX8_count) = some (110, .getfield 7, 3, (8, 0, 657, 0)) := by decide +kernel
theorem fX8_count_113 : ftc 113 (me_ci mX8_count) = some (113, .iconst 3, 1, (0, 0, 0, 0)) := by decide +kernel
theorem fX8_count_114 : ftc 114 (me_ci mX8_count) = some (114, .iaload, 1, (0, 0, 0, 0)) := by decide +kernel
theorem fX8_count_115 : ftc 115 (me_ci mX8_count) = some (115, .ireturn, 1, (0, 0, 0, 0)) := by decide +kernel
theorem fX8_count_116 : ftc 116 (me_ci mX8_count) = some (116, .aload_n 0, 1, (0, 0, 0, 0)) := by decide +kernel
theorem fX8_count_117 : ftc 117 (me_ci mX8_count) = some (117, .invokevirtual 61, 3, (96, 0, 751, 0)) := by decide +kernel
theorem fX8_count_120 : ftc 120 (me_ci mX8_count) = some (120, .ireturn, 1, (0, 0, 0, 0)) := by decide +kernel
theorem fX8_count_121 : ftc 121 (me_ci mX8_count) = some (121, .aload_n 0, 1, (0, 0, 0, 0)) := by decide +kernel
theorem fX8_count_122 : ftc 122 (me_ci mX8_count) = some (122, .invokevirtual 96, 3, (113, 0, 819, 0)) := by decide +kernel
theorem fX8_count_125 : ftc 125 (me_ci mX8_count) = some (125, .ireturn, 1, (0, 0, 0, 0)) := by decide +kernel
theorem fX8_count_126 : ftc 126 (me_ci mX8_count) = some (126, .aload_n 0, 1, (0, 0, 0, 0)) := by decide +kernel
theorem fX8_count_127 : ftc 127 (me_ci mX8_count) = some (127, .getfield 7, 3, (8, 0, 657, 0)) := by decide +kernel
theorem fX8_count_130 : ftc 130 (me_ci mX8_count) = some (130, .sipush 150, 3, (0, 0, 0, 0)) := by decide +kernel
theorem fX8_count_133 : ftc 133 (me_ci mX8_count) = some (133, .iaload, 1, (0, 0, 0, 0)) := by decide +kernel
theorem fX8_count_134 : ftc 134 (me_ci mX8_count) = some (134, .ireturn, 1, (0, 0, 0, 0)) := by decide +kernel
theorem fX8_count_135 : ftc 135 (me_ci mX8_count) = some (135, .aload_n 0, 1, (0, 0, 0, 0)) := by decide +kernel
theorem fX8_count_136 : ftc 136 (me_ci mX8_count) = some (136, .getfield 39, 3, (8, 6, 663, 0)) := by decide +kernel
theorem fX8_count_139 : ftc 139 (me_ci mX8_count) = some (139, .ireturn, 1, (0, 0, 0, 0)) := by decide +kernel
theorem fX8_count_140 : ftc 140 (me_ci mX8_count) = some (140, .aload_n 0, 1, (0, 0, 0, 0)) := by decide +kernel
theorem fX8_count_141 : ftc 141 (me_ci mX8_count) = some (141, .getfield 99, 3, (8, 9, 666, 0)) := by decide +kernel
theorem fX8_count_144 : ftc 144 (me_ci mX8_count) = some (144, .ireturn, 1, (0, 0, 0, 0)) := by decide +kernel
theorem fX8_count_145 : ftc 145 (me_ci mX8_count) = some (145, .aload_n 0, 1, (0, 0, 0, 0)) := by decide +kernel
theorem fX8_count_146 : ftc 146 (me_ci mX8_count) = some (146, .getfield 102, 3, (8, 5, 662, 0)) := by decide +kernel
theorem fX8_count_149 : ftc 149 (me_ci mX8_count) = some (149, .ifCond .eq 7, 3, (0, 0, 0, 0)) := by decide +kernel
theorem fX8_count_152 : ftc 152 (me_ci mX8_count) = some (152, .iconst 1, 1, (0, 0, 0, 0)) := by decide +kernel
theorem fX8_count_153 : ftc 153 (me_ci mX8_count) = some (153, .goto 4, 3, (0, 0, 0, 0)) := by decide +kernel
theorem fX8_count_156 : ftc 156 (me_ci mX8_count) = some (156, .iconst 0, 1, (0, 0, 0, 0)) := by decide +kernel
theorem fX8_count_157 : ftc 157 (me_ci mX8_count) = some (157, .ireturn, 1, (0, 0, 0, 0)) := by decide +kernel
theorem fX8_count_158 : ftc 158 (me_ci mX8_count) = some (158, .iload_n 1, 1, (0, 0, 0, 0)) := by decide +kernel
theorem fX8_count_159 : ftc 159 (me_ci mX8_count) = some (159, .bipush 20, 2, (0, 0, 0, 0)) := by decide +kernel
theorem fX8_count_161 : ftc 161 (me_ci mX8_count) = some (161, .bipush 22, 2, (0, 0, 0, 0)) := by decide +kernel
theorem fX8_count_163 : ftc 163 (me_ci mX8_count) = some (163, .invokestatic 43, 3, (88, 0, 654, 0)) := by decide +kernel
theorem fX8_count_166 : ftc 166 (me_ci mX8_count) = some (166, .ifCond .eq 18, 3, (0, 0, 0, 0)) := by decide +kernel
theorem fX8_count_169 : ftc 169 (me_ci mX8_count) = some (169, .aload_n 0, 1, (0, 0, 0, 0)) := by decide +kernel
theorem fX8_count_170 : ftc 170 (me_ci mX8_count) = some (170, .getfield 7, 3, (8, 0, 657, 0)) := by decide +kernel
theorem fX8_count_173 : ftc 173 (me_ci mX8_count) = some (173, .bipush 26, 2, (0, 0, 0, 0)) := by decide +kernel
theorem fX8_count_175 : ftc 175 (me_ci mX8_count) = some (175, .iload_n 1, 1, (0, 0, 0, 0)) := by decide +kernel
theorem fX8_count_176 : ftc 176 (me_ci mX8_count) = some (176, .iadd, 1, (0, 0, 0, 0)) := by decide +kernel
theorem fX8_count_177 : ftc 177 (me_ci mX8_count) = some (177, .bipush 20, 2, (0, 0, 0, 0)) := by decide +kernel
theorem fX8_count_179 : ftc 179 (me_ci mX8_count) = some (179, .isub, 1, (0, 0, 0, 0)) := by decide +kernel
theorem fX8_count_180 : ftc 180 (me_ci mX8_count) = some (180, .iaload, 1, (0, 0, 0, 0)) := by decide +kernel
theorem fX8_count_181 : ftc 181 (me_ci mX8_count) = some (181, .goto 5, 3, (0, 0, 0, 0)) := by decide +kernel
theorem fX8_count_184 : ftc 184 (me_ci mX8_count) = some (184, .ldc 47, 2, (728, 0, 0, -1000001)) := by decide +kernel
theorem fX8_count_186 : ftc 186 (me_ci mX8_count) = some (186, .ireturn, 1, (0, 0, 0, 0)) := by decide +kernel
theorem pX8_count : pg 114 = some mX8_count := by decide +kernel
theorem fX8_winner_0 : ftc 0 (me_ci mX8_winner) = some (0, .iconst 0, 1, (0, 0, 0, 0)) := by decide +kernel
theorem fX8_winner_1 : ftc 1 (me_ci mX8_winner) = some (1, .istore_n 1, 1, (0, 0, 0, 0)) := by decide +kernel
theorem fX8_winner_2 : ftc 2 (me_ci mX8_winner) = some (2, .iconst 1, 1, (0, 0, 0, 0)) := by decide +kernel
theorem fX8_winner_3 : ftc 3 (me_ci mX8_winner) = some (3, .istore_n 2, 1, (0, 0, 0, 0)) := by decide +kernel
theorem fX8_winner_4 : ftc 4 (me_ci mX8_winner) = some (4, .iload_n 2, 1, (0, 0, 0, 0)) := by decide +kernel
theorem fX8_winner_5 : ftc 5 (me_ci mX8_winner) = some (5, .aload_n 0, 1, (0, 0, 0, 0)) := by decide +kernel
theorem fX8_winner_6 : ftc 6 (me_ci mX8_winner) = some (6, .getfield 7, 3, (8, 0, 657, 0)) := by decide +kernel
theorem fX8_winner_9 : ftc 9 (me_ci mX8_winner) = some (9, .iconst 0, 1, (0, 0, 0, 0)) := by decide +kernel
theorem fX8_winner_10 : ftc 10 (me_ci mX8_winner) = some (10, .iaload, 1, (0, 0, 0, 0)) := by decide +kernel
theorem fX8_winner_11 : ftc 11 (me_ci mX8_winner) = some (11, .if_icmp .ge 52, 3, (0, 0, 0, 0)) := by decide +kernel
theorem fX8_winner_14 : ftc 14 (me_ci mX8_winner) = some (14, .aload_n 0, 1, (0, 0, 0, 0)) := by decide +kernel
theorem fX8_winner_15 : ftc 15 (me_ci mX8_winner) = some (15, .iload_n 2, 1, (0, 0, 0, 0)) := by decide +kernel
theorem fX8_winner_16 : ftc 16 (me_ci mX8_winner) = some (16, .iconst 1, 1, (0, 0, 0, 0)) := by decide +kernel
theorem fX8_winner_17 : ftc 17 (me_ci mX8_winner) = some (17, .invokevirtual 52, 3, (92, 0, 746, 0)) := by decide +kernel
theorem fX8_winner_20 : ftc 20 (me_ci mX8_winner) = some (20, .aload_n 0, 1, (0, 0, 0, 0)) := by decide +kernel
theorem fX8_winner_21 : ftc 21 (me_ci mX8_winner) = some (21, .iload_n 1, 1, (0, 0, 0, 0)) := by decide +kernel
theorem fX8_winner_22 : ftc 22 (me_ci mX8_winner) = some (22, .iconst 1, 1, (0, 0, 0, 0)) := by decide +kernel
theorem fX8_winner_23 : ftc 23 (me_ci mX8_winner) = some (23, .invokevirtual 52, 3, (92, 0, 746, 0)) := by decide +kernel
theorem fX8_winner_26 : ftc 26 (me_ci mX8_winner) = some (26, .isub, 1, (0, 0, 0, 0)) := by decide +kernel
theorem fX8_winner_27 : ftc 27 (me_ci mX8_winner) = some (27, .istore_n 3, 1, (0, 0, 0, 0)) := by decide +kernel
theorem fX8_winner_28 : ftc 28 (me_ci mX8_winner) = some (28, .iload_n 3, 1, (0, 0, 0, 0)) := by decide +kernel
theorem fX8_winner_29 : ftc 29 (me_ci mX8_winner) = some (29, .ifCond .gt 22, 3, (0, 0, 0, 0)) := by decide +kernel
theorem fX8_winner_32 : ftc 32 (me_ci mX8_winner) = some (32, .iload_n 3, 1, (0, 0, 0, 0)) := by decide +kernel
theorem fX8_winner_33 : ftc 33 (me_ci mX8_winner) = some (33, .ifCond .ne 22, 3, (0, 0, 0, 0)) := by decide +kernel
theorem fX8_winner_36 : ftc 36 (me_ci mX8_winner) = some (36, .aload_n 0, 1, (0, 0, 0, 0)) := by decide +kernel
theorem fX8_winner_37 : ftc 37 (me_ci mX8_winner) = some (37, .iload_n 2, 1, (0, 0, 0, 0)) := by decide +kernel
theorem fX8_winner_38 : ftc 38 (me_ci mX8_winner) = some (38, .iconst 0, 1, (0, 0, 0, 0)) := by decide +kernel
theorem fX8_winner_39 : ftc 39 (me_ci mX8_winner) = some (39, .invokevirtual 52, 3, (92, 0, 746, 0)) := by decide +kernel
theorem fX8_winner_42 : ftc 42 (me_ci mX8_winner) = some (42, .aload_n 0, 1, (0, 0, 0, 0)) := by decide +kernel
theorem fX8_winner_43 : ftc 43 (me_ci mX8_winner) = some (43, .iload_n 1, 1, (0, 0, 0, 0)) := by decide +kernel
theorem fX8_winner_44 : ftc 44 (me_ci mX8_winner) = some (44, .iconst 0, 1, (0, 0, 0, 0)) := by decide +kernel
theorem fX8_winner_45 : ftc 45 (me_ci mX8_winner) = some (45, .invokevirtual 52, 3, (92, 0, 746, 0)) := by decide +kernel
theorem fX8_winner_48 : ftc 48 (me_ci mX8_winner) = some (48, .if_icmp .le 7, 3, (0, 0, 0, 0)) := by decide +kernel
theorem fX8_winner_51 : ftc 51 (me_ci mX8_winner) = some (51, .iload_n 2, 1, (0, 0, 0, 0)) := by decide +kernel
theorem fX8_winner_52 : ftc 52 (me_ci mX8_winner) = some (52, .goto 4, 3, (0, 0, 0, 0)) := by decide +kernel
theorem fX8_winner_55 : ftc 55 (me_ci mX8_winner) = some (55, .iload_n 1, 1, (0, 0, 0, 0)) := by decide +kernel
theorem fX8_winner_56 : ftc 56 (me_ci mX8_winner) = some (56, .istore_n 1, 1, (0, 0, 0, 0)) := by decide +kernel
theorem fX8_winner_57 : ftc 57 (me_ci mX8_winner) = some (57, .iinc 2 1, 3, (0, 0, 0, 0)) := by decide +kernel
theorem fX8_winner_60 : ftc 60 (me_ci mX8_winner) = some (60, .goto (-56), 3, (0, 0, 0, 0)) := by decide +kernel
theorem fX8_winner_63 : ftc 63 (me_ci mX8_winner) = some (63, .iload_n 1, 1, (0, 0, 0, 0)) := by decide +kernel
theorem fX8_winner_64 : ftc 64 (me_ci mX8_winner) = some (64, .ireturn, 1, (0, 0, 0, 0)) := by decide +kernel
theorem pX8_winner : pg 115 = some mX8_winner := by decide +kernel
theorem fX8_sure_0 : ftc 0 (me_ci mX8_sure) = some (0, .aload_n 0, 1, (0, 0, 0, 0)) := by decide +kernel
theorem fX8_sure_1 : ftc 1 (me_ci mX8_sure) = some (1, .iload_n 1, 1, (0, 0, 0, 0)) := by decide +kernel
theorem fX8_sure_2 : ftc 2 (me_ci mX8_sure) = some (2, .invokevirtual 56, 3, (91, 0, 742, 0)) := by decide +kernel
theorem fX8_sure_5 : ftc 5 (me_ci mX8_sure) = some (5, .ifCond .ne 6, 3, (0, 0, 0, 0)) := by decide +kernel
theorem fX8_sure_8 : ftc 8 (me_ci mX8_sure) = some (8, .ldc 47, 2, (728, 0, 0, -1000001)) := by decide +kernel
theorem fX8_sure_10 : ftc 10 (me_ci mX8_sure) = some (10, .ireturn, 1, (0, 0, 0, 0)) := by decide +kernel
theorem fX8_sure_11 : ftc 11 (me_ci mX8_sure) = some (11, .aload_n 0, 1, (0, 0, 0, 0)) := by decide +kernel
theorem fX8_sure_12 : ftc 12 (me_ci mX8_sure) = some (12, .getfield 7, 3, (8, 0, 657, 0)) := by decide +kernel
theorem fX8_sure_15 : ftc 15 (me_ci mX8_sure) = some (15, .iconst 4, 1, (0, 0, 0, 0)) := by decide +kernel
theorem fX8_sure_16 : ftc 16 (me_ci mX8_sure) = some (16, .iaload, 1, (0, 0, 0, 0)) := by decide +kernel
theorem fX8_sure_17 : ftc 17 (me_ci mX8_sure) = some (17, .ifCond .ne 6, 3, (0, 0, 0, 0)) := by decide +kernel
theorem fX8_sure_20 : ftc 20 (me_ci mX8_sure) = some (20, .ldc 60, 2, (750, 0, 0, -1000002)) := by decide +kernel
theorem fX8_sure_22 : ftc 22 (me_ci mX8_sure) = some (22, .ireturn, 1, (0, 0, 0, 0)) := by decide +kernel
theorem fX8_sure_23 : ftc 23 (me_ci mX8_sure) = some (23, .iconst 0, 1, (0, 0, 0, 0)) := by decide +kernel
theorem fX8_sure_24 : ftc 24 (me_ci mX8_sure) = some (24, .istore_n 2, 1, (0, 0, 0, 0)) := by decide +kernel
theorem fX8_sure_25 : ftc 25 (me_ci mX8_sure) = some (25, .iconst 0, 1, (0, 0, 0, 0)) := by decide +kernel
theorem fX8_sure_26 : ftc 26 (me_ci mX8_sure) = some (26, .istore_n 3, 1, (0, 0, 0, 0)) := by decide +kernel
theorem fX8_sure_27 : ftc 27 (me_ci mX8_sure) = some (27, .iload_n 3, 1, (0, 0, 0, 0)) := by decide +kernel
theorem fX8_sure_28 : ftc 28 (me_ci mX8_sure) = some (28, .aload_n 0, 1, (0, 0, 0, 0)) := by decide +kernel
theorem fX8_sure_29 : ftc 29 (me_ci mX8_sure) = some (29, .getfield 7, 3, (8, 0, 657, 0)) := by decide +kernel
theorem fX8_sure_32 : ftc 32 (me_ci mX8_sure) = some (32, .iconst 0, 1, (0, 0, 0, 0)) := by decide +kernel
theorem fX8_sure_33 : ftc 33 (me_ci mX8_sure) = some (33, .iaload, 1, (0, 0, 0, 0)) := by decide +kernel
theorem fX8_sure_34 : ftc 34 (me_ci mX8_sure) = some (34, .if_icmp .ge 35, 3, (0, 0, 0, 0)) := by decide +kernel
theorem fX8_sure_37 : ftc 37 (me_ci mX8_sure) = some (37, .iload_n 3, 1, (0, 0, 0, 0)) := by decide +kernel
theorem fX8_sure_38 : ftc 38 (me_ci mX8_sure) = some (38, .iload_n 1, 1, (0, 0, 0, 0)) := by decide +kernel
theorem fX8_sure_39 : ftc 39 (me_ci mX8_sure) = some (39, .if_icmp .eq 22, 3, (0, 0, 0, 0)) := by decide +kernel
theorem fX8_sure_42 : ftc 42 (me_ci mX8_sure) = some (42, .aload_n 0, 1, (0, 0, 0, 0)) := by decide +kernel
theorem fX8_sure_43 : ftc 43 (me_ci mX8_sure) = some (43, .iload_n 3, 1, (0, 0, 0, 0)) := by decide +kernel
theorem fX8_sure_44 : ftc 44 (me_ci mX8_sure) = some (44, .iconst 0, 1, (0, 0, 0, 0)) := by decide +kernel
theorem fX8_sure_45 : ftc 45 (me_ci mX8_sure) = some (45, .invokevirtual 52, 3, (92, 0, 746, 0)) := by decide +kernel
theorem fX8_sure_48 : ftc 48 (me_ci mX8_sure) = some (48, .iload_n 2, 1, (0, 0, 0, 0)) := by decide +kernel
theorem fX8_sure_49 : ftc 49 (me_ci mX8_sure) = some (49, .if_icmp .le 12, 3, (0, 0, 0, 0)) := by decide +kernel
theorem fX8_sure_52 : ftc 52 (me_ci mX8_sure) = some (52, .aload_n 0, 1, (0, 0, 0, 0)) := by decide +kernel
theorem fX8_sure_53 : ftc 53 (me_ci mX8_sure) = some (53, .iload_n 3, 1, (0, 0, 0, 0)) := by decide +kernel
theorem fX8_sure_54 : ftc 54 (me_ci mX8_sure) = some (54, .iconst 0, 1, (0, 0, 0, 0)) := by decide +kernel
theorem fX8_sure_55 : ftc 55 (me_ci mX8_sure) = some (55, .invokevirtual 52, 3, (92, 0, 746, 0)) := by decide +kernel
theorem fX8_sure_58 : ftc 58 (me_ci mX8_sure) = some (58, .goto 4, 3, (0, 0, 0, 0)) := by decide +kernel
theorem fX8_sure_61 : ftc 61 (me_ci mX8_sure) = some (61, .iload_n 2, 1, (0, 0, 0, 0)) := by decide +kernel
theorem fX8_sure_62 : ftc 62 (me_ci mX8_sure) = some (62, .istore_n 2, 1, (0, 0, 0, 0)) := by decide +kernel
theorem fX8_sure_63 : ftc 63 (me_ci mX8_sure) = some (63, .iinc 3 1, 3, (0, 0, 0, 0)) := by decide +kernel
theorem fX8_sure_66 : ftc 66 (me_ci mX8_sure) = some (66, .goto (-39), 3, (0, 0, 0, 0)) := by decide +kernel
theorem fX8_sure_69 : ftc 69 (me_ci mX8_sure) = some (69, .iload_n 2, 1, (0, 0, 0, 0)) := by decide +kernel
theorem fX8_sure_70 : ftc 70 (me_ci mX8_sure) = some (70, .aload_n 0, 1, (0, 0, 0, 0)) := by decide +kernel
theorem fX8_sure_71 : ftc 71 (me_ci mX8_sure) = some (71, .iload_n 1, 1, (0, 0, 0, 0)) := by decide +kernel
theorem fX8_sure_72 : ftc 72 (me_ci mX8_sure) = some (72, .iconst 0, 1, (0, 0, 0, 0)) := by decide +kernel
theorem fX8_sure_73 : ftc 73 (me_ci mX8_sure) = some (73, .invokevirtual 52, 3, (92, 0, 746, 0)) := by decide +kernel
theorem fX8_sure_76 : ftc 76 (me_ci mX8_sure) = some (76, .if_icmp .ge 9, 3, (0, 0, 0, 0)) := by decide +kernel
theorem fX8_sure_79 : ftc 79 (me_ci mX8_sure) = some (79, .iload_n 2, 1, (0, 0, 0, 0)) := by decide +kernel
theorem fX8_sure_80 : ftc 80 (me_ci mX8_sure) = some (80, .iconst 1, 1, (0, 0, 0, 0)) := by decide +kernel
theorem fX8_sure_81 : ftc 81 (me_ci mX8_sure) = some (81, .iadd, 1, (0, 0, 0, 0)) := by decide +kernel
theorem fX8_sure_82 : ftc 82 (me_ci mX8_sure) = some (82, .goto 5, 3, (0, 0, 0, 0)) := by decide +kernel
theorem fX8_sure_85 : ftc 85 (me_ci mX8_sure) = some (85, .ldc 95, 2, (806, 0, 0, -1000004)) := by decide +kernel
theorem fX8_sure_87 : ftc 87 (me_ci mX8_sure) = some (87, .ireturn, 1, (0, 0, 0, 0)) := by decide +kernel
theorem pX8_sure : pg 116 = some mX8_sure := by decide +kernel
theorem fX8_reply_0 : ftc 0 (me_ci mX8_reply) = some (0, .aload_n 0, 1, (0, 0, 0, 0)) := by decide +kernel
theorem fX8_reply_1 : ftc 1 (me_ci mX8_reply) = some (1, .iload_n 1, 1, (0, 0, 0, 0)) := by decide +kernel
theorem fX8_reply_2 : ftc 2 (me_ci mX8_reply) = some (2, .invokevirtual 56, 3, (91, 0, 742, 0)) := by decide +kernel
theorem fX8_reply_5 : ftc 5 (me_ci mX8_reply) = some (5, .ifCond .ne 6, 3, (0, 0, 0, 0)) := by decide +kernel
theorem fX8_reply_8 : ftc 8 (me_ci mX8_reply) = some (8, .ldc 47, 2, (728, 0, 0, -1000001)) := by decide +kernel
theorem fX8_reply_10 : ftc 10 (me_ci mX8_reply) = some (10, .ireturn, 1, (0, 0, 0, 0)) := by decide +kernel
theorem fX8_reply_11 : ftc 11 (me_ci mX8_reply) = some (11, .iconst 0, 1, (0, 0, 0, 0)) := by decide +kernel
theorem fX8_reply_12 : ftc 12 (me_ci mX8_reply) = some (12, .istore_n 2, 1, (0, 0, 0, 0)) := by decide +kernel
theorem fX8_reply_13 : ftc 13 (me_ci mX8_reply) = some (13, .iconst 0, 1, (0, 0, 0, 0)) := by decide +kernel
theorem fX8_reply_14 : ftc 14 (me_ci mX8_reply) = some (14, .istore_n 3, 1, (0, 0, 0, 0)) := by decide +kernel
theorem fX8_reply_15 : ftc 15 (me_ci mX8_reply) = some (15, .iload_n 3, 1, (0, 0, 0, 0)) := by decide +kernel
theorem fX8_reply_16 : ftc 16 (me_ci mX8_reply) = some (16, .aload_n 0, 1, (0, 0, 0, 0)) := by decide +kernel
theorem fX8_reply_17 : ftc 17 (me_ci mX8_reply) = some (17, .getfield 7, 3, (8, 0, 657, 0)) := by decide +kernel
theorem fX8_reply_20 : ftc 20 (me_ci mX8_reply) = some (20, .iconst 0, 1, (0, 0, 0, 0)) := by decide +kernel
theorem fX8_reply_21 : ftc 21 (me_ci mX8_reply) = some (21, .iaload, 1, (0, 0, 0, 0)) := by decide +kernel
theorem fX8_reply_22 : ftc 22 (me_ci mX8_reply) = some (22, .if_icmp .ge 31, 3, (0, 0, 0, 0)) := by decide +kernel
theorem fX8_reply_25 : ftc 25 (me_ci mX8_reply) = some (25, .iload_n 2, 1, (0, 0, 0, 0)) := by decide +kernel
theorem fX8_reply_26 : ftc 26 (me_ci mX8_reply) = some (26, .iload_n 3, 1, (0, 0, 0, 0)) := by decide +kernel
theorem fX8_reply_27 : ftc 27 (me_ci mX8_reply) = some (27, .iload_n 1, 1, (0, 0, 0, 0)) := by decide +kernel
theorem fX8_reply_28 : ftc 28 (me_ci mX8_reply) = some (28, .if_icmp .eq 16, 3, (0, 0, 0, 0)) := by decide +kernel
theorem fX8_reply_31 : ftc 31 (me_ci mX8_reply) = some (31, .aload_n 0, 1, (0, 0, 0, 0)) := by decide +kernel
theorem fX8_reply_32 : ftc 32 (me_ci mX8_reply) = some (32, .iload_n 3, 1, (0, 0, 0, 0)) := by decide +kernel
theorem fX8_reply_33 : ftc 33 (me_ci mX8_reply) = some (33, .iconst 2, 1, (0, 0, 0, 0)) := by decide +kernel
theorem fX8_reply_34 : ftc 34 (me_ci mX8_reply) = some (34, .invokevirtual 52, 3, (92, 0, 746, 0)) := by decide +kernel
theorem fX8_reply_37 : ftc 37 (me_ci mX8_reply) = some (37, .ifCond .lt 7, 3, (0, 0, 0, 0)) := by decide +kernel
theorem fX8_reply_40 : ftc 40 (me_ci mX8_reply) = some (40, .iconst 1, 1, (0, 0, 0, 0)) := by decide +kernel
theorem fX8_reply_41 : ftc 41 (me_ci mX8_reply) = some (41, .goto 4, 3, (0, 0, 0, 0)) := by decide +kernel
theorem fX8_reply_44 : ftc 44 (me_ci mX8_reply) = some (44, .iconst 0, 1, (0, 0, 0, 0)) := by decide +kernel
theorem fX8_reply_45 : ftc 45 (me_ci mX8_reply) = some (45, .iadd, 1, (0, 0, 0, 0)) := by decide +kernel
theorem fX8_reply_46 : ftc 46 (me_ci mX8_reply) = some (46, .istore_n 2, 1, (0, 0, 0, 0)) := by decide +kernel
theorem fX8_reply_47 : ftc 47 (me_ci mX8_reply) = some (47, .iinc 3 1, 3, (0, 0, 0, 0)) := by decide +kernel
theorem fX8_reply_50 : ftc 50 (me_ci mX8_reply) = some (50, .goto (-35), 3, (0, 0, 0, 0)) := by decide +kernel
theorem fX8_reply_53 : ftc 53 (me_ci mX8_reply) = some (53, .aload_n 0, 1, (0, 0, 0, 0)) := by decide +kernel
theorem fX8_reply_54 : ftc 54 (me_ci mX8_reply) = some (54, .getfield 7, 3, (8, 0, 657, 0)) := by decide +kernel
theorem fX8_reply_57 : ftc 57 (me_ci mX8_reply) = some (57, .iconst 4, 1, (0, 0, 0, 0)) := by decide +kernel
theorem fX8_reply_58 : ftc 58 (me_ci mX8_reply) = some (58, .iaload, 1, (0, 0, 0, 0)) := by decide +kernel
theorem fX8_reply_59 : ftc 59 (me_ci mX8_reply) = some (59, .ifCond .eq 15, 3, (0, 0, 0, 0)) := by decide +kernel
theorem fX8_reply_62 : ftc 62 (me_ci mX8_reply) = some (62, .iload_n 2, 1, (0, 0, 0, 0)) := by decide +kernel
theorem fX8_reply_63 : ftc 63 (me_ci mX8_reply) = some (63, .aload_n 0, 1, (0, 0, 0, 0)) := by decide +kernel
theorem fX8_reply_64 : ftc 64 (me_ci mX8_reply) = some (64, .getfield 7, 3, (8, 0, 657, 0)) := by decide +kernel
theorem fX8_reply_67 : ftc 67 (me_ci mX8_reply) = some (67, .iconst 0, 1, (0, 0, 0, 0)) := by decide +kernel
theorem fX8_reply_68 : ftc 68 (me_ci mX8_reply) = some (68, .iaload, 1, (0, 0, 0, 0)) := by decide +kernel
theorem fX8_reply_69 : ftc 69 (me_ci mX8_reply) = some (69, .iconst 1, 1, (0, 0, 0, 0)) := by decide +kernel
theorem fX8_reply_70 : ftc 70 (me_ci mX8_reply) = some (70, .isub, 1, (0, 0, 0, 0)) := by decide +kernel
theorem fX8_reply_71 : ftc 71 (me_ci mX8_reply) = some (71, .if_icmp .ge 6, 3, (0, 0, 0, 0)) := by decide +kernel
theorem fX8_reply_74 : ftc 74 (me_ci mX8_reply) = some (74, .ldc 60, 2, (750, 0, 0, -1000002)) := by decide +kernel
theorem fX8_reply_76 : ftc 76 (me_ci mX8_reply) = some (76, .ireturn, 1, (0, 0, 0, 0)) := by decide +kernel
theorem fX8_reply_77 : ftc 77 (me_ci mX8_reply) = some (77, .aload_n 0, 1, (0, 0, 0, 0)) := by decide +kernel
theorem fX8_reply_78 : ftc 78 (me_ci mX8_reply) = some (78, .getfield 7, 3, (8, 0, 657, 0)) := by decide +kernel
theorem fX8_reply_81 : ftc 81 (me_ci mX8_reply) = some (81, .aload_n 0, 1, (0, 0, 0, 0)) := by decide +kernel
theorem fX8_reply_82 : ftc 82 (me_ci mX8_reply) = some (82, .getfield 19, 3, (8, 3, 660, 0)) := by decide +kernel
theorem fX8_reply_85 : ftc 85 (me_ci mX8_reply) = some (85, .invokestatic 105, 3, (89, 0, 835, 0)) := by decide +kernel
theorem fX8_reply_88 : ftc 88 (me_ci mX8_reply) = some (88, .iconst 0, 1, (0, 0, 0, 0)) := by decide +kernel
theorem fX8_reply_89 : ftc 89 (me_ci mX8_reply) = some (89, .istore_n 3, 1, (0, 0, 0, 0)) := by decide +kernel
theorem fX8_reply_90 : ftc 90 (me_ci mX8_reply) = some (90, .iconst 0, 1, (0, 0, 0, 0)) := by decide +kernel
theorem fX8_reply_91 : ftc 91 (me_ci mX8_reply) = some (91, .istore 4, 2, (0, 0, 0, 0)) := by decide +kernel
theorem fX8_reply_93 : ftc 93 (me_ci mX8_reply) = some (93, .iconst (-1), 1, (0, 0, 0, 0)) := by decide +kernel
theorem fX8_reply_94 : ftc 94 (me_ci mX8_reply) = some (94, .istore 5, 2, (0, 0, 0, 0)) := by decide +kernel
theorem fX8_reply_96 : ftc 96 (me_ci mX8_reply) = some (96, .iconst 0, 1, (0, 0, 0, 0)) := by decide +kernel
theorem fX8_reply_97 : ftc 97 (me_ci mX8_reply) = some (97, .istore 6, 2, (0, 0, 0, 0)) := by decide +kernel
theorem fX8_reply_99 : ftc 99 (me_ci mX8_reply) = some (99, .iload 6, 2, (0, 0, 0, 0)) := by decide +kernel
theorem fX8_reply_101 : ftc 101 (me_ci mX8_reply) = some (101, .aload_n 0, 1, (0, 0, 0, 0)) := by decide +kernel
theorem fX8_reply_102 : ftc 102 (me_ci mX8_reply) = some (102, .getfield 19, 3, (8, 3, 660, 0)) := by decide +kernel
theorem fX8_reply_105 : ftc 105 (me_ci mX8_reply) = some (105, .bipush 126, 2, (0, 0, 0, 0)) := by decide +kernel
theorem fX8_reply_107 : ftc 107 (me_ci mX8_reply) = some (107, .bipush 6, 2, (0, 0, 0, 0)) := by decide +kernel
theorem fX8_reply_109 : ftc 109 (me_ci mX8_reply) = some (109, .iload_n 1, 1, (0, 0, 0, 0)) := by decide +kernel
theorem fX8_reply_110 : ftc 110 (me_ci mX8_reply) = some (110, .imul, 1, (0, 0, 0, 0)) := by decide +kernel
theorem fX8_reply_111 : ftc 111 (me_ci mX8_reply) = some (111, .iadd, 1, (0, 0, 0, 0)) := by decide +kernel
theorem fX8_reply_112 : ftc 112 (me_ci mX8_reply) = some (112, .iconst 0, 1, (0, 0, 0, 0)) := by decide +kernel
theorem fX8_reply_113 : ftc 113 (me_ci mX8_reply) = some (113, .iadd, 1, (0, 0, 0, 0)) := by decide +kernel
theorem fX8_reply_114 : ftc 114 (me_ci mX8_reply) = some (114, .iaload, 1, (0, 0, 0, 0)) := by decide +kernel
theorem fX8_reply_115 : ftc 115 (me_ci mX8_reply) = some (115, .if_icmp .gt 104, 3, (0, 0, 0, 0)) := by decide +kernel
theorem fX8_reply_118 : ftc 118 (me_ci mX8_reply) = some (118, .aload_n 0, 1, (0, 0, 0, 0)) := by decide +kernel
theorem fX8_reply_119 : ftc 119 (me_ci mX8_reply) = some (119, .getfield 19, 3, (8, 3, 660, 0)) := by decide +kernel
theorem fX8_reply_122 : ftc 122 (me_ci mX8_reply) = some (122, .aload_n 0, 1, (0, 0, 0, 0)) := by decide +kernel
theorem fX8_reply_123 : ftc 123 (me_ci mX8_reply) = some (123, .getfield 7, 3, (8, 0, 657, 0)) := by decide +kernel
theorem fX8_reply_126 : ftc 126 (me_ci mX8_reply) = some (126, .invokestatic 105, 3, (89, 0, 835, 0)) := by decide +kernel
theorem fX8_reply_129 : ftc 129 (me_ci mX8_reply) = some (129, .aload_n 0, 1, (0, 0, 0, 0)) := by decide +kernel
theorem fX8_reply_130 : ftc 130 (me_ci mX8_reply) = some (130, .getfield 7, 3, (8, 0, 657, 0)) := by decide +kernel
theorem fX8_reply_133 : ftc 133 (me_ci mX8_reply) = some (133, .bipush 126, 2, (0, 0, 0, 0)) := by decide +kernel
theorem fX8_reply_135 : ftc 135 (me_ci mX8_reply) = some (135, .bipush 6, 2, (0, 0, 0, 0)) := by decide +kernel
theorem fX8_reply_137 : ftc 137 (me_ci mX8_reply) = some (137, .iload_n 1, 1, (0, 0, 0, 0)) := by decide +kernel
theorem fX8_reply_138 : ftc 138 (me_ci mX8_reply) = some (138, .imul, 1, (0, 0, 0, 0)) := by decide +kernel
theorem fX8_reply_139 : ftc 139 (me_ci mX8_reply) = some (139, .iadd, 1, (0, 0, 0, 0)) := by decide +kernel
theorem fX8_reply_140 : ftc 140 (me_ci mX8_reply) = some (140, .iconst 2, 1, (0, 0, 0, 0)) := by decide +kernel
theorem fX8_reply_141 : ftc 141 (me_ci mX8_reply) = some (141, .iadd, 1, (0, 0, 0, 0)) := by decide +kernel
theorem fX8_reply_142 : ftc 142 (me_ci mX8_reply) = some (142, .iload 6, 2, (0, 0, 0, 0)) := by decide +kernel
theorem fX8_reply_144 : ftc 144 (me_ci mX8_reply) = some (144, .iastore, 1, (0, 0, 0, 0)) := by decide +kernel
theorem fX8_reply_145 : ftc 145 (me_ci mX8_reply) = some (145, .aload_n 0, 1, (0, 0, 0, 0)) := by decide +kernel
theorem fX8_reply_146 : ftc 146 (me_ci mX8_reply) = some (146, .invokevirtual 92, 3, (106, 0, 759, 0)) := by decide +kernel
theorem fX8_reply_149 : ftc 149 (me_ci mX8_reply) = some (149, .istore 7, 2, (0, 0, 0, 0)) := by decide +kernel
theorem fX8_reply_151 : ftc 151 (me_ci mX8_reply) = some (151, .aload_n 0, 1, (0, 0, 0, 0)) := by decide +kernel
theorem fX8_reply_152 : ftc 152 (me_ci mX8_reply) = some (152, .iload_n 1, 1, (0, 0, 0, 0)) := by decide +kernel
theorem fX8_reply_153 : ftc 153 (me_ci mX8_reply) = some (153, .iconst 1, 1, (0, 0, 0, 0)) := by decide +kernel
theorem fX8_reply_154 : ftc 154 (me_ci mX8_reply) = some (154, .invokevirtual 52, 3, (92, 0, 746, 0)) := by decide +kernel
theorem fX8_reply_157 : ftc 157 (me_ci mX8_reply) = some (157, .iload 4, 2, (0, 0, 0, 0)) := by decide +kernel
theorem fX8_reply_159 : ftc 159 (me_ci mX8_reply) = some (159, .isub, 1, (0, 0, 0, 0)) := by decide +kernel
theorem fX8_reply_160 : ftc 160 (me_ci mX8_reply) = some (160, .istore 8, 2, (0, 0, 0, 0)) := by decide +kernel
theorem fX8_reply_162 : ftc 162 (me_ci mX8_reply) = some (162, .iload 7, 2, (0, 0, 0, 0)) := by decide +kernel
theorem fX8_reply_164 : ftc 164 (me_ci mX8_reply) = some (164, .iconst 4, 1, (0, 0, 0, 0)) := by decide +kernel
theorem fX8_reply_165 : ftc 165 (me_ci mX8_reply) = some (165, .if_icmp .ge 48, 3, (0, 0, 0, 0)) := by decide +kernel
theorem fX8_reply_168 : ftc 168 (me_ci mX8_reply) = some (168, .iload 5, 2, (0, 0, 0, 0)) := by decide +kernel
theorem fX8_reply_170 : ftc 170 (me_ci mX8_reply) = some (170, .ifCond .lt 24, 3, (0, 0, 0, 0)) := by decide +kernel
theorem fX8_reply_173 : ftc 173 (me_ci mX8_reply) = some (173, .iload 8, 2, (0, 0, 0, 0)) := by decide +kernel
theorem fX8_reply_175 : ftc 175 (me_ci mX8_reply) = some (175, .ifCond .gt 19, 3, (0, 0, 0, 0)) := by decide +kernel
theorem fX8_reply_178 : ftc 178 (me_ci mX8_reply) = some (178, .iload 8, 2, (0, 0, 0, 0)) := by decide +kernel
theorem fX8_reply_180 : ftc 180 (me_ci mX8_reply) = some (180, .ifCond .ne 33, 3, (0, 0, 0, 0)) := by decide +kernel
theorem fX8_reply_183 : ftc 183 (me_ci mX8_reply) = some (183, .aload_n 0, 1, (0, 0, 0, 0)) := by decide +kernel
theorem fX8_reply_184 : ftc 184 (me_ci mX8_reply) = some (184, .iload_n 1, 1, (0, 0, 0, 0)) := by decide +kernel
theorem fX8_reply_185 : ftc 185 (me_ci mX8_reply) = some (185, .iconst 0, 1, (0, 0, 0, 0)) := by decide +kernel
theorem fX8_reply_186 : ftc 186 (me_ci mX8_reply) = some (186, .invokevirtual 52, 3, (92, 0, 746, 0)) := by decide +kernel
theorem fX8_reply_189 : ftc 189 (me_ci mX8_reply) = some (189, .iload 5, 2, (0, 0, 0, 0)) := by decide +kernel
theorem fX8_reply_191 : ftc 191 (me_ci mX8_reply) = some (191, .if_icmp .le 22, 3, (0, 0, 0, 0)) := by decide +kernel
theorem fX8_reply_194 : ftc 194 (me_ci mX8_reply) = some (194, .iload 6, 2, (0, 0, 0, 0)) := by decide +kernel
theorem fX8_reply_196 : ftc 196 (me_ci mX8_reply) = some (196, .istore_n 3, 1, (0, 0, 0, 0)) := by decide +kernel
theorem fX8_reply_197 : ftc 197 (me_ci mX8_reply) = some (197, .aload_n 0, 1, (0, 0, 0, 0)) := by decide +kernel
theorem fX8_reply_198 : ftc 198 (me_ci mX8_reply) = some (198, .iload_n 1, 1, (0, 0, 0, 0)) := by decide +kernel
theorem fX8_reply_199 : ftc 199 (me_ci mX8_reply) = some (199, .iconst 1, 1, (0, 0, 0, 0)) := by decide +kernel
theorem fX8_reply_200 : ftc 200 (me_ci mX8_reply) = some (200, .invokevirtual 52, 3, (92, 0, 746, 0)) := by decide +kernel
theorem fX8_reply_203 : ftc 203 (me_ci mX8_reply) = some (203, .istore 4, 2, (0, 0, 0, 0)) := by decide +kernel
theorem fX8_reply_205 : ftc 205 (me_ci mX8_reply) = some (205, .aload_n 0, 1, (0, 0, 0, 0)) := by decide +kernel
theorem fX8_reply_206 : ftc 206 (me_ci mX8_reply) = some (206, .iload_n 1, 1, (0, 0, 0, 0)) := by decide +kernel
theorem fX8_reply_207 : ftc 207 (me_ci mX8_reply) = some (207, .iconst 0, 1, (0, 0, 0, 0)) := by decide +kernel
theorem fX8_reply_208 : ftc 208 (me_ci mX8_reply) = some (208, .invokevirtual 52, 3, (92, 0, 746, 0)) := by decide +kernel
theorem fX8_reply_211 : ftc 211 (me_ci mX8_reply) = some (211, .istore 5, 2, (0, 0, 0, 0)) := by decide +kernel
theorem fX8_reply_213 : ftc 213 (me_ci mX8_reply) = some (213, .iinc 6 1, 3, (0, 0, 0, 0)) := by decide +kernel
theorem fX8_reply_216 : ftc 216 (me_ci mX8_reply) = some (216, .goto (-117), 3, (0, 0, 0, 0)) := by decide +kernel
theorem fX8_reply_219 : ftc 219 (me_ci mX8_reply) = some (219, .aload_n 0, 1, (0, 0, 0, 0)) := by decide +kernel
theorem fX8_reply_220 : ftc 220 (me_ci mX8_reply) = some (220, .getfield 19, 3, (8, 3, 660, 0)) := by decide +kernel
theorem fX8_reply_223 : ftc 223 (me_ci mX8_reply) = some (223, .aload_n 0, 1, (0, 0, 0, 0)) := by decide +kernel
theorem fX8_reply_224 : ftc 224 (me_ci mX8_reply) = some (224, .getfield 7, 3, (8, 0, 657, 0)) := by decide +kernel
theorem fX8_reply_227 : ftc 227 (me_ci mX8_reply) = some (227, .invokestatic 105, 3, (89, 0, 835, 0)) := by decide +kernel
theorem fX8_reply_230 : ftc 230 (me_ci mX8_reply) = some (230, .iload_n 3, 1, (0, 0, 0, 0)) := by decide +kernel
theorem fX8_reply_231 : ftc 231 (me_ci mX8_reply) = some (231, .ireturn, 1, (0, 0, 0, 0)) := by decide +kernel
theorem pX8_reply : pg 117 = some mX8_reply := by decide +kernel
theorem fX8_tries_0 : ftc 0 (me_ci mX8_tries) = some (0, .aload_n 0, 1, (0, 0, 0, 0)) := by decide +kernel
theorem fX8_tries_1 : ftc 1 (me_ci mX8_tries) = some (1, .iload_n 1, 1, (0, 0, 0, 0)) := by decide +kernel
theorem fX8_tries_2 : ftc 2 (me_ci mX8_tries) = some (2, .putfield 109, 3, (8, 10, 667, 0)) := by decide +kernel
theorem fX8_tries_5 : ftc 5 (me_ci mX8_tries) = some (5, .aload_n 0, 1, (0, 0, 0, 0)) := by decide +kernel
theorem fX8_tries_6 : ftc 6 (me_ci mX8_tries) = some (6, .iload_n 2, 1, (0, 0, 0, 0)) := by decide +kernel
theorem fX8_tries_7 : ftc 7 (me_ci mX8_tries) = some (7, .putfield 112, 3, (8, 11, 668, 0)) := by decide +kernel
theorem fX8_tries_10 : ftc 10 (me_ci mX8_tries) = some (10, .aload_n 0, 1, (0, 0, 0, 0)) := by decide +kernel
theorem fX8_tries_11 : ftc 11 (me_ci mX8_tries) = some (11, .iload_n 3, 1, (0, 0, 0, 0)) := by decide +kernel
theorem fX8_tries_12 : ftc 12 (me_ci mX8_tries) = some (12, .putfield 115, 3, (8, 12, 669, 0)) := by decide +kernel
theorem fX8_tries_15 : ftc 15 (me_ci mX8_tries) = some (15, .aload_n 0, 1, (0, 0, 0, 0)) := by decide +kernel
theorem fX8_tries_16 : ftc 16 (me_ci mX8_tries) = some (16, .iload 5, 2, (0, 0, 0, 0)) := by decide +kernel
theorem fX8_tries_18 : ftc 18 (me_ci mX8_tries) = some (18, .putfield 118, 3, (8, 14, 671, 0)) := by decide +kernel
theorem fX8_tries_21 : ftc 21 (me_ci mX8_tries) = some (21, .iload 6, 2, (0, 0, 0, 0)) := by decide +kernel
theorem fX8_tries_23 : ftc 23 (me_ci mX8_tries) = some (23, .iload 7, 2, (0, 0, 0, 0)) := by decide +kernel
theorem fX8_tries_25 : ftc 25 (me_ci mX8_tries) = some (25, .if_icmp .le 8, 3, (0, 0, 0, 0)) := by decide +kernel
theorem fX8_tries_28 : ftc 28 (me_ci mX8_tries) = some (28, .iload 6, 2, (0, 0, 0, 0)) := by decide +kernel
theorem fX8_tries_30 : ftc 30 (me_ci mX8_tries) = some (30, .goto 37, 3, (0, 0, 0, 0)) := by decide +kernel
theorem fX8_tries_33 : ftc 33 (me_ci mX8_tries) = some (33, .iload 6, 2, (0, 0, 0, 0)) := by decide +kernel
theorem fX8_tries_35 : ftc 35 (me_ci mX8_tries) = some (35, .iload 7, 2, (0, 0, 0, 0)) := by decide +kernel
theorem fX8_tries_37 : ftc 37 (me_ci mX8_tries) = some (37, .if_icmp .ne 18, 3, (0, 0, 0, 0)) := by decide +kernel
theorem fX8_tries_40 : ftc 40 (me_ci mX8_tries) = some (40, .iload 6, 2, (0, 0, 0, 0)) := by decide +kernel
theorem fX8_tries_42 : ftc 42 (me_ci mX8_tries) = some (42, .aload_n 0, 1, (0, 0, 0, 0)) := by decide +kernel
theorem fX8_tries_43 : ftc 43 (me_ci mX8_tries) = some (43, .getfield 7, 3, (8, 0, 657, 0)) := by decide +kernel
theorem fX8_tries_46 : ftc 46 (me_ci mX8_tries) = some (46, .bipush 26, 2, (0, 0, 0, 0)) := by decide +kernel
theorem fX8_tries_48 : ftc 48 (me_ci mX8_tries) = some (48, .iaload, 1, (0, 0, 0, 0)) := by decide +kernel
theorem fX8_tries_49 : ftc 49 (me_ci mX8_tries) = some (49, .invokestatic 65, 3, (102, 0, 779, 0)) := by decide +kernel
theorem fX8_tries_52 : ftc 52 (me_ci mX8_tries) = some (52, .goto 15, 3, (0, 0, 0, 0)) := by decide +kernel
theorem fX8_tries_55 : ftc 55 (me_ci mX8_tries) = some (55, .iload 6, 2, (0, 0, 0, 0)) := by decide +kernel
theorem fX8_tries_57 : ftc 57 (me_ci mX8_tries) = some (57, .aload_n 0, 1, (0, 0, 0, 0)) := by decide +kernel
theorem fX8_tries_58 : ftc 58 (me_ci mX8_tries) = some (58, .getfield 7, 3, (8, 0, 657, 0)) := by decide +kernel
theorem fX8_tries_61 : ftc 61 (me_ci mX8_tries) = some (61, .bipush 27, 2, (0, 0, 0, 0)) := by decide +kernel
theorem fX8_tries_63 : ftc 63 (me_ci mX8_tries) = some (63, .iaload, 1, (0, 0, 0, 0)) := by decide +kernel
theorem fX8_tries_64 : ftc 64 (me_ci mX8_tries) = some (64, .invokestatic 65, 3, (102, 0, 779, 0)) := by decide +kernel
theorem fX8_tries_67 : ftc 67 (me_ci mX8_tries) = some (67, .istore 8, 2, (0, 0, 0, 0)) := by decide +kernel
theorem fX8_tries_69 : ftc 69 (me_ci mX8_tries) = some (69, .iload 7, 2, (0, 0, 0, 0)) := by decide +kernel
theorem fX8_tries_71 : ftc 71 (me_ci mX8_tries) = some (71, .iload 6, 2, (0, 0, 0, 0)) := by decide +kernel
theorem fX8_tries_73 : ftc 73 (me_ci mX8_tries) = some (73, .if_icmp .le 8, 3, (0, 0, 0, 0)) := by decide +kernel
theorem fX8_tries_76 : ftc 76 (me_ci mX8_tries) = some (76, .iload 7, 2, (0, 0, 0, 0)) := by decide +kernel
theorem fX8_tries_78 : ftc 78 (me_ci mX8_tries) = some (78, .goto 37, 3, (0, 0, 0, 0)) := by decide +kernel
theorem fX8_tries_81 : ftc 81 (me_ci mX8_tries) = some (81, .iload 6, 2, (0, 0, 0, 0)) := by decide +kernel
theorem fX8_tries_83 : ftc 83 (me_ci mX8_tries) = some (83, .iload 7, 2, (0, 0, 0, 0)) := by decide +kernel
theorem fX8_tries_85 : ftc 85 (me_ci mX8_tries) = some (85, .if_icmp .ne 18, 3, (0, 0, 0, 0)) := by decide +kernel
theorem fX8_tries_88 : ftc 88 (me_ci mX8_tries) = some (88, .iload 6, 2, (0, 0, 0, 0)) := by decide +kernel
theorem fX8_tries_90 : ftc 90 (me_ci mX8_tries) = some (90, .aload_n 0, 1, (0, 0, 0, 0)) := by decide +kernel
theorem fX8_tries_91 : ftc 91 (me_ci mX8_tries) = some (91, .getfield 7, 3, (8, 0, 657, 0)) := by decide +kernel
theorem fX8_tries_94 : ftc 94 (me_ci mX8_tries) = some (94, .bipush 26, 2, (0, 0, 0, 0)) := by decide +kernel
theorem fX8_tries_96 : ftc 96 (me_ci mX8_tries) = some (96, .iaload, 1, (0, 0, 0, 0)) := by decide +kernel
theorem fX8_tries_97 : ftc 97 (me_ci mX8_tries) = some (97, .invokestatic 65, 3, (102, 0, 779, 0)) := by decide +kernel
theorem fX8_tries_100 : ftc 100 (me_ci mX8_tries) = some (100, .goto 15, 3, (0, 0, 0, 0)) := by decide +kernel
theorem fX8_tries_103 : ftc 103 (me_ci mX8_tries) = some (103, .iload 7, 2, (0, 0, 0, 0)) := by decide +kernel
theorem fX8_tries_105 : ftc 105 (me_ci mX8_tries) = some (105, .aload_n 0, 1, (0, 0, 0, 0)) := by decide +kernel
theorem fX8_tries_106 : ftc 106 (me_ci mX8_tries) = some (106, .getfield 7, 3, (8, 0, 657, 0)) := by decide +kernel
theorem fX8_tries_109 : ftc 109 (me_ci mX8_tries) = some (109, .bipush 27, 2, (0, 0, 0, 0)) := by decide +kernel
theorem fX8_tries_111 : ftc 111 (me_ci mX8_tries) = some (111, .iaload, 1, (0, 0, 0, 0)) := by decide +kernel
theorem fX8_tries_112 : ftc 112 (me_ci mX8_tries) = some (112, .invokestatic 65, 3, (102, 0, 779, 0)) := by decide +kernel
theorem fX8_tries_115 : ftc 115 (me_ci mX8_tries) = some (115, .istore 9, 2, (0, 0, 0, 0)) := by decide +kernel
theorem fX8_tries_117 : ftc 117 (me_ci mX8_tries) = some (117, .aload_n 0, 1, (0, 0, 0, 0)) := by decide +kernel
theorem fX8_tries_118 : ftc 118 (me_ci mX8_tries) = some (118, .dup, 1, (0, 0, 0, 0)) := by decide +kernel
theorem fX8_tries_119 : ftc 119 (me_ci mX8_tries) = some (119, .getfield 109, 3, (8, 10, 667, 0)) := by decide +kernel
theorem fX8_tries_122 : ftc 122 (me_ci mX8_tries) = some (122, .iload 8, 2, (0, 0, 0, 0)) := by decide +kernel
theorem fX8_tries_124 : ftc 124 (me_ci mX8_tries) = some (124, .isub, 1, (0, 0, 0, 0)) := by decide +kernel
theorem fX8_tries_125 : ftc 125 (me_ci mX8_tries) = some (125, .putfield 109, 3, (8, 10, 667, 0)) := by decide +kernel
theorem fX8_tries_128 : ftc 128 (me_ci mX8_tries) = some (128, .aload_n 0, 1, (0, 0, 0, 0)) := by decide +kernel
theorem fX8_tries_129 : ftc 129 (me_ci mX8_tries) = some (129, .dup, 1, (0, 0, 0, 0)) := by decide +kernel
theorem fX8_tries_130 : ftc 130 (me_ci mX8_tries) = some (130, .getfield 112, 3, (8, 11, 668, 0)) := by decide +kernel
theorem fX8_tries_133 : ftc 133 (me_ci mX8_tries) = some (133, .iload 9, 2, (0, 0, 0, 0)) := by decide +kernel
theorem fX8_tries_135 : ftc 135 (me_ci mX8_tries) = some (135, .isub, 1, (0, 0, 0, 0)) := by decide +kernel
theorem fX8_tries_136 : ftc 136 (me_ci mX8_tries) = some (136, .putfield 112, 3, (8, 11, 668, 0)) := by decide +kernel
theorem fX8_tries_139 : ftc 139 (me_ci mX8_tries) = some (139, .aload_n 0, 1, (0, 0, 0, 0)) := by decide +kernel
theorem fX8_tries_140 : ftc 140 (me_ci mX8_tries) = some (140, .iload 4, 2, (0, 0, 0, 0)) := by decide +kernel
theorem fX8_tries_142 : ftc 142 (me_ci mX8_tries) = some (142, .iload 8, 2, (0, 0, 0, 0)) := by decide +kernel
theorem fX8_tries_144 : ftc 144 (me_ci mX8_tries) = some (144, .iadd, 1, (0, 0, 0, 0)) := by decide +kernel
theorem fX8_tries_145 : ftc 145 (me_ci mX8_tries) = some (145, .iload 9, 2, (0, 0, 0, 0)) := by decide +kernel
theorem fX8_tries_147 : ftc 147 (me_ci mX8_tries) = some (147, .iadd, 1, (0, 0, 0, 0)) := by decide +kernel
theorem fX8_tries_148 : ftc 148 (me_ci mX8_tries) = some (148, .putfield 121, 3, (8, 13, 670, 0)) := by decide +kernel
theorem fX8_tries_151 : ftc 151 (me_ci mX8_tries) = some (151, .iload 6, 2, (0, 0, 0, 0)) := by decide +kernel
theorem fX8_tries_153 : ftc 153 (me_ci mX8_tries) = some (153, .iload 7, 2, (0, 0, 0, 0)) := by decide +kernel
theorem fX8_tries_155 : ftc 155 (me_ci mX8_tries) = some (155, .if_icmp .ne 4, 3, (0, 0, 0, 0)) := by decide +kernel
theorem fX8_tries_158 : ftc 158 (me_ci mX8_tries) = some (158, .return_, 1, (0, 0, 0, 0)) := by decide +kernel
theorem fX8_tries_159 : ftc 159 (me_ci mX8_tries) = some (159, .aload_n 0, 1, (0, 0, 0, 0)) := by decide +kernel
theorem fX8_tries_160 : ftc 160 (me_ci mX8_tries) = some (160, .dup, 1, (0, 0, 0, 0)) := by decide +kernel
theorem fX8_tries_161 : ftc 161 (me_ci mX8_tries) = some (161, .getfield 115, 3, (8, 12, 669, 0)) := by decide +kernel
theorem fX8_tries_164 : ftc 164 (me_ci mX8_tries) = some (164, .iload 6, 2, (0, 0, 0, 0)) := by decide +kernel
theorem fX8_tries_166 : ftc 166 (me_ci mX8_tries) = some (166, .iload 7, 2, (0, 0, 0, 0)) := by decide +kernel
theorem fX8_tries_168 : ftc 168 (me_ci mX8_tries) = some (168, .if_icmp .le 8, 3, (0, 0, 0, 0)) := by decide +kernel
theorem fX8_tries_171 : ftc 171 (me_ci mX8_tries) = some (171, .iload 5, 2, (0, 0, 0, 0)) := by decide +kernel
theorem fX8_tries_173 : ftc 173 (me_ci mX8_tries) = some (173, .goto 6, 3, (0, 0, 0, 0)) := by decide +kernel
theorem fX8_tries_176 : ftc 176 (me_ci mX8_tries) = some (176, .iload 5, 2, (0, 0, 0, 0)) := by decide +kernel
theorem fX8_tries_178 : ftc 178 (me_ci mX8_tries) = some (178, .ineg, 1, (0, 0, 0, 0)) := by decide +kernel
theorem fX8_tries_179 : ftc 179 (me_ci mX8_tries) = some (179, .iadd, 1, (0, 0, 0, 0)) := by decide +kernel
theorem fX8_tries_180 : ftc 180 (me_ci mX8_tries) = some (180, .putfield 115, 3, (8, 12, 669, 0)) := by decide +kernel
theorem fX8_tries_183 : ftc 183 (me_ci mX8_tries) = some (183, .aload_n 0, 1, (0, 0, 0, 0)) := by decide +kernel
theorem fX8_tries_184 : ftc 184 (me_ci mX8_tries) = some (184, .iconst 0, 1, (0, 0, 0, 0)) := by decide +kernel
theorem fX8_tries_185 : ftc 185 (me_ci mX8_tries) = some (185, .putfield 118, 3, (8, 14, 671, 0)) := by decide +kernel
theorem fX8_tries_188 : ftc 188 (me_ci mX8_tries) = some (188, .aload_n 0, 1, (0, 0, 0, 0)) := by decide +kernel
theorem fX8_tries_189 : ftc 189 (me_ci mX8_tries) = some (189, .getfield 7, 3, (8, 0, 657, 0)) := by decide +kernel
theorem fX8_tries_192 : ftc 192 (me_ci mX8_tries) = some (192, .bipush 28, 2, (0, 0, 0, 0)) := by decide +kernel
theorem fX8_tries_194 : ftc 194 (me_ci mX8_tries) = some (194, .iaload, 1, (0, 0, 0, 0)) := by decide +kernel
theorem fX8_tries_195 : ftc 195 (me_ci mX8_tries) = some (195, .iconst 1, 1, (0, 0, 0, 0)) := by decide +kernel
theorem fX8_tries_196 : ftc 196 (me_ci mX8_tries) = some (196, .if_icmp .ne 56, 3, (0, 0, 0, 0)) := by decide +kernel
theorem fX8_tries_199 : ftc 199 (me_ci mX8_tries) = some (199, .aload_n 0, 1, (0, 0, 0, 0)) := by decide +kernel
theorem fX8_tries_200 : ftc 200 (me_ci mX8_tries) = some (200, .dup, 1, (0, 0, 0, 0)) := by decide +kernel
theorem fX8_tries_201 : ftc 201 (me_ci mX8_tries) = some (201, .getfield 109, 3, (8, 10, 667, 0)) := by decide +kernel
theorem fX8_tries_204 : ftc 204 (me_ci mX8_tries) = some (204, .iload 6, 2, (0, 0, 0, 0)) := by decide +kernel
theorem fX8_tries_206 : ftc 206 (me_ci mX8_tries) = some (206, .iload 7, 2, (0, 0, 0, 0)) := by decide +kernel
theorem fX8_tries_208 : ftc 208 (me_ci mX8_tries) = some (208, .if_icmp .le 7, 3, (0, 0, 0, 0)) := by decide +kernel
theorem fX8_tries_211 : ftc 211 (me_ci mX8_tries) = some (211, .iconst 0, 1, (0, 0, 0, 0)) := by decide +kernel
theorem fX8_tries_212 : ftc 212 (me_ci mX8_tries) = some (212, .goto 7, 3, (0, 0, 0, 0)) := by decide +kernel
theorem fX8_tries_215 : ftc 215 (me_ci mX8_tries) = some (215, .aload_n 0, 1, (0, 0, 0, 0)) := by decide +kernel
theorem fX8_tries_216 : ftc 216 (me_ci mX8_tries) = some (216, .getfield 121, 3, (8, 13, 670, 0)) := by decide +kernel
theorem fX8_tries_219 : ftc 219 (me_ci mX8_tries) = some (219, .iadd, 1, (0, 0, 0, 0)) := by decide +kernel
theorem fX8_tries_220 : ftc 220 (me_ci mX8_tries) = some (220, .putfield 109, 3, (8, 10, 667, 0)) := by decide +kernel
theorem fX8_tries_223 : ftc 223 (me_ci mX8_tries) = some (223, .aload_n 0, 1, (0, 0, 0, 0)) := by decide +kernel
theorem fX8_tries_224 : ftc 224 (me_ci mX8_tries) = some (224, .dup, 1, (0, 0, 0, 0)) := by decide +kernel
theorem fX8_tries_225 : ftc 225 (me_ci mX8_tries) = some (225, .getfield 112, 3, (8, 11, 668, 0)) := by decide +kernel
theorem fX8_tries_228 : ftc 228 (me_ci mX8_tries) = some (228, .iload 6, 2, (0, 0, 0, 0)) := by decide +kernel
theorem fX8_tries_230 : ftc 230 (me_ci mX8_tries) = some (230, .iload 7, 2, (0, 0, 0, 0)) := by decide +kernel
theorem fX8_tries_232 : ftc 232 (me_ci mX8_tries) = some (232, .if_icmp .le 10, 3, (0, 0, 0, 0)) := by decide +kernel
theorem fX8_tries_235 : ftc 235 (me_ci mX8_tries) = some (235, .aload_n 0, 1, (0, 0, 0, 0)) := by decide +kernel
theorem fX8_tries_236 : ftc 236 (me_ci mX8_tries) = some (236, .getfield 121, 3, (8, 13, 670, 0)) := by decide +kernel
theorem fX8_tries_239 : ftc 239 (me_ci mX8_tries) = some (239, .goto 4, 3, (0, 0, 0, 0)) := by decide +kernel
theorem fX8_tries_242 : ftc 242 (me_ci mX8_tries) = some (242, .iconst 0, 1, (0, 0, 0, 0)) := by decide +kernel
theorem fX8_tries_243 : ftc 243 (me_ci mX8_tries) = some (243, .iadd, 1, (0, 0, 0, 0)) := by decide +kernel
theorem fX8_tries_244 : ftc 244 (me_ci mX8_tries) = some (244, .putfield 112, 3, (8, 11, 668, 0)) := by decide +kernel
theorem fX8_tries_247 : ftc 247 (me_ci mX8_tries) = some (247, .aload_n 0, 1, (0, 0, 0, 0)) := by decide +kernel
theorem fX8_tries_248 : ftc 248 (me_ci mX8_tries) = some (248, .iconst 0, 1, (0, 0, 0, 0)) := by decide +kernel
theorem fX8_tries_249 : ftc 249 (me_ci mX8_tries) = some (249, .putfield 121, 3, (8, 13, 670, 0)) := by decide +kernel
theorem fX8_tries_252 : ftc 252 (me_ci mX8_tries) = some (252, .return_, 1, (0, 0, 0, 0)) := by decide +kernel
theorem pX8_tries : pg 118 = some mX8_tries := by decide +kernel
theorem fX8_holdsOne_0 : ftc 0 (me_ci mX8_holdsOne) = some (0, .iload 6, 2, (0, 0, 0, 0)) := by decide +kernel
theorem fX8_holdsOne_2 : ftc 2 (me_ci mX8_holdsOne) = some (2, .aload_n 0, 1, (0, 0, 0, 0)) := by decide +kernel
theorem fX8_holdsOne_3 : ftc 3 (me_ci mX8_holdsOne) = some (3, .getfield 7, 3, (8, 0, 657, 0)) := by decide +kernel
theorem fX8_holdsOne_6 : ftc 6 (me_ci mX8_holdsOne) = some (6, .iconst 4, 1, (0, 0, 0, 0)) := by decide +kernel
theorem fX8_holdsOne_7 : ftc 7 (me_ci mX8_holdsOne) = some (7, .iaload, 1, (0, 0, 0, 0)) := by decide +kernel
theorem fX8_holdsOne_8 : ftc 8 (me_ci mX8_holdsOne) = some (8, .if_icmp .lt 5, 3, (0, 0, 0, 0)) := by decide +kernel
theorem fX8_holdsOne_11 : ftc 11 (me_ci mX8_holdsOne) = some (11, .iload_n 3, 1, (0, 0, 0, 0)) := by decide +kernel
theorem fX8_holdsOne_12 : ftc 12 (me_ci mX8_holdsOne) = some (12, .ireturn, 1, (0, 0, 0, 0)) := by decide +kernel
theorem fX8_holdsOne_13 : ftc 13 (me_ci mX8_holdsOne) = some (13, .iconst 0, 1, (0, 0, 0, 0)) := by decide +kernel
theorem fX8_holdsOne_14 : ftc 14 (me_ci mX8_holdsOne) = some (14, .istore 7, 2, (0, 0, 0, 0)) := by decide +kernel
theorem fX8_holdsOne_16 : ftc 16 (me_ci mX8_holdsOne) = some (16, .aload_n 0, 1, (0, 0, 0, 0)) := by decide +kernel
theorem fX8_holdsOne_17 : ftc 17 (me_ci mX8_holdsOne) = some (17, .iconst (-1), 1, (0, 0, 0, 0)) := by decide +kernel
theorem fX8_holdsOne_18 : ftc 18 (me_ci mX8_holdsOne) = some (18, .putfield 124, 3, (8, 15, 672, 0)) := by decide +kernel
theorem fX8_holdsOne_21 : ftc 21 (me_ci mX8_holdsOne) = some (21, .iconst 0, 1, (0, 0, 0, 0)) := by decide +kernel
theorem fX8_holdsOne_22 : ftc 22 (me_ci mX8_holdsOne) = some (22, .istore 8, 2, (0, 0, 0, 0)) := by decide +kernel
theorem fX8_holdsOne_24 : ftc 24 (me_ci mX8_holdsOne) = some (24, .iload 8, 2, (0, 0, 0, 0)) := by decide +kernel
theorem fX8_holdsOne_26 : ftc 26 (me_ci mX8_holdsOne) = some (26, .iload_n 1, 1, (0, 0, 0, 0)) := by decide +kernel
theorem fX8_holdsOne_27 : ftc 27 (me_ci mX8_holdsOne) = some (27, .if_icmp .gt 101, 3, (0, 0, 0, 0)) := by decide +kernel
theorem fX8_holdsOne_30 : ftc 30 (me_ci mX8_holdsOne) = some (30, .iconst 0, 1, (0, 0, 0, 0)) := by decide +kernel
theorem fX8_holdsOne_31 : ftc 31 (me_ci mX8_holdsOne) = some (31, .istore 9, 2, (0, 0, 0, 0)) := by decide +kernel
theorem fX8_holdsOne_33 : ftc 33 (me_ci mX8_holdsOne) = some (33, .iconst 0, 1, (0, 0, 0, 0)) := by decide +kernel
theorem fX8_holdsOne_34 : ftc 34 (me_ci mX8_holdsOne) = some (34, .istore 10, 2, (0, 0, 0, 0)) := by decide +kernel
theorem fX8_holdsOne_36 : ftc 36 (me_ci mX8_holdsOne) = some (36, .iload 10, 2, (0, 0, 0, 0)) := by decide +kernel
theorem fX8_holdsOne_38 : ftc 38 (me_ci mX8_holdsOne) = some (38, .iload_n 2, 1, (0, 0, 0, 0)) := by decide +kernel
theorem fX8_holdsOne_39 : ftc 39 (me_ci mX8_holdsOne) = some (39, .if_icmp .gt 59, 3, (0, 0, 0, 0)) := by decide +kernel
theorem fX8_holdsOne_42 : ftc 42 (me_ci mX8_holdsOne) = some (42, .aload_n 0, 1, (0, 0, 0, 0)) := by decide +kernel
theorem fX8_holdsOne_43 : ftc 43 (me_ci mX8_holdsOne) = some (43, .iload_n 1, 1, (0, 0, 0, 0)) := by decide +kernel
theorem fX8_holdsOne_44 : ftc 44 (me_ci mX8_holdsOne) = some (44, .iload_n 2, 1, (0, 0, 0, 0)) := by decide +kernel
theorem fX8_holdsOne_45 : ftc 45 (me_ci mX8_holdsOne) = some (45, .iload_n 3, 1, (0, 0, 0, 0)) := by decide +kernel
theorem fX8_holdsOne_46 : ftc 46 (me_ci mX8_holdsOne) = some (46, .iload 4, 2, (0, 0, 0, 0)) := by decide +kernel
theorem fX8_holdsOne_48 : ftc 48 (me_ci mX8_holdsOne) = some (48, .iload 5, 2, (0, 0, 0, 0)) := by decide +kernel
theorem fX8_holdsOne_50 : ftc 50 (me_ci mX8_holdsOne) = some (50, .aload_n 0, 1, (0, 0, 0, 0)) := by decide +kernel
theorem fX8_holdsOne_51 : ftc 51 (me_ci mX8_holdsOne) = some (51, .getfield 7, 3, (8, 0, 657, 0)) := by decide +kernel
theorem fX8_holdsOne_54 : ftc 54 (me_ci mX8_holdsOne) = some (54, .iconst 5, 1, (0, 0, 0, 0)) := by decide +kernel
theorem fX8_holdsOne_55 : ftc 55 (me_ci mX8_holdsOne) = some (55, .iload 6, 2, (0, 0, 0, 0)) := by decide +kernel
theorem fX8_holdsOne_57 : ftc 57 (me_ci mX8_holdsOne) = some (57, .iadd, 1, (0, 0, 0, 0)) := by decide +kernel
theorem fX8_holdsOne_58 : ftc 58 (me_ci mX8_holdsOne) = some (58, .iaload, 1, (0, 0, 0, 0)) := by decide +kernel
theorem fX8_holdsOne_59 : ftc 59 (me_ci mX8_holdsOne) = some (59, .iadd, 1, (0, 0, 0, 0)) := by decide +kernel
theorem fX8_holdsOne_60 : ftc 60 (me_ci mX8_holdsOne) = some (60, .iload 8, 2, (0, 0, 0, 0)) := by decide +kernel
theorem fX8_holdsOne_62 : ftc 62 (me_ci mX8_holdsOne) = some (62, .iload 10, 2, (0, 0, 0, 0)) := by decide +kernel
theorem fX8_holdsOne_64 : ftc 64 (me_ci mX8_holdsOne) = some (64, .invokevirtual 127, 3, (118, 0, 850, 0)) := by decide +kernel
theorem fX8_holdsOne_67 : ftc 67 (me_ci mX8_holdsOne) = some (67, .iload 10, 2, (0, 0, 0, 0)) := by decide +kernel
theorem fX8_holdsOne_69 : ftc 69 (me_ci mX8_holdsOne) = some (69, .ifCond .eq 12, 3, (0, 0, 0, 0)) := by decide +kernel
theorem fX8_holdsOne_72 : ftc 72 (me_ci mX8_holdsOne) = some (72, .aload_n 0, 1, (0, 0, 0, 0)) := by decide +kernel
theorem fX8_holdsOne_73 : ftc 73 (me_ci mX8_holdsOne) = some (73, .getfield 115, 3, (8, 12, 669, 0)) := by decide +kernel
theorem fX8_holdsOne_76 : ftc 76 (me_ci mX8_holdsOne) = some (76, .iload 9, 2, (0, 0, 0, 0)) := by decide +kernel
theorem fX8_holdsOne_78 : ftc 78 (me_ci mX8_holdsOne) = some (78, .if_icmp .ge 10, 3, (0, 0, 0, 0)) := by decide +kernel
theorem fX8_holdsOne_81 : ftc 81 (me_ci mX8_holdsOne) = some (81, .aload_n 0, 1, (0, 0, 0, 0)) := by decide +kernel
theorem fX8_holdsOne_82 : ftc 82 (me_ci mX8_holdsOne) = some (82, .getfield 115, 3, (8, 12, 669, 0)) := by decide +kernel
theorem fX8_holdsOne_85 : ftc 85 (me_ci mX8_holdsOne) = some (85, .goto 5, 3, (0, 0, 0, 0)) := by decide +kernel
theorem fX8_holdsOne_88 : ftc 88 (me_ci mX8_holdsOne) = some (88, .iload 9, 2, (0, 0, 0, 0)) := by decide +kernel
theorem fX8_holdsOne_90 : ftc 90 (me_ci mX8_holdsOne) = some (90, .istore 9, 2, (0, 0, 0, 0)) := by decide +kernel
theorem fX8_holdsOne_92 : ftc 92 (me_ci mX8_holdsOne) = some (92, .iinc 10 1, 3, (0, 0, 0, 0)) := by decide +kernel
theorem fX8_holdsOne_95 : ftc 95 (me_ci mX8_holdsOne) = some (95, .goto (-59), 3, (0, 0, 0, 0)) := by decide +kernel
theorem fX8_holdsOne_98 : ftc 98 (me_ci mX8_holdsOne) = some (98, .aload_n 0, 1, (0, 0, 0, 0)) := by decide +kernel
theorem fX8_holdsOne_99 : ftc 99 (me_ci mX8_holdsOne) = some (99, .getfield 124, 3, (8, 15, 672, 0)) := by decide +kernel
theorem fX8_holdsOne_102 : ftc 102 (me_ci mX8_holdsOne) = some (102, .ifCond .lt 10, 3, (0, 0, 0, 0)) := by decide +kernel
theorem fX8_holdsOne_105 : ftc 105 (me_ci mX8_holdsOne) = some (105, .iload 9, 2, (0, 0, 0, 0)) := by decide +kernel
theorem fX8_holdsOne_107 : ftc 107 (me_ci mX8_holdsOne) = some (107, .iload 7, 2, (0, 0, 0, 0)) := by decide +kernel
theorem fX8_holdsOne_109 : ftc 109 (me_ci mX8_holdsOne) = some (109, .if_icmp .le 13, 3, (0, 0, 0, 0)) := by decide +kernel
theorem fX8_holdsOne_112 : ftc 112 (me_ci mX8_holdsOne) = some (112, .iload 9, 2, (0, 0, 0, 0)) := by decide +kernel
theorem fX8_holdsOne_114 : ftc 114 (me_ci mX8_holdsOne) = some (114, .istore 7, 2, (0, 0, 0, 0)) := by decide +kernel
theorem fX8_holdsOne_116 : ftc 116 (me_ci mX8_holdsOne) = some (116, .aload_n 0, 1, (0, 0, 0, 0)) := by decide +kernel
theorem fX8_holdsOne_117 : ftc 117 (me_ci mX8_holdsOne) = some (117, .iload 8, 2, (0, 0, 0, 0)) := by decide +kernel
theorem fX8_holdsOne_119 : ftc 119 (me_ci mX8_holdsOne) = some (119, .putfield 124, 3, (8, 15, 672, 0)) := by decide +kernel
theorem fX8_holdsOne_122 : ftc 122 (me_ci mX8_holdsOne) = some (122, .iinc 8 1, 3, (0, 0, 0, 0)) := by decide +kernel
theorem fX8_holdsOne_125 : ftc 125 (me_ci mX8_holdsOne) = some (125, .goto (-101), 3, (0, 0, 0, 0)) := by decide +kernel
theorem fX8_holdsOne_128 : ftc 128 (me_ci mX8_holdsOne) = some (128, .iload 7, 2, (0, 0, 0, 0)) := by decide +kernel
theorem fX8_holdsOne_130 : ftc 130 (me_ci mX8_holdsOne) = some (130, .ireturn, 1, (0, 0, 0, 0)) := by decide +kernel
theorem pX8_holdsOne : pg 119 = some mX8_holdsOne := by decide +kernel
theorem fX8_holdsTwo_0 : ftc 0 (me_ci mX8_holdsTwo) = some (0, .aload_n 0, 1, (0, 0, 0, 0)) := by decide +kernel
theorem fX8_holdsTwo_1 : ftc 1 (me_ci mX8_holdsTwo) = some (1, .getfield 7, 3, (8, 0, 657, 0)) := by decide +kernel
theorem fX8_holdsTwo_4 : ftc 4 (me_ci mX8_holdsTwo) = some (4, .iconst 4, 1, (0, 0, 0, 0)) := by decide +kernel
theorem fX8_holdsTwo_5 : ftc 5 (me_ci mX8_holdsTwo) = some (5, .iaload, 1, (0, 0, 0, 0)) := by decide +kernel
theorem fX8_holdsTwo_6 : ftc 6 (me_ci mX8_holdsTwo) = some (6, .ifCond .ne 5, 3, (0, 0, 0, 0)) := by decide +kernel
theorem fX8_holdsTwo_9 : ftc 9 (me_ci mX8_holdsTwo) = some (9, .iload_n 3, 1, (0, 0, 0, 0)) := by decide +kernel
theorem fX8_holdsTwo_10 : ftc 10 (me_ci mX8_holdsTwo) = some (10, .ireturn, 1, (0, 0, 0, 0)) := by decide +kernel
theorem fX8_holdsTwo_11 : ftc 11 (me_ci mX8_holdsTwo) = some (11, .iconst 0, 1, (0, 0, 0, 0)) := by decide +kernel
theorem fX8_holdsTwo_12 : ftc 12 (me_ci mX8_holdsTwo) = some (12, .istore 4, 2, (0, 0, 0, 0)) := by decide +kernel
theorem fX8_holdsTwo_14 : ftc 14 (me_ci mX8_holdsTwo) = some (14, .iconst (-1), 1, (0, 0, 0, 0)) := by decide +kernel
theorem fX8_holdsTwo_15 : ftc 15 (me_ci mX8_holdsTwo) = some (15, .istore 5, 2, (0, 0, 0, 0)) := by decide +kernel
theorem fX8_holdsTwo_17 : ftc 17 (me_ci mX8_holdsTwo) = some (17, .iconst 0, 1, (0, 0, 0, 0)) := by decide +kernel
theorem fX8_holdsTwo_18 : ftc 18 (me_ci mX8_holdsTwo) = some (18, .istore 6, 2, (0, 0, 0, 0)) := by decide +kernel
theorem fX8_holdsTwo_20 : ftc 20 (me_ci mX8_holdsTwo) = some (20, .iload 6, 2, (0, 0, 0, 0)) := by decide +kernel
theorem fX8_holdsTwo_22 : ftc 22 (me_ci mX8_holdsTwo) = some (22, .iload_n 1, 1, (0, 0, 0, 0)) := by decide +kernel
theorem fX8_holdsTwo_23 : ftc 23 (me_ci mX8_holdsTwo) = some (23, .if_icmp .gt 123, 3, (0, 0, 0, 0)) := by decide +kernel
theorem fX8_holdsTwo_26 : ftc 26 (me_ci mX8_holdsTwo) = some (26, .iconst 0, 1, (0, 0, 0, 0)) := by decide +kernel
theorem fX8_holdsTwo_27 : ftc 27 (me_ci mX8_holdsTwo) = some (27, .istore 7, 2, (0, 0, 0, 0)) := by decide +kernel
theorem fX8_holdsTwo_29 : ftc 29 (me_ci mX8_holdsTwo) = some (29, .iconst 0, 1, (0, 0, 0, 0)) := by decide +kernel
theorem fX8_holdsTwo_30 : ftc 30 (me_ci mX8_holdsTwo) = some (30, .istore 8, 2, (0, 0, 0, 0)) := by decide +kernel
theorem fX8_holdsTwo_32 : ftc 32 (me_ci mX8_holdsTwo) = some (32, .iload 8, 2, (0, 0, 0, 0)) := by decide +kernel
theorem fX8_holdsTwo_34 : ftc 34 (me_ci mX8_holdsTwo) = some (34, .iload_n 2, 1, (0, 0, 0, 0)) := by decide +kernel
theorem fX8_holdsTwo_35 : ftc 35 (me_ci mX8_holdsTwo) = some (35, .if_icmp .gt 85, 3, (0, 0, 0, 0)) := by decide +kernel
theorem fX8_holdsTwo_38 : ftc 38 (me_ci mX8_holdsTwo) = some (38, .aload_n 0, 1, (0, 0, 0, 0)) := by decide +kernel
theorem fX8_holdsTwo_39 : ftc 39 (me_ci mX8_holdsTwo) = some (39, .iload_n 1, 1, (0, 0, 0, 0)) := by decide +kernel
theorem fX8_holdsTwo_40 : ftc 40 (me_ci mX8_holdsTwo) = some (40, .iload_n 2, 1, (0, 0, 0, 0)) := by decide +kernel
theorem fX8_holdsTwo_41 : ftc 41 (me_ci mX8_holdsTwo) = some (41, .iload_n 3, 1, (0, 0, 0, 0)) := by decide +kernel
theorem fX8_holdsTwo_42 : ftc 42 (me_ci mX8_holdsTwo) = some (42, .aload_n 0, 1, (0, 0, 0, 0)) := by decide +kernel
theorem fX8_holdsTwo_43 : ftc 43 (me_ci mX8_holdsTwo) = some (43, .getfield 7, 3, (8, 0, 657, 0)) := by decide +kernel
theorem fX8_holdsTwo_46 : ftc 46 (me_ci mX8_holdsTwo) = some (46, .iconst 1, 1, (0, 0, 0, 0)) := by decide +kernel
theorem fX8_holdsTwo_47 : ftc 47 (me_ci mX8_holdsTwo) = some (47, .iaload, 1, (0, 0, 0, 0)) := by decide +kernel
theorem fX8_holdsTwo_48 : ftc 48 (me_ci mX8_holdsTwo) = some (48, .aload_n 0, 1, (0, 0, 0, 0)) := by decide +kernel
theorem fX8_holdsTwo_49 : ftc 49 (me_ci mX8_holdsTwo) = some (49, .invokevirtual 71, 3, (98, 0, 767, 0)) := by decide +kernel
theorem fX8_holdsTwo_52 : ftc 52 (me_ci mX8_holdsTwo) = some (52, .aload_n 0, 1, (0, 0, 0, 0)) := by decide +kernel
theorem fX8_holdsTwo_53 : ftc 53 (me_ci mX8_holdsTwo) = some (53, .getfield 7, 3, (8, 0, 657, 0)) := by decide +kernel
theorem fX8_holdsTwo_56 : ftc 56 (me_ci mX8_holdsTwo) = some (56, .iconst 5, 1, (0, 0, 0, 0)) := by decide +kernel
theorem fX8_holdsTwo_57 : ftc 57 (me_ci mX8_holdsTwo) = some (57, .iaload, 1, (0, 0, 0, 0)) := by decide +kernel
theorem fX8_holdsTwo_58 : ftc 58 (me_ci mX8_holdsTwo) = some (58, .iadd, 1, (0, 0, 0, 0)) := by decide +kernel
theorem fX8_holdsTwo_59 : ftc 59 (me_ci mX8_holdsTwo) = some (59, .iload 6, 2, (0, 0, 0, 0)) := by decide +kernel
theorem fX8_holdsTwo_61 : ftc 61 (me_ci mX8_holdsTwo) = some (61, .iload 8, 2, (0, 0, 0, 0)) := by decide +kernel
theorem fX8_holdsTwo_63 : ftc 63 (me_ci mX8_holdsTwo) = some (63, .invokevirtual 127, 3, (118, 0, 850, 0)) := by decide +kernel
theorem fX8_holdsTwo_66 : ftc 66 (me_ci mX8_holdsTwo) = some (66, .aload_n 0, 1, (0, 0, 0, 0)) := by decide +kernel
theorem fX8_holdsTwo_67 : ftc 67 (me_ci mX8_holdsTwo) = some (67, .aload_n 0, 1, (0, 0, 0, 0)) := by decide +kernel
theorem fX8_holdsTwo_68 : ftc 68 (me_ci mX8_holdsTwo) = some (68, .getfield 109, 3, (8, 10, 667, 0)) := by decide +kernel
theorem fX8_holdsTwo_71 : ftc 71 (me_ci mX8_holdsTwo) = some (71, .aload_n 0, 1, (0, 0, 0, 0)) := by decide +kernel
theorem fX8_holdsTwo_72 : ftc 72 (me_ci mX8_holdsTwo) = some (72, .getfield 112, 3, (8, 11, 668, 0)) := by decide +kernel
theorem fX8_holdsTwo_75 : ftc 75 (me_ci mX8_holdsTwo) = some (75, .aload_n 0, 1, (0, 0, 0, 0)) := by decide +kernel
theorem fX8_holdsTwo_76 : ftc 76 (me_ci mX8_holdsTwo) = some (76, .getfield 115, 3, (8, 12, 669, 0)) := by decide +kernel
theorem fX8_holdsTwo_79 : ftc 79 (me_ci mX8_holdsTwo) = some (79, .aload_n 0, 1, (0, 0, 0, 0)) := by decide +kernel
theorem fX8_holdsTwo_80 : ftc 80 (me_ci mX8_holdsTwo) = some (80, .getfield 121, 3, (8, 13, 670, 0)) := by decide +kernel
theorem fX8_holdsTwo_83 : ftc 83 (me_ci mX8_holdsTwo) = some (83, .aload_n 0, 1, (0, 0, 0, 0)) := by decide +kernel
theorem fX8_holdsTwo_84 : ftc 84 (me_ci mX8_holdsTwo) = some (84, .getfield 118, 3, (8, 14, 671, 0)) := by decide +kernel
theorem fX8_holdsTwo_87 : ftc 87 (me_ci mX8_holdsTwo) = some (87, .iconst 1, 1, (0, 0, 0, 0)) := by decide +kernel
theorem fX8_holdsTwo_88 : ftc 88 (me_ci mX8_holdsTwo) = some (88, .invokevirtual 131, 3, (119, 0, 846, 0)) := by decide +kernel
theorem fX8_holdsTwo_91 : ftc 91 (me_ci mX8_holdsTwo) = some (91, .istore 9, 2, (0, 0, 0, 0)) := by decide +kernel
theorem fX8_holdsTwo_93 : ftc 93 (me_ci mX8_holdsTwo) = some (93, .iload 8, 2, (0, 0, 0, 0)) := by decide +kernel
theorem fX8_holdsTwo_95 : ftc 95 (me_ci mX8_holdsTwo) = some (95, .ifCond .eq 10, 3, (0, 0, 0, 0)) := by decide +kernel
theorem fX8_holdsTwo_98 : ftc 98 (me_ci mX8_holdsTwo) = some (98, .iload 9, 2, (0, 0, 0, 0)) := by decide +kernel
theorem fX8_holdsTwo_100 : ftc 100 (me_ci mX8_holdsTwo) = some (100, .iload 7, 2, (0, 0, 0, 0)) := by decide +kernel
theorem fX8_holdsTwo_102 : ftc 102 (me_ci mX8_holdsTwo) = some (102, .if_icmp .ge 8, 3, (0, 0, 0, 0)) := by decide +kernel
theorem fX8_holdsTwo_105 : ftc 105 (me_ci mX8_holdsTwo) = some (105, .iload 9, 2, (0, 0, 0, 0)) := by decide +kernel
theorem fX8_holdsTwo_107 : ftc 107 (me_ci mX8_holdsTwo) = some (107, .goto 5, 3, (0, 0, 0, 0)) := by decide +kernel
theorem fX8_holdsTwo_110 : ftc 110 (me_ci mX8_holdsTwo) = some (110, .iload 7, 2, (0, 0, 0, 0)) := by decide +kernel
theorem fX8_holdsTwo_112 : ftc 112 (me_ci mX8_holdsTwo) = some (112, .istore 7, 2, (0, 0, 0, 0)) := by decide +kernel
theorem fX8_holdsTwo_114 : ftc 114 (me_ci mX8_holdsTwo) = some (114, .iinc 8 1, 3, (0, 0, 0, 0)) := by decide +kernel
theorem fX8_holdsTwo_117 : ftc 117 (me_ci mX8_holdsTwo) = some (117, .goto (-85), 3, (0, 0, 0, 0)) := by decide +kernel
theorem fX8_holdsTwo_120 : ftc 120 (me_ci mX8_holdsTwo) = some (120, .iload 5, 2, (0, 0, 0, 0)) := by decide +kernel
theorem fX8_holdsTwo_122 : ftc 122 (me_ci mX8_holdsTwo) = some (122, .ifCond .lt 10, 3, (0, 0, 0, 0)) := by decide +kernel
theorem fX8_holdsTwo_125 : ftc 125 (me_ci mX8_holdsTwo) = some (125, .iload 7, 2, (0, 0, 0, 0)) := by decide +kernel
theorem fX8_holdsTwo_127 : ftc 127 (me_ci mX8_holdsTwo) = some (127, .iload 4, 2, (0, 0, 0, 0)) := by decide +kernel
theorem fX8_holdsTwo_129 : ftc 129 (me_ci mX8_holdsTwo) = some (129, .if_icmp .le 11, 3, (0, 0, 0, 0)) := by decide +kernel
theorem fX8_holdsTwo_132 : ftc 132 (me_ci mX8_holdsTwo) = some (132, .iload 7, 2, (0, 0, 0, 0)) := by decide +kernel
theorem fX8_holdsTwo_134 : ftc 134 (me_ci mX8_holdsTwo) = some (134, .istore 4, 2, (0, 0, 0, 0)) := by decide +kernel
theorem fX8_holdsTwo_136 : ftc 136 (me_ci mX8_holdsTwo) = some (136, .iload 6, 2, (0, 0, 0, 0)) := by decide +kernel
theorem fX8_holdsTwo_138 : ftc 138 (me_ci mX8_holdsTwo) = some (138, .istore 5, 2, (0, 0, 0, 0)) := by decide +kernel
theorem fX8_holdsTwo_140 : ftc 140 (me_ci mX8_holdsTwo) = some (140, .iinc 6 1, 3, (0, 0, 0, 0)) := by decide +kernel
theorem fX8_holdsTwo_143 : ftc 143 (me_ci mX8_holdsTwo) = some (143, .goto (-123), 3, (0, 0, 0, 0)) := by decide +kernel
theorem fX8_holdsTwo_146 : ftc 146 (me_ci mX8_holdsTwo) = some (146, .aload_n 0, 1, (0, 0, 0, 0)) := by decide +kernel
theorem fX8_holdsTwo_147 : ftc 147 (me_ci mX8_holdsTwo) = some (147, .iload 5, 2, (0, 0, 0, 0)) := by decide +kernel
theorem fX8_holdsTwo_149 : ftc 149 (me_ci mX8_holdsTwo) = some (149, .putfield 124, 3, (8, 15, 672, 0)) := by decide +kernel
theorem fX8_holdsTwo_152 : ftc 152 (me_ci mX8_holdsTwo) = some (152, .iload 4, 2, (0, 0, 0, 0)) := by decide +kernel
theorem fX8_holdsTwo_154 : ftc 154 (me_ci mX8_holdsTwo) = some (154, .ireturn, 1, (0, 0, 0, 0)) := by decide +kernel
theorem pX8_holdsTwo : pg 120 = some mX8_holdsTwo := by decide +kernel
theorem fX8_looks_0 : ftc 0 (me_ci mX8_looks) = some (0, .aload_n 0, 1, (0, 0, 0, 0)) := by decide +kernel
theorem fX8_looks_1 : ftc 1 (me_ci mX8_looks) = some (1, .iload_n 1, 1, (0, 0, 0, 0)) := by decide +kernel
theorem fX8_looks_2 : ftc 2 (me_ci mX8_looks) = some (2, .iconst 0, 1, (0, 0, 0, 0)) := by decide +kernel
theorem fX8_looks_3 : ftc 3 (me_ci mX8_looks) = some (3, .invokevirtual 52, 3, (92, 0, 746, 0)) := by decide +kernel
theorem fX8_looks_6 : ftc 6 (me_ci mX8_looks) = some (6, .istore_n 3, 1, (0, 0, 0, 0)) := by decide +kernel
theorem fX8_looks_7 : ftc 7 (me_ci mX8_looks) = some (7, .aload_n 0, 1, (0, 0, 0, 0)) := by decide +kernel
theorem fX8_looks_8 : ftc 8 (me_ci mX8_looks) = some (8, .iconst 1, 1, (0, 0, 0, 0)) := by decide +kernel
theorem fX8_looks_9 : ftc 9 (me_ci mX8_looks) = some (9, .iload_n 1, 1, (0, 0, 0, 0)) := by decide +kernel
theorem fX8_looks_10 : ftc 10 (me_ci mX8_looks) = some (10, .isub, 1, (0, 0, 0, 0)) := by decide +kernel
theorem fX8_looks_11 : ftc 11 (me_ci mX8_looks) = some (11, .iconst 0, 1, (0, 0, 0, 0)) := by decide +kernel
theorem fX8_looks_12 : ftc 12 (me_ci mX8_looks) = some (12, .invokevirtual 52, 3, (92, 0, 746, 0)) := by decide +kernel
theorem fX8_looks_15 : ftc 15 (me_ci mX8_looks) = some (15, .istore 4, 2, (0, 0, 0, 0)) := by decide +kernel
theorem fX8_looks_17 : ftc 17 (me_ci mX8_looks) = some (17, .aload_n 0, 1, (0, 0, 0, 0)) := by decide +kernel
theorem fX8_looks_18 : ftc 18 (me_ci mX8_looks) = some (18, .iload_n 1, 1, (0, 0, 0, 0)) := by decide +kernel
theorem fX8_looks_19 : ftc 19 (me_ci mX8_looks) = some (19, .iconst 1, 1, (0, 0, 0, 0)) := by decide +kernel
theorem fX8_looks_20 : ftc 20 (me_ci mX8_looks) = some (20, .invokevirtual 52, 3, (92, 0, 746, 0)) := by decide +kernel
theorem fX8_looks_23 : ftc 23 (me_ci mX8_looks) = some (23, .aload_n 0, 1, (0, 0, 0, 0)) := by decide +kernel
theorem fX8_looks_24 : ftc 24 (me_ci mX8_looks) = some (24, .iconst 1, 1, (0, 0, 0, 0)) := by decide +kernel
theorem fX8_looks_25 : ftc 25 (me_ci mX8_looks) = some (25, .iload_n 1, 1, (0, 0, 0, 0)) := by decide +kernel
theorem fX8_looks_26 : ftc 26 (me_ci mX8_looks) = some (26, .isub, 1, (0, 0, 0, 0)) := by decide +kernel
theorem fX8_looks_27 : ftc 27 (me_ci mX8_looks) = some (27, .iconst 1, 1, (0, 0, 0, 0)) := by decide +kernel
theorem fX8_looks_28 : ftc 28 (me_ci mX8_looks) = some (28, .invokevirtual 52, 3, (92, 0, 746, 0)) := by decide +kernel
theorem fX8_looks_31 : ftc 31 (me_ci mX8_looks) = some (31, .isub, 1, (0, 0, 0, 0)) := by decide +kernel
theorem fX8_looks_32 : ftc 32 (me_ci mX8_looks) = some (32, .istore 5, 2, (0, 0, 0, 0)) := by decide +kernel
theorem fX8_looks_34 : ftc 34 (me_ci mX8_looks) = some (34, .aload_n 0, 1, (0, 0, 0, 0)) := by decide +kernel
theorem fX8_looks_35 : ftc 35 (me_ci mX8_looks) = some (35, .iload_n 2, 1, (0, 0, 0, 0)) := by decide +kernel
theorem fX8_looks_36 : ftc 36 (me_ci mX8_looks) = some (36, .iconst 1, 1, (0, 0, 0, 0)) := by decide +kernel
theorem fX8_looks_37 : ftc 37 (me_ci mX8_looks) = some (37, .if_icmp .ne 26, 3, (0, 0, 0, 0)) := by decide +kernel
theorem fX8_looks_40 : ftc 40 (me_ci mX8_looks) = some (40, .aload_n 0, 1, (0, 0, 0, 0)) := by decide +kernel
theorem fX8_looks_41 : ftc 41 (me_ci mX8_looks) = some (41, .iload_n 3, 1, (0, 0, 0, 0)) := by decide +kernel
theorem fX8_looks_42 : ftc 42 (me_ci mX8_looks) = some (42, .iload 4, 2, (0, 0, 0, 0)) := by decide +kernel
theorem fX8_looks_44 : ftc 44 (me_ci mX8_looks) = some (44, .iload 5, 2, (0, 0, 0, 0)) := by decide +kernel
theorem fX8_looks_46 : ftc 46 (me_ci mX8_looks) = some (46, .aload_n 0, 1, (0, 0, 0, 0)) := by decide +kernel
theorem fX8_looks_47 : ftc 47 (me_ci mX8_looks) = some (47, .getfield 7, 3, (8, 0, 657, 0)) := by decide +kernel
theorem fX8_looks_50 : ftc 50 (me_ci mX8_looks) = some (50, .iconst 1, 1, (0, 0, 0, 0)) := by decide +kernel
theorem fX8_looks_51 : ftc 51 (me_ci mX8_looks) = some (51, .iaload, 1, (0, 0, 0, 0)) := by decide +kernel
theorem fX8_looks_52 : ftc 52 (me_ci mX8_looks) = some (52, .aload_n 0, 1, (0, 0, 0, 0)) := by decide +kernel
theorem fX8_looks_53 : ftc 53 (me_ci mX8_looks) = some (53, .invokevirtual 71, 3, (98, 0, 767, 0)) := by decide +kernel
theorem fX8_looks_56 : ftc 56 (me_ci mX8_looks) = some (56, .iconst 0, 1, (0, 0, 0, 0)) := by decide +kernel
theorem fX8_looks_57 : ftc 57 (me_ci mX8_looks) = some (57, .invokevirtual 131, 3, (119, 0, 846, 0)) := by decide +kernel
theorem fX8_looks_60 : ftc 60 (me_ci mX8_looks) = some (60, .goto 12, 3, (0, 0, 0, 0)) := by decide +kernel
theorem fX8_looks_63 : ftc 63 (me_ci mX8_looks) = some (63, .aload_n 0, 1, (0, 0, 0, 0)) := by decide +kernel
theorem fX8_looks_64 : ftc 64 (me_ci mX8_looks) = some (64, .iload_n 3, 1, (0, 0, 0, 0)) := by decide +kernel
theorem fX8_looks_65 : ftc 65 (me_ci mX8_looks) = some (65, .iload 4, 2, (0, 0, 0, 0)) := by decide +kernel
theorem fX8_looks_67 : ftc 67 (me_ci mX8_looks) = some (67, .iload 5, 2, (0, 0, 0, 0)) := by decide +kernel
theorem fX8_looks_69 : ftc 69 (me_ci mX8_looks) = some (69, .invokevirtual 135, 3, (120, 0, 854, 0)) := by decide +kernel
theorem fX8_looks_72 : ftc 72 (me_ci mX8_looks) = some (72, .putfield 139, 3, (8, 16, 673, 0)) := by decide +kernel
theorem fX8_looks_75 : ftc 75 (me_ci mX8_looks) = some (75, .aload_n 0, 1, (0, 0, 0, 0)) := by decide +kernel
theorem fX8_looks_76 : ftc 76 (me_ci mX8_looks) = some (76, .getfield 124, 3, (8, 15, 672, 0)) := by decide +kernel
theorem fX8_looks_79 : ftc 79 (me_ci mX8_looks) = some (79, .ifCond .lt 7, 3, (0, 0, 0, 0)) := by decide +kernel
theorem fX8_looks_82 : ftc 82 (me_ci mX8_looks) = some (82, .iconst 1, 1, (0, 0, 0, 0)) := by decide +kernel
theorem fX8_looks_83 : ftc 83 (me_ci mX8_looks) = some (83, .goto 4, 3, (0, 0, 0, 0)) := by decide +kernel
theorem fX8_looks_86 : ftc 86 (me_ci mX8_looks) = some (86, .iconst 0, 1, (0, 0, 0, 0)) := by decide +kernel
theorem fX8_looks_87 : ftc 87 (me_ci mX8_looks) = some (87, .ireturn, 1, (0, 0, 0, 0)) := by decide +kernel
theorem pX8_looks : pg 121 = some mX8_looks := by decide +kernel
theorem fX8_holds_0 : ftc 0 (me_ci mX8_holds) = some (0, .aload_n 0, 1, (0, 0, 0, 0)) := by decide +kernel
theorem fX8_holds_1 : ftc 1 (me_ci mX8_holds) = some (1, .iload_n 1, 1, (0, 0, 0, 0)) := by decide +kernel
theorem fX8_holds_2 : ftc 2 (me_ci mX8_holds) = some (2, .invokevirtual 56, 3, (91, 0, 742, 0)) := by decide +kernel
theorem fX8_holds_5 : ftc 5 (me_ci mX8_holds) = some (5, .ifCond .eq 12, 3, (0, 0, 0, 0)) := by decide +kernel
theorem fX8_holds_8 : ftc 8 (me_ci mX8_holds) = some (8, .iload_n 2, 1, (0, 0, 0, 0)) := by decide +kernel
theorem fX8_holds_9 : ftc 9 (me_ci mX8_holds) = some (9, .iconst 0, 1, (0, 0, 0, 0)) := by decide +kernel
theorem fX8_holds_10 : ftc 10 (me_ci mX8_holds) = some (10, .iconst 2, 1, (0, 0, 0, 0)) := by decide +kernel
theorem fX8_holds_11 : ftc 11 (me_ci mX8_holds) = some (11, .invokestatic 43, 3, (88, 0, 654, 0)) := by decide +kernel
theorem fX8_holds_14 : ftc 14 (me_ci mX8_holds) = some (14, .ifCond .ne 6, 3, (0, 0, 0, 0)) := by decide +kernel
theorem fX8_holds_17 : ftc 17 (me_ci mX8_holds) = some (17, .ldc 47, 2, (728, 0, 0, -1000001)) := by decide +kernel
theorem fX8_holds_19 : ftc 19 (me_ci mX8_holds) = some (19, .ireturn, 1, (0, 0, 0, 0)) := by decide +kernel
theorem fX8_holds_20 : ftc 20 (me_ci mX8_holds) = some (20, .aload_n 0, 1, (0, 0, 0, 0)) := by decide +kernel
theorem fX8_holds_21 : ftc 21 (me_ci mX8_holds) = some (21, .getfield 7, 3, (8, 0, 657, 0)) := by decide +kernel
theorem fX8_holds_24 : ftc 24 (me_ci mX8_holds) = some (24, .iconst 0, 1, (0, 0, 0, 0)) := by decide +kernel
theorem fX8_holds_25 : ftc 25 (me_ci mX8_holds) = some (25, .iaload, 1, (0, 0, 0, 0)) := by decide +kernel
theorem fX8_holds_26 : ftc 26 (me_ci mX8_holds) = some (26, .iconst 2, 1, (0, 0, 0, 0)) := by decide +kernel
theorem fX8_holds_27 : ftc 27 (me_ci mX8_holds) = some (27, .if_icmp .le 6, 3, (0, 0, 0, 0)) := by decide +kernel
theorem fX8_holds_30 : ftc 30 (me_ci mX8_holds) = some (30, .ldc 60, 2, (750, 0, 0, -1000002)) := by decide +kernel
theorem fX8_holds_32 : ftc 32 (me_ci mX8_holds) = some (32, .ireturn, 1, (0, 0, 0, 0)) := by decide +kernel
theorem fX8_holds_33 : ftc 33 (me_ci mX8_holds) = some (33, .iload_n 2, 1, (0, 0, 0, 0)) := by decide +kernel
theorem fX8_holds_34 : ftc 34 (me_ci mX8_holds) = some (34, .ifCond .eq 12, 3, (0, 0, 0, 0)) := by decide +kernel
theorem fX8_holds_37 : ftc 37 (me_ci mX8_holds) = some (37, .aload_n 0, 1, (0, 0, 0, 0)) := by decide +kernel
theorem fX8_holds_38 : ftc 38 (me_ci mX8_holds) = some (38, .getfield 7, 3, (8, 0, 657, 0)) := by decide +kernel
theorem fX8_holds_41 : ftc 41 (me_ci mX8_holds) = some (41, .iconst 4, 1, (0, 0, 0, 0)) := by decide +kernel
theorem fX8_holds_42 : ftc 42 (me_ci mX8_holds) = some (42, .iaload, 1, (0, 0, 0, 0)) := by decide +kernel
theorem fX8_holds_43 : ftc 43 (me_ci mX8_holds) = some (43, .ifCond .ne 7, 3, (0, 0, 0, 0)) := by decide +kernel
theorem fX8_holds_46 : ftc 46 (me_ci mX8_holds) = some (46, .iconst 1, 1, (0, 0, 0, 0)) := by decide +kernel
theorem fX8_holds_47 : ftc 47 (me_ci mX8_holds) = some (47, .goto 4, 3, (0, 0, 0, 0)) := by decide +kernel
theorem fX8_holds_50 : ftc 50 (me_ci mX8_holds) = some (50, .iconst 0, 1, (0, 0, 0, 0)) := by decide +kernel
theorem fX8_holds_51 : ftc 51 (me_ci mX8_holds) = some (51, .istore_n 3, 1, (0, 0, 0, 0)) := by decide +kernel
theorem fX8_holds_52 : ftc 52 (me_ci mX8_holds) = some (52, .iload_n 3, 1, (0, 0, 0, 0)) := by decide +kernel
theorem fX8_holds_53 : ftc 53 (me_ci mX8_holds) = some (53, .ifCond .ne 12, 3, (0, 0, 0, 0)) := by decide +kernel
theorem fX8_holds_56 : ftc 56 (me_ci mX8_holds) = some (56, .aload_n 0, 1, (0, 0, 0, 0)) := by decide +kernel
theorem fX8_holds_57 : ftc 57 (me_ci mX8_holds) = some (57, .iload_n 1, 1, (0, 0, 0, 0)) := by decide +kernel
theorem fX8_holds_58 : ftc 58 (me_ci mX8_holds) = some (58, .iload_n 2, 1, (0, 0, 0, 0)) := by decide +kernel
theorem fX8_holds_59 : ftc 59 (me_ci mX8_holds) = some (59, .invokevirtual 142, 3, (121, 0, 842, 0)) := by decide +kernel
theorem fX8_holds_62 : ftc 62 (me_ci mX8_holds) = some (62, .ifCond .ne 21, 3, (0, 0, 0, 0)) := by decide +kernel
theorem fX8_holds_65 : ftc 65 (me_ci mX8_holds) = some (65, .aload_n 0, 1, (0, 0, 0, 0)) := by decide +kernel
theorem fX8_holds_66 : ftc 66 (me_ci mX8_holds) = some (66, .iload_n 1, 1, (0, 0, 0, 0)) := by decide +kernel
theorem fX8_holds_67 : ftc 67 (me_ci mX8_holds) = some (67, .iconst 1, 1, (0, 0, 0, 0)) := by decide +kernel
theorem fX8_holds_68 : ftc 68 (me_ci mX8_holds) = some (68, .invokevirtual 52, 3, (92, 0, 746, 0)) := by decide +kernel
theorem fX8_holds_71 : ftc 71 (me_ci mX8_holds) = some (71, .aload_n 0, 1, (0, 0, 0, 0)) := by decide +kernel
theorem fX8_holds_72 : ftc 72 (me_ci mX8_holds) = some (72, .iconst 1, 1, (0, 0, 0, 0)) := by decide +kernel
theorem fX8_holds_73 : ftc 73 (me_ci mX8_holds) = some (73, .iload_n 1, 1, (0, 0, 0, 0)) := by decide +kernel
theorem fX8_holds_74 : ftc 74 (me_ci mX8_holds) = some (74, .isub, 1, (0, 0, 0, 0)) := by decide +kernel
theorem fX8_holds_75 : ftc 75 (me_ci mX8_holds) = some (75, .iconst 1, 1, (0, 0, 0, 0)) := by decide +kernel
theorem fX8_holds_76 : ftc 76 (me_ci mX8_holds) = some (76, .invokevirtual 52, 3, (92, 0, 746, 0)) := by decide +kernel
theorem fX8_holds_79 : ftc 79 (me_ci mX8_holds) = some (79, .isub, 1, (0, 0, 0, 0)) := by decide +kernel
theorem fX8_holds_80 : ftc 80 (me_ci mX8_holds) = some (80, .goto 7, 3, (0, 0, 0, 0)) := by decide +kernel
theorem fX8_holds_83 : ftc 83 (me_ci mX8_holds) = some (83, .aload_n 0, 1, (0, 0, 0, 0)) := by decide +kernel
theorem fX8_holds_84 : ftc 84 (me_ci mX8_holds) = some (84, .getfield 139, 3, (8, 16, 673, 0)) := by decide +kernel
theorem fX8_holds_87 : ftc 87 (me_ci mX8_holds) = some (87, .ireturn, 1, (0, 0, 0, 0)) := by decide +kernel
theorem pX8_holds : pg 122 = some mX8_holds := by decide +kernel
theorem fX8_holding_0 : ftc 0 (me_ci mX8_holding) = some (0, .aload_n 0, 1, (0, 0, 0, 0)) := by decide +kernel
theorem fX8_holding_1 : ftc 1 (me_ci mX8_holding) = some (1, .iload_n 1, 1, (0, 0, 0, 0)) := by decide +kernel
theorem fX8_holding_2 : ftc 2 (me_ci mX8_holding) = some (2, .invokevirtual 56, 3, (91, 0, 742, 0)) := by decide +kernel
theorem fX8_holding_5 : ftc 5 (me_ci mX8_holding) = some (5, .ifCond .eq 12, 3, (0, 0, 0, 0)) := by decide +kernel
theorem fX8_holding_8 : ftc 8 (me_ci mX8_holding) = some (8, .iload_n 2, 1, (0, 0, 0, 0)) := by decide +kernel
theorem fX8_holding_9 : ftc 9 (me_ci mX8_holding) = some (9, .iconst 1, 1, (0, 0, 0, 0)) := by decide +kernel
theorem fX8_holding_10 : ftc 10 (me_ci mX8_holding) = some (10, .iconst 2, 1, (0, 0, 0, 0)) := by decide +kernel
theorem fX8_holding_11 : ftc 11 (me_ci mX8_holding) = some (11, .invokestatic 43, 3, (88, 0, 654, 0)) := by decide +kernel
theorem fX8_holding_14 : ftc 14 (me_ci mX8_holding) = some (14, .ifCond .ne 6, 3, (0, 0, 0, 0)) := by decide +kernel
theorem fX8_holding_17 : ftc 17 (me_ci mX8_holding) = some (17, .ldc 47, 2, (728, 0, 0, -1000001)) := by decide +kernel
theorem fX8_holding_19 : ftc 19 (me_ci mX8_holding) = some (19, .ireturn, 1, (0, 0, 0, 0)) := by decide +kernel
theorem fX8_holding_20 : ftc 20 (me_ci mX8_holding) = some (20, .aload_n 0, 1, (0, 0, 0, 0)) := by decide +kernel
theorem fX8_holding_21 : ftc 21 (me_ci mX8_holding) = some (21, .getfield 7, 3, (8, 0, 657, 0)) := by decide +kernel
theorem fX8_holding_24 : ftc 24 (me_ci mX8_holding) = some (24, .iconst 0, 1, (0, 0, 0, 0)) := by decide +kernel
theorem fX8_holding_25 : ftc 25 (me_ci mX8_holding) = some (25, .iaload, 1, (0, 0, 0, 0)) := by decide +kernel
theorem fX8_holding_26 : ftc 26 (me_ci mX8_holding) = some (26, .iconst 2, 1, (0, 0, 0, 0)) := by decide +kernel
theorem fX8_holding_27 : ftc 27 (me_ci mX8_holding) = some (27, .if_icmp .gt 12, 3, (0, 0, 0, 0)) := by decide +kernel
theorem fX8_holding_30 : ftc 30 (me_ci mX8_holding) = some (30, .aload_n 0, 1, (0, 0, 0, 0)) := by decide +kernel
theorem fX8_holding_31 : ftc 31 (me_ci mX8_holding) = some (31, .getfield 7, 3, (8, 0, 657, 0)) := by decide +kernel
theorem fX8_holding_34 : ftc 34 (me_ci mX8_holding) = some (34, .iconst 4, 1, (0, 0, 0, 0)) := by decide +kernel
theorem fX8_holding_35 : ftc 35 (me_ci mX8_holding) = some (35, .iaload, 1, (0, 0, 0, 0)) := by decide +kernel
theorem fX8_holding_36 : ftc 36 (me_ci mX8_holding) = some (36, .ifCond .ne 6, 3, (0, 0, 0, 0)) := by decide +kernel
theorem fX8_holding_39 : ftc 39 (me_ci mX8_holding) = some (39, .ldc 60, 2, (750, 0, 0, -1000002)) := by decide +kernel
theorem fX8_holding_41 : ftc 41 (me_ci mX8_holding) = some (41, .ireturn, 1, (0, 0, 0, 0)) := by decide +kernel
theorem fX8_holding_42 : ftc 42 (me_ci mX8_holding) = some (42, .aload_n 0, 1, (0, 0, 0, 0)) := by decide +kernel
theorem fX8_holding_43 : ftc 43 (me_ci mX8_holding) = some (43, .iload_n 1, 1, (0, 0, 0, 0)) := by decide +kernel
theorem fX8_holding_44 : ftc 44 (me_ci mX8_holding) = some (44, .iload_n 2, 1, (0, 0, 0, 0)) := by decide +kernel
theorem fX8_holding_45 : ftc 45 (me_ci mX8_holding) = some (45, .invokevirtual 142, 3, (121, 0, 842, 0)) := by decide +kernel
theorem fX8_holding_48 : ftc 48 (me_ci mX8_holding) = some (48, .ifCond .eq 10, 3, (0, 0, 0, 0)) := by decide +kernel
theorem fX8_holding_51 : ftc 51 (me_ci mX8_holding) = some (51, .aload_n 0, 1, (0, 0, 0, 0)) := by decide +kernel
theorem fX8_holding_52 : ftc 52 (me_ci mX8_holding) = some (52, .getfield 124, 3, (8, 15, 672, 0)) := by decide +kernel
theorem fX8_holding_55 : ftc 55 (me_ci mX8_holding) = some (55, .goto 5, 3, (0, 0, 0, 0)) := by decide +kernel
theorem fX8_holding_58 : ftc 58 (me_ci mX8_holding) = some (58, .ldc 95, 2, (806, 0, 0, -1000004)) := by decide +kernel
theorem fX8_holding_60 : ftc 60 (me_ci mX8_holding) = some (60, .ireturn, 1, (0, 0, 0, 0)) := by decide +kernel
theorem pX8_holding : pg 123 = some mX8_holding := by decide +kernel
theorem fX8_chance_0 : ftc 0 (me_ci mX8_chance) = some (0, .aload_n 0, 1, (0, 0, 0, 0)) := by decide +kernel
theorem fX8_chance_1 : ftc 1 (me_ci mX8_chance) = some (1, .iload_n 1, 1, (0, 0, 0, 0)) := by decide +kernel
theorem fX8_chance_2 : ftc 2 (me_ci mX8_chance) = some (2, .invokevirtual 56, 3, (91, 0, 742, 0)) := by decide +kernel
theorem fX8_chance_5 : ftc 5 (me_ci mX8_chance) = some (5, .ifCond .ne 6, 3, (0, 0, 0, 0)) := by decide +kernel
theorem fX8_chance_8 : ftc 8 (me_ci mX8_chance) = some (8, .ldc 47, 2, (728, 0, 0, -1000001)) := by decide +kernel
theorem fX8_chance_10 : ftc 10 (me_ci mX8_chance) = some (10, .ireturn, 1, (0, 0, 0, 0)) := by decide +kernel
theorem fX8_chance_11 : ftc 11 (me_ci mX8_chance) = some (11, .aload_n 0, 1, (0, 0, 0, 0)) := by decide +kernel
theorem fX8_chance_12 : ftc 12 (me_ci mX8_chance) = some (12, .iload_n 1, 1, (0, 0, 0, 0)) := by decide +kernel
theorem fX8_chance_13 : ftc 13 (me_ci mX8_chance) = some (13, .iconst 1, 1, (0, 0, 0, 0)) := by decide +kernel
theorem fX8_chance_14 : ftc 14 (me_ci mX8_chance) = some (14, .invokevirtual 52, 3, (92, 0, 746, 0)) := by decide +kernel
theorem fX8_chance_17 : ftc 17 (me_ci mX8_chance) = some (17, .istore_n 2, 1, (0, 0, 0, 0)) := by decide +kernel
theorem fX8_chance_18 : ftc 18 (me_ci mX8_chance) = some (18, .iconst 0, 1, (0, 0, 0, 0)) := by decide +kernel
theorem fX8_chance_19 : ftc 19 (me_ci mX8_chance) = some (19, .istore_n 3, 1, (0, 0, 0, 0)) := by decide +kernel
theorem fX8_chance_20 : ftc 20 (me_ci mX8_chance) = some (20, .iload_n 3, 1, (0, 0, 0, 0)) := by decide +kernel
theorem fX8_chance_21 : ftc 21 (me_ci mX8_chance) = some (21, .aload_n 0, 1, (0, 0, 0, 0)) := by decide +kernel
theorem fX8_chance_22 : ftc 22 (me_ci mX8_chance) = some (22, .getfield 7, 3, (8, 0, 657, 0)) := by decide +kernel
theorem fX8_chance_25 : ftc 25 (me_ci mX8_chance) = some (25, .iconst 4, 1, (0, 0, 0, 0)) := by decide +kernel
theorem fX8_chance_26 : ftc 26 (me_ci mX8_chance) = some (26, .iaload, 1, (0, 0, 0, 0)) := by decide +kernel
theorem fX8_chance_27 : ftc 27 (me_ci mX8_chance) = some (27, .if_icmp .ge 35, 3, (0, 0, 0, 0)) := by decide +kernel
theorem fX8_chance_30 : ftc 30 (me_ci mX8_chance) = some (30, .iload_n 2, 1, (0, 0, 0, 0)) := by decide +kernel
theorem fX8_chance_31 : ftc 31 (me_ci mX8_chance) = some (31, .aload_n 0, 1, (0, 0, 0, 0)) := by decide +kernel
theorem fX8_chance_32 : ftc 32 (me_ci mX8_chance) = some (32, .getfield 7, 3, (8, 0, 657, 0)) := by decide +kernel
theorem fX8_chance_35 : ftc 35 (me_ci mX8_chance) = some (35, .iconst 5, 1, (0, 0, 0, 0)) := by decide +kernel
theorem fX8_chance_36 : ftc 36 (me_ci mX8_chance) = some (36, .iload_n 3, 1, (0, 0, 0, 0)) := by decide +kernel
theorem fX8_chance_37 : ftc 37 (me_ci mX8_chance) = some (37, .iadd, 1, (0, 0, 0, 0)) := by decide +kernel
theorem fX8_chance_38 : ftc 38 (me_ci mX8_chance) = some (38, .iaload, 1, (0, 0, 0, 0)) := by decide +kernel
theorem fX8_chance_39 : ftc 39 (me_ci mX8_chance) = some (39, .ifCond .le 14, 3, (0, 0, 0, 0)) := by decide +kernel
theorem fX8_chance_42 : ftc 42 (me_ci mX8_chance) = some (42, .aload_n 0, 1, (0, 0, 0, 0)) := by decide +kernel
theorem fX8_chance_43 : ftc 43 (me_ci mX8_chance) = some (43, .getfield 7, 3, (8, 0, 657, 0)) := by decide +kernel
theorem fX8_chance_46 : ftc 46 (me_ci mX8_chance) = some (46, .iconst 5, 1, (0, 0, 0, 0)) := by decide +kernel
theorem fX8_chance_47 : ftc 47 (me_ci mX8_chance) = some (47, .iload_n 3, 1, (0, 0, 0, 0)) := by decide +kernel
theorem fX8_chance_48 : ftc 48 (me_ci mX8_chance) = some (48, .iadd, 1, (0, 0, 0, 0)) := by decide +kernel
theorem fX8_chance_49 : ftc 49 (me_ci mX8_chance) = some (49, .iaload, 1, (0, 0, 0, 0)) := by decide +kernel
theorem fX8_chance_50 : ftc 50 (me_ci mX8_chance) = some (50, .goto 4, 3, (0, 0, 0, 0)) := by decide +kernel
theorem fX8_chance_53 : ftc 53 (me_ci mX8_chance) = some (53, .iconst 0, 1, (0, 0, 0, 0)) := by decide +kernel
theorem fX8_chance_54 : ftc 54 (me_ci mX8_chance) = some (54, .iadd, 1, (0, 0, 0, 0)) := by decide +kernel
theorem fX8_chance_55 : ftc 55 (me_ci mX8_chance) = some (55, .istore_n 2, 1, (0, 0, 0, 0)) := by decide +kernel
theorem fX8_chance_56 : ftc 56 (me_ci mX8_chance) = some (56, .iinc 3 1, 3, (0, 0, 0, 0)) := by decide +kernel
theorem fX8_chance_59 : ftc 59 (me_ci mX8_chance) = some (59, .goto (-39), 3, (0, 0, 0, 0)) := by decide +kernel
theorem fX8_chance_62 : ftc 62 (me_ci mX8_chance) = some (62, .iconst 0, 1, (0, 0, 0, 0)) := by decide +kernel
theorem fX8_chance_63 : ftc 63 (me_ci mX8_chance) = some (63, .istore_n 3, 1, (0, 0, 0, 0)) := by decide +kernel
theorem fX8_chance_64 : ftc 64 (me_ci mX8_chance) = some (64, .iload_n 3, 1, (0, 0, 0, 0)) := by decide +kernel
theorem fX8_chance_65 : ftc 65 (me_ci mX8_chance) = some (65, .aload_n 0, 1, (0, 0, 0, 0)) := by decide +kernel
theorem fX8_chance_66 : ftc 66 (me_ci mX8_chance) = some (66, .getfield 7, 3, (8, 0, 657, 0)) := by decide +kernel
theorem fX8_chance_69 : ftc 69 (me_ci mX8_chance) = some (69, .bipush 25, 2, (0, 0, 0, 0)) := by decide +kernel
theorem fX8_chance_71 : ftc 71 (me_ci mX8_chance) = some (71, .iaload, 1, (0, 0, 0, 0)) := by decide +kernel
theorem fX8_chance_72 : ftc 72 (me_ci mX8_chance) = some (72, .if_icmp .ge 39, 3, (0, 0, 0, 0)) := by decide +kernel
theorem fX8_chance_75 : ftc 75 (me_ci mX8_chance) = some (75, .iload_n 2, 1, (0, 0, 0, 0)) := by decide +kernel
theorem fX8_chance_76 : ftc 76 (me_ci mX8_chance) = some (76, .aload_n 0, 1, (0, 0, 0, 0)) := by decide +kernel
theorem fX8_chance_77 : ftc 77 (me_ci mX8_chance) = some (77, .getfield 7, 3, (8, 0, 657, 0)) := by decide +kernel
theorem fX8_chance_80 : ftc 80 (me_ci mX8_chance) = some (80, .sipush 2087, 3, (0, 0, 0, 0)) := by decide +kernel
theorem fX8_chance_83 : ftc 83 (me_ci mX8_chance) = some (83, .iload_n 3, 1, (0, 0, 0, 0)) := by decide +kernel
theorem fX8_chance_84 : ftc 84 (me_ci mX8_chance) = some (84, .iadd, 1, (0, 0, 0, 0)) := by decide +kernel
theorem fX8_chance_85 : ftc 85 (me_ci mX8_chance) = some (85, .iaload, 1, (0, 0, 0, 0)) := by decide +kernel
theorem fX8_chance_86 : ftc 86 (me_ci mX8_chance) = some (86, .ifCond .le 16, 3, (0, 0, 0, 0)) := by decide +kernel
theorem fX8_chance_89 : ftc 89 (me_ci mX8_chance) = some (89, .aload_n 0, 1, (0, 0, 0, 0)) := by decide +kernel
theorem fX8_chance_90 : ftc 90 (me_ci mX8_chance) = some (90, .getfield 7, 3, (8, 0, 657, 0)) := by decide +kernel
theorem fX8_chance_93 : ftc 93 (me_ci mX8_chance) = some (93, .sipush 2087, 3, (0, 0, 0, 0)) := by decide +kernel
theorem fX8_chance_96 : ftc 96 (me_ci mX8_chance) = some (96, .iload_n 3, 1, (0, 0, 0, 0)) := by decide +kernel
theorem fX8_chance_97 : ftc 97 (me_ci mX8_chance) = some (97, .iadd, 1, (0, 0, 0, 0)) := by decide +kernel
theorem fX8_chance_98 : ftc 98 (me_ci mX8_chance) = some (98, .iaload, 1, (0, 0, 0, 0)) := by decide +kernel
theorem fX8_chance_99 : ftc 99 (me_ci mX8_chance) = some (99, .goto 4, 3, (0, 0, 0, 0)) := by decide +kernel
theorem fX8_chance_102 : ftc 102 (me_ci mX8_chance) = some (102, .iconst 0, 1, (0, 0, 0, 0)) := by decide +kernel
theorem fX8_chance_103 : ftc 103 (me_ci mX8_chance) = some (103, .iadd, 1, (0, 0, 0, 0)) := by decide +kernel
theorem fX8_chance_104 : ftc 104 (me_ci mX8_chance) = some (104, .istore_n 2, 1, (0, 0, 0, 0)) := by decide +kernel
theorem fX8_chance_105 : ftc 105 (me_ci mX8_chance) = some (105, .iinc 3 1, 3, (0, 0, 0, 0)) := by decide +kernel
theorem fX8_chance_108 : ftc 108 (me_ci mX8_chance) = some (108, .goto (-44), 3, (0, 0, 0, 0)) := by decide +kernel
theorem fX8_chance_111 : ftc 111 (me_ci mX8_chance) = some (111, .iconst 1, 1, (0, 0, 0, 0)) := by decide +kernel
theorem fX8_chance_112 : ftc 112 (me_ci mX8_chance) = some (112, .istore_n 3, 1, (0, 0, 0, 0)) := by decide +kernel
theorem fX8_chance_113 : ftc 113 (me_ci mX8_chance) = some (113, .iconst 0, 1, (0, 0, 0, 0)) := by decide +kernel
theorem fX8_chance_114 : ftc 114 (me_ci mX8_chance) = some (114, .istore 4, 2, (0, 0, 0, 0)) := by decide +kernel
theorem fX8_chance_116 : ftc 116 (me_ci mX8_chance) = some (116, .iload 4, 2, (0, 0, 0, 0)) := by decide +kernel
theorem fX8_chance_118 : ftc 118 (me_ci mX8_chance) = some (118, .aload_n 0, 1, (0, 0, 0, 0)) := by decide +kernel
theorem fX8_chance_119 : ftc 119 (me_ci mX8_chance) = some (119, .getfield 7, 3, (8, 0, 657, 0)) := by decide +kernel
theorem fX8_chance_122 : ftc 122 (me_ci mX8_chance) = some (122, .iconst 0, 1, (0, 0, 0, 0)) := by decide +kernel
theorem fX8_chance_123 : ftc 123 (me_ci mX8_chance) = some (123, .iaload, 1, (0, 0, 0, 0)) := by decide +kernel
theorem fX8_chance_124 : ftc 124 (me_ci mX8_chance) = some (124, .if_icmp .ge 36, 3, (0, 0, 0, 0)) := by decide +kernel
theorem fX8_chance_127 : ftc 127 (me_ci mX8_chance) = some (127, .iload_n 3, 1, (0, 0, 0, 0)) := by decide +kernel
theorem fX8_chance_128 : ftc 128 (me_ci mX8_chance) = some (128, .ifCond .eq 24, 3, (0, 0, 0, 0)) := by decide +kernel
theorem fX8_chance_131 : ftc 131 (me_ci mX8_chance) = some (131, .iload 4, 2, (0, 0, 0, 0)) := by decide +kernel
theorem fX8_chance_133 : ftc 133 (me_ci mX8_chance) = some (133, .iload_n 1, 1, (0, 0, 0, 0)) := by decide +kernel
theorem fX8_chance_134 : ftc 134 (me_ci mX8_chance) = some (134, .if_icmp .eq 14, 3, (0, 0, 0, 0)) := by decide +kernel
theorem fX8_chance_137 : ftc 137 (me_ci mX8_chance) = some (137, .iload_n 2, 1, (0, 0, 0, 0)) := by decide +kernel
theorem fX8_chance_138 : ftc 138 (me_ci mX8_chance) = some (138, .aload_n 0, 1, (0, 0, 0, 0)) := by decide +kernel
theorem fX8_chance_139 : ftc 139 (me_ci mX8_chance) = some (139, .iload 4, 2, (0, 0, 0, 0)) := by decide +kernel
theorem fX8_chance_141 : ftc 141 (me_ci mX8_chance) = some (141, .iconst 1, 1, (0, 0, 0, 0)) := by decide +kernel
theorem fX8_chance_142 : ftc 142 (me_ci mX8_chance) = some (142, .invokevirtual 52, 3, (92, 0, 746, 0)) := by decide +kernel
theorem fX8_chance_145 : ftc 145 (me_ci mX8_chance) = some (145, .if_icmp .le 7, 3, (0, 0, 0, 0)) := by decide +kernel
theorem fX8_chance_148 : ftc 148 (me_ci mX8_chance) = some (148, .iconst 1, 1, (0, 0, 0, 0)) := by decide +kernel
theorem fX8_chance_149 : ftc 149 (me_ci mX8_chance) = some (149, .goto 4, 3, (0, 0, 0, 0)) := by decide +kernel
theorem fX8_chance_152 : ftc 152 (me_ci mX8_chance) = some (152, .iconst 0, 1, (0, 0, 0, 0)) := by decide +kernel
theorem fX8_chance_153 : ftc 153 (me_ci mX8_chance) = some (153, .istore_n 3, 1, (0, 0, 0, 0)) := by decide +kernel
theorem fX8_chance_154 : ftc 154 (me_ci mX8_chance) = some (154, .iinc 4 1, 3, (0, 0, 0, 0)) := by decide +kernel
theorem fX8_chance_157 : ftc 157 (me_ci mX8_chance) = some (157, .goto (-41), 3, (0, 0, 0, 0)) := by decide +kernel
theorem fX8_chance_160 : ftc 160 (me_ci mX8_chance) = some (160, .iload_n 3, 1, (0, 0, 0, 0)) := by decide +kernel
theorem fX8_chance_161 : ftc 161 (me_ci mX8_chance) = some (161, .ifCond .eq 7, 3, (0, 0, 0, 0)) := by decide +kernel
theorem fX8_chance_164 : ftc 164 (me_ci mX8_chance) = some (164, .iconst 1, 1, (0, 0, 0, 0)) := by decide +kernel
theorem fX8_chance_165 : ftc 165 (me_ci mX8_chance) = some (165, .goto 4, 3, (0, 0, 0, 0)) := by decide +kernel
theorem fX8_chance_168 : ftc 168 (me_ci mX8_chance) = some (168, .iconst 0, 1, (0, 0, 0, 0)) := by decide +kernel
theorem fX8_chance_169 : ftc 169 (me_ci mX8_chance) = some (169, .ireturn, 1, (0, 0, 0, 0)) := by decide +kernel
theorem pX8_chance : pg 124 = some mX8_chance := by decide +kernel
theorem fX8_keep_0 : ftc 0 (me_ci mX8_keep) = some (0, .aload_n 0, 1, (0, 0, 0, 0)) := by decide +kernel
theorem fX8_keep_1 : ftc 1 (me_ci mX8_keep) = some (1, .getfield 7, 3, (8, 0, 657, 0)) := by decide +kernel
theorem fX8_keep_4 : ftc 4 (me_ci mX8_keep) = some (4, .aload_n 0, 1, (0, 0, 0, 0)) := by decide +kernel
theorem fX8_keep_5 : ftc 5 (me_ci mX8_keep) = some (5, .getfield 22, 3, (8, 4, 661, 0)) := by decide +kernel
theorem fX8_keep_8 : ftc 8 (me_ci mX8_keep) = some (8, .invokestatic 105, 3, (89, 0, 835, 0)) := by decide +kernel
theorem fX8_keep_11 : ftc 11 (me_ci mX8_keep) = some (11, .aload_n 0, 1, (0, 0, 0, 0)) := by decide +kernel
theorem fX8_keep_12 : ftc 12 (me_ci mX8_keep) = some (12, .iconst 1, 1, (0, 0, 0, 0)) := by decide +kernel
theorem fX8_keep_13 : ftc 13 (me_ci mX8_keep) = some (13, .putfield 102, 3, (8, 5, 662, 0)) := by decide +kernel
theorem fX8_keep_16 : ftc 16 (me_ci mX8_keep) = some (16, .aload_n 0, 1, (0, 0, 0, 0)) := by decide +kernel
theorem fX8_keep_17 : ftc 17 (me_ci mX8_keep) = some (17, .getfield 7, 3, (8, 0, 657, 0)) := by decide +kernel
theorem fX8_keep_20 : ftc 20 (me_ci mX8_keep) = some (20, .iconst 2, 1, (0, 0, 0, 0)) := by decide +kernel
theorem fX8_keep_21 : ftc 21 (me_ci mX8_keep) = some (21, .iaload, 1, (0, 0, 0, 0)) := by decide +kernel
theorem fX8_keep_22 : ftc 22 (me_ci mX8_keep) = some (22, .ireturn, 1, (0, 0, 0, 0)) := by decide +kernel
theorem pX8_keep : pg 125 = some mX8_keep := by decide +kernel
theorem fX8_restore_0 : ftc 0 (me_ci mX8_restore) = some (0, .aload_n 0, 1, (0, 0, 0, 0)) := by decide +kernel
theorem fX8_restore_1 : ftc 1 (me_ci mX8_restore) = some (1, .getfield 102, 3, (8, 5, 662, 0)) := by decide +kernel
theorem fX8_restore_4 : ftc 4 (me_ci mX8_restore) = some (4, .ifCond .ne 6, 3, (0, 0, 0, 0)) := by decide +kernel
theorem fX8_restore_7 : ftc 7 (me_ci mX8_restore) = some (7, .ldc 60, 2, (750, 0, 0, -1000002)) := by decide +kernel
theorem fX8_restore_9 : ftc 9 (me_ci mX8_restore) = some (9, .ireturn, 1, (0, 0, 0, 0)) := by decide +kernel
theorem fX8_restore_10 : ftc 10 (me_ci mX8_restore) = some (10, .aload_n 0, 1, (0, 0, 0, 0)) := by decide +kernel
theorem fX8_restore_11 : ftc 11 (me_ci mX8_restore) = some (11, .invokevirtual 48, 3, (90, 0, 729, 0)) := by decide +kernel
theorem fX8_restore_14 : ftc 14 (me_ci mX8_restore) = some (14, .aload_n 0, 1, (0, 0, 0, 0)) := by decide +kernel
theorem fX8_restore_15 : ftc 15 (me_ci mX8_restore) = some (15, .getfield 22, 3, (8, 4, 661, 0)) := by decide +kernel
theorem fX8_restore_18 : ftc 18 (me_ci mX8_restore) = some (18, .aload_n 0, 1, (0, 0, 0, 0)) := by decide +kernel
theorem fX8_restore_19 : ftc 19 (me_ci mX8_restore) = some (19, .getfield 7, 3, (8, 0, 657, 0)) := by decide +kernel
theorem fX8_restore_22 : ftc 22 (me_ci mX8_restore) = some (22, .invokestatic 105, 3, (89, 0, 835, 0)) := by decide +kernel
theorem fX8_restore_25 : ftc 25 (me_ci mX8_restore) = some (25, .aload_n 0, 1, (0, 0, 0, 0)) := by decide +kernel
theorem fX8_restore_26 : ftc 26 (me_ci mX8_restore) = some (26, .getfield 7, 3, (8, 0, 657, 0)) := by decide +kernel
theorem fX8_restore_29 : ftc 29 (me_ci mX8_restore) = some (29, .iconst 2, 1, (0, 0, 0, 0)) := by decide +kernel
theorem fX8_restore_30 : ftc 30 (me_ci mX8_restore) = some (30, .iaload, 1, (0, 0, 0, 0)) := by decide +kernel
theorem fX8_restore_31 : ftc 31 (me_ci mX8_restore) = some (31, .ireturn, 1, (0, 0, 0, 0)) := by decide +kernel
theorem pX8_restore : pg 126 = some mX8_restore := by decide +kernel
theorem fX8_undo_0 : ftc 0 (me_ci mX8_undo) = some (0, .aload_n 0, 1, (0, 0, 0, 0)) := by decide +kernel
theorem fX8_undo_1 : ftc 1 (me_ci mX8_undo) = some (1, .getfield 39, 3, (8, 6, 663, 0)) := by decide +kernel
theorem fX8_undo_4 : ftc 4 (me_ci mX8_undo) = some (4, .ifCond .ne 6, 3, (0, 0, 0, 0)) := by decide +kernel
theorem fX8_undo_7 : ftc 7 (me_ci mX8_undo) = some (7, .ldc 60, 2, (750, 0, 0, -1000002)) := by decide +kernel
theorem fX8_undo_9 : ftc 9 (me_ci mX8_undo) = some (9, .ireturn, 1, (0, 0, 0, 0)) := by decide +kernel
theorem fX8_undo_10 : ftc 10 (me_ci mX8_undo) = some (10, .aload_n 0, 1, (0, 0, 0, 0)) := by decide +kernel
theorem fX8_undo_11 : ftc 11 (me_ci mX8_undo) = some (11, .dup, 1, (0, 0, 0, 0)) := by decide +kernel
theorem fX8_undo_12 : ftc 12 (me_ci mX8_undo) = some (12, .getfield 39, 3, (8, 6, 663, 0)) := by decide +kernel
theorem fX8_undo_15 : ftc 15 (me_ci mX8_undo) = some (15, .iconst 1, 1, (0, 0, 0, 0)) := by decide +kernel
theorem fX8_undo_16 : ftc 16 (me_ci mX8_undo) = some (16, .isub, 1, (0, 0, 0, 0)) := by decide +kernel
theorem fX8_undo_17 : ftc 17 (me_ci mX8_undo) = some (17, .putfield 39, 3, (8, 6, 663, 0)) := by decide +kernel
theorem fX8_undo_20 : ftc 20 (me_ci mX8_undo) = some (20, .iconst 0, 1, (0, 0, 0, 0)) := by decide +kernel
theorem fX8_undo_21 : ftc 21 (me_ci mX8_undo) = some (21, .istore_n 1, 1, (0, 0, 0, 0)) := by decide +kernel
theorem fX8_undo_22 : ftc 22 (me_ci mX8_undo) = some (22, .iload_n 1, 1, (0, 0, 0, 0)) := by decide +kernel
theorem fX8_undo_23 : ftc 23 (me_ci mX8_undo) = some (23, .sipush 2107, 3, (0, 0, 0, 0)) := by decide +kernel
theorem fX8_undo_26 : ftc 26 (me_ci mX8_undo) = some (26, .if_icmp .ge 30, 3, (0, 0, 0, 0)) := by decide +kernel
theorem fX8_undo_29 : ftc 29 (me_ci mX8_undo) = some (29, .aload_n 0, 1, (0, 0, 0, 0)) := by decide +kernel
theorem fX8_undo_30 : ftc 30 (me_ci mX8_undo) = some (30, .getfield 7, 3, (8, 0, 657, 0)) := by decide +kernel
theorem fX8_undo_33 : ftc 33 (me_ci mX8_undo) = some (33, .iload_n 1, 1, (0, 0, 0, 0)) := by decide +kernel
theorem fX8_undo_34 : ftc 34 (me_ci mX8_undo) = some (34, .aload_n 0, 1, (0, 0, 0, 0)) := by decide +kernel
theorem fX8_undo_35 : ftc 35 (me_ci mX8_undo) = some (35, .getfield 13, 3, (8, 1, 658, 0)) := by decide +kernel
theorem fX8_undo_38 : ftc 38 (me_ci mX8_undo) = some (38, .sipush 2107, 3, (0, 0, 0, 0)) := by decide +kernel
theorem fX8_undo_41 : ftc 41 (me_ci mX8_undo) = some (41, .aload_n 0, 1, (0, 0, 0, 0)) := by decide +kernel
theorem fX8_undo_42 : ftc 42 (me_ci mX8_undo) = some (42, .getfield 39, 3, (8, 6, 663, 0)) := by decide +kernel
theorem fX8_undo_45 : ftc 45 (me_ci mX8_undo) = some (45, .imul, 1, (0, 0, 0, 0)) := by decide +kernel
theorem fX8_undo_46 : ftc 46 (me_ci mX8_undo) = some (46, .iload_n 1, 1, (0, 0, 0, 0)) := by decide +kernel
theorem fX8_undo_47 : ftc 47 (me_ci mX8_undo) = some (47, .iadd, 1, (0, 0, 0, 0)) := by decide +kernel
theorem fX8_undo_48 : ftc 48 (me_ci mX8_undo) = some (48, .iaload, 1, (0, 0, 0, 0)) := by decide +kernel
theorem fX8_undo_49 : ftc 49 (me_ci mX8_undo) = some (49, .iastore, 1, (0, 0, 0, 0)) := by decide +kernel
theorem fX8_undo_50 : ftc 50 (me_ci mX8_undo) = some (50, .iinc 1 1, 3, (0, 0, 0, 0)) := by decide +kernel
theorem fX8_undo_53 : ftc 53 (me_ci mX8_undo) = some (53, .goto (-31), 3, (0, 0, 0, 0)) := by decide +kernel
theorem fX8_undo_56 : ftc 56 (me_ci mX8_undo) = some (56, .aload_n 0, 1, (0, 0, 0, 0)) := by decide +kernel
theorem fX8_undo_57 : ftc 57 (me_ci mX8_undo) = some (57, .getfield 39, 3, (8, 6, 663, 0)) := by decide +kernel
theorem fX8_undo_60 : ftc 60 (me_ci mX8_undo) = some (60, .ireturn, 1, (0, 0, 0, 0)) := by decide +kernel
theorem pX8_undo : pg 127 = some mX8_undo := by decide +kernel
theorem fX8_type_0 : ftc 0 (me_ci mX8_type) = some (0, .iload_n 1, 1, (0, 0, 0, 0)) := by decide +kernel
theorem fX8_type_1 : ftc 1 (me_ci mX8_type) = some (1, .bipush 32, 2, (0, 0, 0, 0)) := by decide +kernel
theorem fX8_type_3 : ftc 3 (me_ci mX8_type) = some (3, .bipush 126, 2, (0, 0, 0, 0)) := by decide +kernel
theorem fX8_type_5 : ftc 5 (me_ci mX8_type) = some (5, .invokestatic 43, 3, (88, 0, 654, 0)) := by decide +kernel
theorem fX8_type_8 : ftc 8 (me_ci mX8_type) = some (8, .ifCond .ne 6, 3, (0, 0, 0, 0)) := by decide +kernel
theorem fX8_type_11 : ftc 11 (me_ci mX8_type) = some (11, .ldc 47, 2, (728, 0, 0, -1000001)) := by decide +kernel
theorem fX8_type_13 : ftc 13 (me_ci mX8_type) = some (13, .ireturn, 1, (0, 0, 0, 0)) := by decide +kernel
theorem fX8_type_14 : ftc 14 (me_ci mX8_type) = some (14, .aload_n 0, 1, (0, 0, 0, 0)) := by decide +kernel
theorem fX8_type_15 : ftc 15 (me_ci mX8_type) = some (15, .getfield 99, 3, (8, 9, 666, 0)) := by decide +kernel
theorem fX8_type_18 : ftc 18 (me_ci mX8_type) = some (18, .bipush 60, 2, (0, 0, 0, 0)) := by decide +kernel
theorem fX8_type_20 : ftc 20 (me_ci mX8_type) = some (20, .if_icmp .ne 6, 3, (0, 0, 0, 0)) := by decide +kernel
theorem fX8_type_23 : ftc 23 (me_ci mX8_type) = some (23, .ldc 51, 2, (737, 0, 0, -1000003)) := by decide +kernel
theorem fX8_type_25 : ftc 25 (me_ci mX8_type) = some (25, .ireturn, 1, (0, 0, 0, 0)) := by decide +kernel
theorem fX8_type_26 : ftc 26 (me_ci mX8_type) = some (26, .aload_n 0, 1, (0, 0, 0, 0)) := by decide +kernel
theorem fX8_type_27 : ftc 27 (me_ci mX8_type) = some (27, .getfield 25, 3, (8, 8, 665, 0)) := by decide +kernel
theorem fX8_type_30 : ftc 30 (me_ci mX8_type) = some (30, .aload_n 0, 1, (0, 0, 0, 0)) := by decide +kernel
theorem fX8_type_31 : ftc 31 (me_ci mX8_type) = some (31, .getfield 99, 3, (8, 9, 666, 0)) := by decide +kernel
theorem fX8_type_34 : ftc 34 (me_ci mX8_type) = some (34, .iload_n 1, 1, (0, 0, 0, 0)) := by decide +kernel
theorem fX8_type_35 : ftc 35 (me_ci mX8_type) = some (35, .iastore, 1, (0, 0, 0, 0)) := by decide +kernel
theorem fX8_type_36 : ftc 36 (me_ci mX8_type) = some (36, .aload_n 0, 1, (0, 0, 0, 0)) := by decide +kernel
theorem fX8_type_37 : ftc 37 (me_ci mX8_type) = some (37, .dup, 1, (0, 0, 0, 0)) := by decide +kernel
theorem fX8_type_38 : ftc 38 (me_ci mX8_type) = some (38, .getfield 99, 3, (8, 9, 666, 0)) := by decide +kernel
theorem fX8_type_41 : ftc 41 (me_ci mX8_type) = some (41, .iconst 1, 1, (0, 0, 0, 0)) := by decide +kernel
theorem fX8_type_42 : ftc 42 (me_ci mX8_type) = some (42, .iadd, 1, (0, 0, 0, 0)) := by decide +kernel
theorem fX8_type_43 : ftc 43 (me_ci mX8_type) = some (43, .putfield 99, 3, (8, 9, 666, 0)) := by decide +kernel
theorem fX8_type_46 : ftc 46 (me_ci mX8_type) = some (46, .aload_n 0, 1, (0, 0, 0, 0)) := by decide +kernel
theorem fX8_type_47 : ftc 47 (me_ci mX8_type) = some (47, .getfield 99, 3, (8, 9, 666, 0)) := by decide +kernel
theorem fX8_type_50 : ftc 50 (me_ci mX8_type) = some (50, .ireturn, 1, (0, 0, 0, 0)) := by decide +kernel
theorem pX8_type : pg 128 = some mX8_type := by decide +kernel
theorem fX8_clearText_0 : ftc 0 (me_ci mX8_clearText) = some (0, .aload_n 0, 1, (0, 0, 0, 0)) := by decide +kernel
theorem fX8_clearText_1 : ftc 1 (me_ci mX8_clearText) = some (1, .getfield 99, 3, (8, 9, 666, 0)) := by decide +kernel
theorem fX8_clearText_4 : ftc 4 (me_ci mX8_clearText) = some (4, .istore_n 1, 1, (0, 0, 0, 0)) := by decide +kernel
theorem fX8_clearText_5 : ftc 5 (me_ci mX8_clearText) = some (5, .aload_n 0, 1, (0, 0, 0, 0)) := by decide +kernel
theorem fX8_clearText_6 : ftc 6 (me_ci mX8_clearText) = some (6, .iconst 0, 1, (0, 0, 0, 0)) := by decide +kernel
theorem fX8_clearText_7 : ftc 7 (me_ci mX8_clearText) = some (7, .putfield 99, 3, (8, 9, 666, 0)) := by decide +kernel
theorem fX8_clearText_10 : ftc 10 (me_ci mX8_clearText) = some (10, .iload_n 1, 1, (0, 0, 0, 0)) := by decide +kernel
theorem fX8_clearText_11 : ftc 11 (me_ci mX8_clearText) = some (11, .ireturn, 1, (0, 0, 0, 0)) := by decide +kernel
theorem pX8_clearText : pg 129 = some mX8_clearText := by decide +kernel
theorem fX8_isAt_0 : ftc 0 (me_ci mX8_isAt) = some (0, .aload_n 0, 1, (0, 0, 0, 0)) := by decide +kernel
theorem fX8_isAt_1 : ftc 1 (me_ci mX8_isAt) = some (1, .getfield 146, 3, (8, 17, 674, 0)) := by decide +kernel
theorem fX8_isAt_4 : ftc 4 (me_ci mX8_isAt) = some (4, .aload_n 0, 1, (0, 0, 0, 0)) := by decide +kernel
theorem fX8_isAt_5 : ftc 5 (me_ci mX8_isAt) = some (5, .getfield 99, 3, (8, 9, 666, 0)) := by decide +kernel
theorem fX8_isAt_8 : ftc 8 (me_ci mX8_isAt) = some (8, .if_icmp .ge 24, 3, (0, 0, 0, 0)) := by decide +kernel
theorem fX8_isAt_11 : ftc 11 (me_ci mX8_isAt) = some (11, .aload_n 0, 1, (0, 0, 0, 0)) := by decide +kernel
theorem fX8_isAt_12 : ftc 12 (me_ci mX8_isAt) = some (12, .getfield 25, 3, (8, 8, 665, 0)) := by decide +kernel
theorem fX8_isAt_15 : ftc 15 (me_ci mX8_isAt) = some (15, .aload_n 0, 1, (0, 0, 0, 0)) := by decide +kernel
theorem fX8_isAt_16 : ftc 16 (me_ci mX8_isAt) = some (16, .getfield 146, 3, (8, 17, 674, 0)) := by decide +kernel
theorem fX8_isAt_19 : ftc 19 (me_ci mX8_isAt) = some (19, .iaload, 1, (0, 0, 0, 0)) := by decide +kernel
theorem fX8_isAt_20 : ftc 20 (me_ci mX8_isAt) = some (20, .iload_n 1, 1, (0, 0, 0, 0)) := by decide +kernel
theorem fX8_isAt_21 : ftc 21 (me_ci mX8_isAt) = some (21, .iload_n 2, 1, (0, 0, 0, 0)) := by decide +kernel
theorem fX8_isAt_22 : ftc 22 (me_ci mX8_isAt) = some (22, .invokestatic 43, 3, (88, 0, 654, 0)) := by decide +kernel
theorem fX8_isAt_25 : ftc 25 (me_ci mX8_isAt) = some (25, .ifCond .eq 7, 3, (0, 0, 0, 0)) := by decide +kernel
theorem fX8_isAt_28 : ftc 28 (me_ci mX8_isAt) = some (28, .iconst 1, 1, (0, 0, 0, 0)) := by decide +kernel
theorem fX8_isAt_29 : ftc 29 (me_ci mX8_isAt) = some (29, .goto 4, 3, (0, 0, 0, 0)) := by decide +kernel
theorem fX8_isAt_32 : ftc 32 (me_ci mX8_isAt) = some (32, .iconst 0, 1, (0, 0, 0, 0)) := by decide +kernel
theorem fX8_isAt_33 : ftc 33 (me_ci mX8_isAt) = some (33, .ireturn, 1, (0, 0, 0, 0)) := by decide +kernel
theorem pX8_isAt : pg 130 = some mX8_isAt := by decide +kernel
theorem fX8_sign_0 : ftc 0 (me_ci mX8_sign) = some (0, .aload_n 0, 1, (0, 0, 0, 0)) := by decide +kernel
theorem fX8_sign_1 : ftc 1 (me_ci mX8_sign) = some (1, .iload_n 1, 1, (0, 0, 0, 0)) := by decide +kernel
theorem fX8_sign_2 : ftc 2 (me_ci mX8_sign) = some (2, .iload_n 1, 1, (0, 0, 0, 0)) := by decide +kernel
theorem fX8_sign_3 : ftc 3 (me_ci mX8_sign) = some (3, .invokevirtual 149, 3, (130, 0, 906, 0)) := by decide +kernel
theorem fX8_sign_6 : ftc 6 (me_ci mX8_sign) = some (6, .istore_n 2, 1, (0, 0, 0, 0)) := by decide +kernel
theorem fX8_sign_7 : ftc 7 (me_ci mX8_sign) = some (7, .aload_n 0, 1, (0, 0, 0, 0)) := by decide +kernel
theorem fX8_sign_8 : ftc 8 (me_ci mX8_sign) = some (8, .dup, 1, (0, 0, 0, 0)) := by decide +kernel
theorem fX8_sign_9 : ftc 9 (me_ci mX8_sign) = some (9, .getfield 146, 3, (8, 17, 674, 0)) := by decide +kernel
theorem fX8_sign_12 : ftc 12 (me_ci mX8_sign) = some (12, .iload_n 2, 1, (0, 0, 0, 0)) := by decide +kernel
theorem fX8_sign_13 : ftc 13 (me_ci mX8_sign) = some (13, .ifCond .eq 7, 3, (0, 0, 0, 0)) := by decide +kernel
theorem fX8_sign_16 : ftc 16 (me_ci mX8_sign) = some (16, .iconst 1, 1, (0, 0, 0, 0)) := by decide +kernel
theorem fX8_sign_17 : ftc 17 (me_ci mX8_sign) = some (17, .goto 4, 3, (0, 0, 0, 0)) := by decide +kernel
theorem fX8_sign_20 : ftc 20 (me_ci mX8_sign) = some (20, .iconst 0, 1, (0, 0, 0, 0)) := by decide +kernel
theorem fX8_sign_21 : ftc 21 (me_ci mX8_sign) = some (21, .iadd, 1, (0, 0, 0, 0)) := by decide +kernel
theorem fX8_sign_22 : ftc 22 (me_ci mX8_sign) = some (22, .putfield 146, 3, (8, 17, 674, 0)) := by decide +kernel
theorem fX8_sign_25 : ftc 25 (me_ci mX8_sign) = some (25, .iload_n 2, 1, (0, 0, 0, 0)) := by decide +kernel
theorem fX8_sign_26 : ftc 26 (me_ci mX8_sign) = some (26, .ireturn, 1, (0, 0, 0, 0)) := by decide +kernel
theorem pX8_sign : pg 131 = some mX8_sign := by decide +kernel
theorem fX8_number_0 : ftc 0 (me_ci mX8_number) = some (0, .iload_n 2, 1, (0, 0, 0, 0)) := by decide +kernel
theorem fX8_number_1 : ftc 1 (me_ci mX8_number) = some (1, .ifCond .eq 16, 3, (0, 0, 0, 0)) := by decide +kernel
theorem fX8_number_4 : ftc 4 (me_ci mX8_number) = some (4, .aload_n 0, 1, (0, 0, 0, 0)) := by decide +kernel
theorem fX8_number_5 : ftc 5 (me_ci mX8_number) = some (5, .bipush 45, 2, (0, 0, 0, 0)) := by decide +kernel
theorem fX8_number_7 : ftc 7 (me_ci mX8_number) = some (7, .invokevirtual 152, 3, (131, 0, 902, 0)) := by decide +kernel
theorem fX8_number_10 : ftc 10 (me_ci mX8_number) = some (10, .ifCond .eq 7, 3, (0, 0, 0, 0)) := by decide +kernel
theorem fX8_number_13 : ftc 13 (me_ci mX8_number) = some (13, .iconst 1, 1, (0, 0, 0, 0)) := by decide +kernel
theorem fX8_number_14 : ftc 14 (me_ci mX8_number) = some (14, .goto 4, 3, (0, 0, 0, 0)) := by decide +kernel
theorem fX8_number_17 : ftc 17 (me_ci mX8_number) = some (17, .iconst 0, 1, (0, 0, 0, 0)) := by decide +kernel
theorem fX8_number_18 : ftc 18 (me_ci mX8_number) = some (18, .istore_n 3, 1, (0, 0, 0, 0)) := by decide +kernel
theorem fX8_number_19 : ftc 19 (me_ci mX8_number) = some (19, .aload_n 0, 1, (0, 0, 0, 0)) := by decide +kernel
theorem fX8_number_20 : ftc 20 (me_ci mX8_number) = some (20, .getfield 146, 3, (8, 17, 674, 0)) := by decide +kernel
theorem fX8_number_23 : ftc 23 (me_ci mX8_number) = some (23, .istore 4, 2, (0, 0, 0, 0)) := by decide +kernel
theorem fX8_number_25 : ftc 25 (me_ci mX8_number) = some (25, .iconst 0, 1, (0, 0, 0, 0)) := by decide +kernel
theorem fX8_number_26 : ftc 26 (me_ci mX8_number) = some (26, .istore 5, 2, (0, 0, 0, 0)) := by decide +kernel
theorem fX8_number_28 : ftc 28 (me_ci mX8_number) = some (28, .aload_n 0, 1, (0, 0, 0, 0)) := by decide +kernel
theorem fX8_number_29 : ftc 29 (me_ci mX8_number) = some (29, .bipush 48, 2, (0, 0, 0, 0)) := by decide +kernel
theorem fX8_number_31 : ftc 31 (me_ci mX8_number) = some (31, .bipush 57, 2, (0, 0, 0, 0)) := by decide +kernel
theorem fX8_number_33 : ftc 33 (me_ci mX8_number) = some (33, .invokevirtual 149, 3, (130, 0, 906, 0)) := by decide +kernel
theorem fX8_number_36 : ftc 36 (me_ci mX8_number) = some (36, .ifCond .eq 47, 3, (0, 0, 0, 0)) := by decide +kernel
theorem fX8_number_39 : ftc 39 (me_ci mX8_number) = some (39, .aload_n 0, 1, (0, 0, 0, 0)) := by decide +kernel
theorem fX8_number_40 : ftc 40 (me_ci mX8_number) = some (40, .getfield 146, 3, (8, 17, 674, 0)) := by decide +kernel
theorem fX8_number_43 : ftc 43 (me_ci mX8_number) = some (43, .iload 4, 2, (0, 0, 0, 0)) := by decide +kernel
theorem fX8_number_45 : ftc 45 (me_ci mX8_number) = some (45, .isub, 1, (0, 0, 0, 0)) := by decide +kernel
theorem fX8_number_46 : ftc 46 (me_ci mX8_number) = some (46, .iconst 2, 1, (0, 0, 0, 0)) := by decide +kernel
theorem fX8_number_47 : ftc 47 (me_ci mX8_number) = some (47, .if_icmp .ge 36, 3, (0, 0, 0, 0)) := by decide +kernel
theorem fX8_number_50 : ftc 50 (me_ci mX8_number) = some (50, .bipush 10, 2, (0, 0, 0, 0)) := by decide +kernel
theorem fX8_number_52 : ftc 52 (me_ci mX8_number) = some (52, .iload 5, 2, (0, 0, 0, 0)) := by decide +kernel
theorem fX8_number_54 : ftc 54 (me_ci mX8_number) = some (54, .imul, 1, (0, 0, 0, 0)) := by decide +kernel
theorem fX8_number_55 : ftc 55 (me_ci mX8_number) = some (55, .aload_n 0, 1, (0, 0, 0, 0)) := by decide +kernel
theorem fX8_number_56 : ftc 56 (me_ci mX8_number) = some (56, .getfield 25, 3, (8, 8, 665, 0)) := by decide +kernel
theorem fX8_number_59 : ftc 59 (me_ci mX8_number) = some (59, .aload_n 0, 1, (0, 0, 0, 0)) := by decide +kernel
theorem fX8_number_60 : ftc 60 (me_ci mX8_number) = some (60, .getfield 146, 3, (8, 17, 674, 0)) := by decide +kernel
theorem fX8_number_63 : ftc 63 (me_ci mX8_number) = some (63, .iaload, 1, (0, 0, 0, 0)) := by decide +kernel
theorem fX8_number_64 : ftc 64 (me_ci mX8_number) = some (64, .iadd, 1, (0, 0, 0, 0)) := by decide +kernel
theorem fX8_number_65 : ftc 65 (me_ci mX8_number) = some (65, .bipush 48, 2, (0, 0, 0, 0)) := by decide +kernel
theorem fX8_number_67 : ftc 67 (me_ci mX8_number) = some (67, .isub, 1, (0, 0, 0, 0)) := by decide +kernel
theorem fX8_number_68 : ftc 68 (me_ci mX8_number) = some (68, .istore 5, 2, (0, 0, 0, 0)) := by decide +kernel
theorem fX8_number_70 : ftc 70 (me_ci mX8_number) = some (70, .aload_n 0, 1, (0, 0, 0, 0)) := by decide +kernel
theorem fX8_number_71 : ftc 71 (me_ci mX8_number) = some (71, .dup, 1, (0, 0, 0, 0)) := by decide +kernel
theorem fX8_number_72 : ftc 72 (me_ci mX8_number) = some (72, .getfield 146, 3, (8, 17, 674, 0)) := by decide +kernel
theorem fX8_number_75 : ftc 75 (me_ci mX8_number) = some (75, .iconst 1, 1, (0, 0, 0, 0)) := by decide +kernel
theorem fX8_number_76 : ftc 76 (me_ci mX8_number) = some (76, .iadd, 1, (0, 0, 0, 0)) := by decide +kernel
theorem fX8_number_77 : ftc 77 (me_ci mX8_number) = some (77, .putfield 146, 3, (8, 17, 674, 0)) := by decide +kernel
theorem fX8_number_80 : ftc 80 (me_ci mX8_number) = some (80, .goto (-52), 3, (0, 0, 0, 0)) := by decide +kernel
theorem fX8_number_83 : ftc 83 (me_ci mX8_number) = some (83, .aload_n 0, 1, (0, 0, 0, 0)) := by decide +kernel
theorem fX8_number_84 : ftc 84 (me_ci mX8_number) = some (84, .getfield 28, 3, (8, 21, 678, 0)) := by decide +kernel
theorem fX8_number_87 : ftc 87 (me_ci mX8_number) = some (87, .iload_n 1, 1, (0, 0, 0, 0)) := by decide +kernel
theorem fX8_number_88 : ftc 88 (me_ci mX8_number) = some (88, .iload_n 3, 1, (0, 0, 0, 0)) := by decide +kernel
theorem fX8_number_89 : ftc 89 (me_ci mX8_number) = some (89, .ifCond .eq 9, 3, (0, 0, 0, 0)) := by decide +kernel
theorem fX8_number_92 : ftc 92 (me_ci mX8_number) = some (92, .iload 5, 2, (0, 0, 0, 0)) := by decide +kernel
theorem fX8_number_94 : ftc 94 (me_ci mX8_number) = some (94, .ineg, 1, (0, 0, 0, 0)) := by decide +kernel
theorem fX8_number_95 : ftc 95 (me_ci mX8_number) = some (95, .goto 5, 3, (0, 0, 0, 0)) := by decide +kernel
theorem fX8_number_98 : ftc 98 (me_ci mX8_number) = some (98, .iload 5, 2, (0, 0, 0, 0)) := by decide +kernel
theorem fX8_number_100 : ftc 100 (me_ci mX8_number) = some (100, .iastore, 1, (0, 0, 0, 0)) := by decide +kernel
theorem fX8_number_101 : ftc 101 (me_ci mX8_number) = some (101, .aload_n 0, 1, (0, 0, 0, 0)) := by decide +kernel
theorem fX8_number_102 : ftc 102 (me_ci mX8_number) = some (102, .getfield 146, 3, (8, 17, 674, 0)) := by decide +kernel
theorem fX8_number_105 : ftc 105 (me_ci mX8_number) = some (105, .iload 4, 2, (0, 0, 0, 0)) := by decide +kernel
theorem fX8_number_107 : ftc 107 (me_ci mX8_number) = some (107, .if_icmp .le 7, 3, (0, 0, 0, 0)) := by decide +kernel
theorem fX8_number_110 : ftc 110 (me_ci mX8_number) = some (110, .iconst 1, 1, (0, 0, 0, 0)) := by decide +kernel
theorem fX8_number_111 : ftc 111 (me_ci mX8_number) = some (111, .goto 4, 3, (0, 0, 0, 0)) := by decide +kernel
theorem fX8_number_114 : ftc 114 (me_ci mX8_number) = some (114, .iconst 0, 1, (0, 0, 0, 0)) := by decide +kernel
theorem fX8_number_115 : ftc 115 (me_ci mX8_number) = some (115, .ireturn, 1, (0, 0, 0, 0)) := by decide +kernel
theorem pX8_number : pg 132 = some mX8_number := by decide +kernel
theorem fX8_reads_0 : ftc 0 (me_ci mX8_reads) = some (0, .aload_n 0, 1, (0, 0, 0, 0)) := by decide +kernel
theorem fX8_reads_1 : ftc 1 (me_ci mX8_reads) = some (1, .aload_n 0, 1, (0, 0, 0, 0)) := by decide +kernel
theorem fX8_reads_2 : ftc 2 (me_ci mX8_reads) = some (2, .getfield 25, 3, (8, 8, 665, 0)) := by decide +kernel
theorem fX8_reads_5 : ftc 5 (me_ci mX8_reads) = some (5, .aload_n 0, 1, (0, 0, 0, 0)) := by decide +kernel
theorem fX8_reads_6 : ftc 6 (me_ci mX8_reads) = some (6, .getfield 146, 3, (8, 17, 674, 0)) := by decide +kernel
theorem fX8_reads_9 : ftc 9 (me_ci mX8_reads) = some (9, .iaload, 1, (0, 0, 0, 0)) := by decide +kernel
theorem fX8_reads_10 : ftc 10 (me_ci mX8_reads) = some (10, .putfield 155, 3, (8, 20, 677, 0)) := by decide +kernel
theorem fX8_reads_13 : ftc 13 (me_ci mX8_reads) = some (13, .aload_n 0, 1, (0, 0, 0, 0)) := by decide +kernel
theorem fX8_reads_14 : ftc 14 (me_ci mX8_reads) = some (14, .dup, 1, (0, 0, 0, 0)) := by decide +kernel
theorem fX8_reads_15 : ftc 15 (me_ci mX8_reads) = some (15, .getfield 146, 3, (8, 17, 674, 0)) := by decide +kernel
theorem fX8_reads_18 : ftc 18 (me_ci mX8_reads) = some (18, .iconst 1, 1, (0, 0, 0, 0)) := by decide +kernel
theorem fX8_reads_19 : ftc 19 (me_ci mX8_reads) = some (19, .iadd, 1, (0, 0, 0, 0)) := by decide +kernel
theorem fX8_reads_20 : ftc 20 (me_ci mX8_reads) = some (20, .putfield 146, 3, (8, 17, 674, 0)) := by decide +kernel
theorem fX8_reads_23 : ftc 23 (me_ci mX8_reads) = some (23, .aload_n 0, 1, (0, 0, 0, 0)) := by decide +kernel
theorem fX8_reads_24 : ftc 24 (me_ci mX8_reads) = some (24, .getfield 155, 3, (8, 20, 677, 0)) := by decide +kernel
theorem fX8_reads_27 : ftc 27 (me_ci mX8_reads) = some (27, .lookupswitch 106 #[(98, 57), (108, 33), (114, 99)], 33, (0, 0, 0, 0)) := by decide +kernel
theorem fX8_reads_60 : ftc 60 (me_ci mX8_reads) = some (60, .aload_n 0, 1, (0, 0, 0, 0)) := by decide +kernel
theorem fX8_reads_61 : ftc 61 (me_ci mX8_reads) = some (61, .iconst 0, 1, (0, 0, 0, 0)) := by decide +kernel
theorem fX8_reads_62 : ftc 62 (me_ci mX8_reads) = some (62, .iconst 1, 1, (0, 0, 0, 0)) := by decide +kernel
theorem fX8_reads_63 : ftc 63 (me_ci mX8_reads) = some (63, .invokevirtual 158, 3, (132, 0, 898, 0)) := by decide +kernel
theorem fX8_reads_66 : ftc 66 (me_ci mX8_reads) = some (66, .ifCond .eq 16, 3, (0, 0, 0, 0)) := by decide +kernel
theorem fX8_reads_69 : ftc 69 (me_ci mX8_reads) = some (69, .aload_n 0, 1, (0, 0, 0, 0)) := by decide +kernel
theorem fX8_reads_70 : ftc 70 (me_ci mX8_reads) = some (70, .bipush 59, 2, (0, 0, 0, 0)) := by decide +kernel
theorem fX8_reads_72 : ftc 72 (me_ci mX8_reads) = some (72, .invokevirtual 152, 3, (131, 0, 902, 0)) := by decide +kernel
theorem fX8_reads_75 : ftc 75 (me_ci mX8_reads) = some (75, .ifCond .eq 7, 3, (0, 0, 0, 0)) := by decide +kernel
theorem fX8_reads_78 : ftc 78 (me_ci mX8_reads) = some (78, .iconst 1, 1, (0, 0, 0, 0)) := by decide +kernel
theorem fX8_reads_79 : ftc 79 (me_ci mX8_reads) = some (79, .goto 4, 3, (0, 0, 0, 0)) := by decide +kernel
theorem fX8_reads_82 : ftc 82 (me_ci mX8_reads) = some (82, .iconst 0, 1, (0, 0, 0, 0)) := by decide +kernel
theorem fX8_reads_83 : ftc 83 (me_ci mX8_reads) = some (83, .ireturn, 1, (0, 0, 0, 0)) := by decide +kernel
theorem fX8_reads_84 : ftc 84 (me_ci mX8_reads) = some (84, .aload_n 0, 1, (0, 0, 0, 0)) := by decide +kernel
theorem fX8_reads_85 : ftc 85 (me_ci mX8_reads) = some (85, .iconst 0, 1, (0, 0, 0, 0)) := by decide +kernel
theorem fX8_reads_86 : ftc 86 (me_ci mX8_reads) = some (86, .iconst 0, 1, (0, 0, 0, 0)) := by decide +kernel
theorem fX8_reads_87 : ftc 87 (me_ci mX8_reads) = some (87, .invokevirtual 158, 3, (132, 0, 898, 0)) := by decide +kernel
theorem fX8_reads_90 : ftc 90 (me_ci mX8_reads) = some (90, .ifCond .eq 34, 3, (0, 0, 0, 0)) := by decide +kernel
theorem fX8_reads_93 : ftc 93 (me_ci mX8_reads) = some (93, .aload_n 0, 1, (0, 0, 0, 0)) := by decide +kernel
theorem fX8_reads_94 : ftc 94 (me_ci mX8_reads) = some (94, .bipush 44, 2, (0, 0, 0, 0)) := by decide +kernel
theorem fX8_reads_96 : ftc 96 (me_ci mX8_reads) = some (96, .invokevirtual 152, 3, (131, 0, 902, 0)) := by decide +kernel
theorem fX8_reads_99 : ftc 99 (me_ci mX8_reads) = some (99, .ifCond .eq 25, 3, (0, 0, 0, 0)) := by decide +kernel
theorem fX8_reads_102 : ftc 102 (me_ci mX8_reads) = some (102, .aload_n 0, 1, (0, 0, 0, 0)) := by decide +kernel
theorem fX8_reads_103 : ftc 103 (me_ci mX8_reads) = some (103, .iconst 1, 1, (0, 0, 0, 0)) := by decide +kernel
theorem fX8_reads_104 : ftc 104 (me_ci mX8_reads) = some (104, .iconst 0, 1, (0, 0, 0, 0)) := by decide +kernel
theorem fX8_reads_105 : ftc 105 (me_ci mX8_reads) = some (105, .invokevirtual 158, 3, (132, 0, 898, 0)) := by decide +kernel
theorem fX8_reads_108 : ftc 108 (me_ci mX8_reads) = some (108, .ifCond .eq 16, 3, (0, 0, 0, 0)) := by decide +kernel
theorem fX8_reads_111 : ftc 111 (me_ci mX8_reads) = some (111, .aload_n 0, 1, (0, 0, 0, 0)) := by decide +kernel
theorem fX8_reads_112 : ftc 112 (me_ci mX8_reads) = some (112, .bipush 59, 2, (0, 0, 0, 0)) := by decide +kernel
theorem fX8_reads_114 : ftc 114 (me_ci mX8_reads) = some (114, .invokevirtual 152, 3, (131, 0, 902, 0)) := by decide +kernel
theorem fX8_reads_117 : ftc 117 (me_ci mX8_reads) = some (117, .ifCond .eq 7, 3, (0, 0, 0, 0)) := by decide +kernel
theorem fX8_reads_120 : ftc 120 (me_ci mX8_reads) = some (120, .iconst 1, 1, (0, 0, 0, 0)) := by decide +kernel
theorem fX8_reads_121 : ftc 121 (me_ci mX8_reads) = some (121, .goto 4, 3, (0, 0, 0, 0)) := by decide +kernel
theorem fX8_reads_124 : ftc 124 (me_ci mX8_reads) = some (124, .iconst 0, 1, (0, 0, 0, 0)) := by decide +kernel
theorem fX8_reads_125 : ftc 125 (me_ci mX8_reads) = some (125, .ireturn, 1, (0, 0, 0, 0)) := by decide +kernel
theorem fX8_reads_126 : ftc 126 (me_ci mX8_reads) = some (126, .aload_n 0, 1, (0, 0, 0, 0)) := by decide +kernel
theorem fX8_reads_127 : ftc 127 (me_ci mX8_reads) = some (127, .bipush 59, 2, (0, 0, 0, 0)) := by decide +kernel
theorem fX8_reads_129 : ftc 129 (me_ci mX8_reads) = some (129, .invokevirtual 152, 3, (131, 0, 902, 0)) := by decide +kernel
theorem fX8_reads_132 : ftc 132 (me_ci mX8_reads) = some (132, .ireturn, 1, (0, 0, 0, 0)) := by decide +kernel
theorem fX8_reads_133 : ftc 133 (me_ci mX8_reads) = some (133, .iconst 0, 1, (0, 0, 0, 0)) := by decide +kernel
theorem fX8_reads_134 : ftc 134 (me_ci mX8_reads) = some (134, .ireturn, 1, (0, 0, 0, 0)) := by decide +kernel
theorem pX8_reads : pg 133 = some mX8_reads := by decide +kernel
theorem fX8_calls_0 : ftc 0 (me_ci mX8_calls) = some (0, .aload_n 0, 1, (0, 0, 0, 0)) := by decide +kernel
theorem fX8_calls_1 : ftc 1 (me_ci mX8_calls) = some (1, .getfield 155, 3, (8, 20, 677, 0)) := by decide +kernel
theorem fX8_calls_4 : ftc 4 (me_ci mX8_calls) = some (4, .bipush 108, 2, (0, 0, 0, 0)) := by decide +kernel
theorem fX8_calls_6 : ftc 6 (me_ci mX8_calls) = some (6, .if_icmp .ne 16, 3, (0, 0, 0, 0)) := by decide +kernel
theorem fX8_calls_9 : ftc 9 (me_ci mX8_calls) = some (9, .aload_n 0, 1, (0, 0, 0, 0)) := by decide +kernel
theorem fX8_calls_10 : ftc 10 (me_ci mX8_calls) = some (10, .aload_n 0, 1, (0, 0, 0, 0)) := by decide +kernel
theorem fX8_calls_11 : ftc 11 (me_ci mX8_calls) = some (11, .getfield 28, 3, (8, 21, 678, 0)) := by decide +kernel
theorem fX8_calls_14 : ftc 14 (me_ci mX8_calls) = some (14, .iconst 0, 1, (0, 0, 0, 0)) := by decide +kernel
theorem fX8_calls_15 : ftc 15 (me_ci mX8_calls) = some (15, .iaload, 1, (0, 0, 0, 0)) := by decide +kernel
theorem fX8_calls_16 : ftc 16 (me_ci mX8_calls) = some (16, .invokevirtual 162, 3, (95, 0, 914, 0)) := by decide +kernel
theorem fX8_calls_19 : ftc 19 (me_ci mX8_calls) = some (19, .goto 35, 3, (0, 0, 0, 0)) := by decide +kernel
theorem fX8_calls_22 : ftc 22 (me_ci mX8_calls) = some (22, .aload_n 0, 1, (0, 0, 0, 0)) := by decide +kernel
theorem fX8_calls_23 : ftc 23 (me_ci mX8_calls) = some (23, .getfield 155, 3, (8, 20, 677, 0)) := by decide +kernel
theorem fX8_calls_26 : ftc 26 (me_ci mX8_calls) = some (26, .bipush 98, 2, (0, 0, 0, 0)) := by decide +kernel
theorem fX8_calls_28 : ftc 28 (me_ci mX8_calls) = some (28, .if_icmp .ne 22, 3, (0, 0, 0, 0)) := by decide +kernel
theorem fX8_calls_31 : ftc 31 (me_ci mX8_calls) = some (31, .aload_n 0, 1, (0, 0, 0, 0)) := by decide +kernel
theorem fX8_calls_32 : ftc 32 (me_ci mX8_calls) = some (32, .aload_n 0, 1, (0, 0, 0, 0)) := by decide +kernel
theorem fX8_calls_33 : ftc 33 (me_ci mX8_calls) = some (33, .getfield 28, 3, (8, 21, 678, 0)) := by decide +kernel
theorem fX8_calls_36 : ftc 36 (me_ci mX8_calls) = some (36, .iconst 0, 1, (0, 0, 0, 0)) := by decide +kernel
theorem fX8_calls_37 : ftc 37 (me_ci mX8_calls) = some (37, .iaload, 1, (0, 0, 0, 0)) := by decide +kernel
theorem fX8_calls_38 : ftc 38 (me_ci mX8_calls) = some (38, .aload_n 0, 1, (0, 0, 0, 0)) := by decide +kernel
theorem fX8_calls_39 : ftc 39 (me_ci mX8_calls) = some (39, .getfield 28, 3, (8, 21, 678, 0)) := by decide +kernel
theorem fX8_calls_42 : ftc 42 (me_ci mX8_calls) = some (42, .iconst 1, 1, (0, 0, 0, 0)) := by decide +kernel
theorem fX8_calls_43 : ftc 43 (me_ci mX8_calls) = some (43, .iaload, 1, (0, 0, 0, 0)) := by decide +kernel
theorem fX8_calls_44 : ftc 44 (me_ci mX8_calls) = some (44, .invokevirtual 166, 3, (97, 0, 915, 0)) := by decide +kernel
theorem fX8_calls_47 : ftc 47 (me_ci mX8_calls) = some (47, .goto 7, 3, (0, 0, 0, 0)) := by decide +kernel
theorem fX8_calls_50 : ftc 50 (me_ci mX8_calls) = some (50, .aload_n 0, 1, (0, 0, 0, 0)) := by decide +kernel
theorem fX8_calls_51 : ftc 51 (me_ci mX8_calls) = some (51, .invokevirtual 169, 3, (107, 0, 916, 0)) := by decide +kernel
theorem fX8_calls_54 : ftc 54 (me_ci mX8_calls) = some (54, .ireturn, 1, (0, 0, 0, 0)) := by decide +kernel
theorem pX8_calls : pg 134 = some mX8_calls := by decide +kernel
theorem fX8_plays_0 : ftc 0 (me_ci mX8_plays) = some (0, .aload_n 0, 1, (0, 0, 0, 0)) := by decide +kernel
theorem fX8_plays_1 : ftc 1 (me_ci mX8_plays) = some (1, .iconst 1, 1, (0, 0, 0, 0)) := by decide +kernel
theorem fX8_plays_2 : ftc 2 (me_ci mX8_plays) = some (2, .putfield 35, 3, (8, 7, 664, 0)) := by decide +kernel
theorem fX8_plays_5 : ftc 5 (me_ci mX8_plays) = some (5, .aload_n 0, 1, (0, 0, 0, 0)) := by decide +kernel
theorem fX8_plays_6 : ftc 6 (me_ci mX8_plays) = some (6, .iconst 0, 1, (0, 0, 0, 0)) := by decide +kernel
theorem fX8_plays_7 : ftc 7 (me_ci mX8_plays) = some (7, .putfield 146, 3, (8, 17, 674, 0)) := by decide +kernel
theorem fX8_plays_10 : ftc 10 (me_ci mX8_plays) = some (10, .aload_n 0, 1, (0, 0, 0, 0)) := by decide +kernel
theorem fX8_plays_11 : ftc 11 (me_ci mX8_plays) = some (11, .iconst 0, 1, (0, 0, 0, 0)) := by decide +kernel
theorem fX8_plays_12 : ftc 12 (me_ci mX8_plays) = some (12, .putfield 172, 3, (8, 19, 676, 0)) := by decide +kernel
theorem fX8_plays_15 : ftc 15 (me_ci mX8_plays) = some (15, .iconst 0, 1, (0, 0, 0, 0)) := by decide +kernel
theorem fX8_plays_16 : ftc 16 (me_ci mX8_plays) = some (16, .istore_n 1, 1, (0, 0, 0, 0)) := by decide +kernel
theorem fX8_plays_17 : ftc 17 (me_ci mX8_plays) = some (17, .iconst 1, 1, (0, 0, 0, 0)) := by decide +kernel
theorem fX8_plays_18 : ftc 18 (me_ci mX8_plays) = some (18, .istore_n 2, 1, (0, 0, 0, 0)) := by decide +kernel
theorem fX8_plays_19 : ftc 19 (me_ci mX8_plays) = some (19, .aload_n 0, 1, (0, 0, 0, 0)) := by decide +kernel
theorem fX8_plays_20 : ftc 20 (me_ci mX8_plays) = some (20, .getfield 146, 3, (8, 17, 674, 0)) := by decide +kernel
theorem fX8_plays_23 : ftc 23 (me_ci mX8_plays) = some (23, .aload_n 0, 1, (0, 0, 0, 0)) := by decide +kernel
theorem fX8_plays_24 : ftc 24 (me_ci mX8_plays) = some (24, .getfield 99, 3, (8, 9, 666, 0)) := by decide +kernel
theorem fX8_plays_27 : ftc 27 (me_ci mX8_plays) = some (27, .if_icmp .ge 64, 3, (0, 0, 0, 0)) := by decide +kernel
theorem fX8_plays_30 : ftc 30 (me_ci mX8_plays) = some (30, .iload_n 2, 1, (0, 0, 0, 0)) := by decide +kernel
theorem fX8_plays_31 : ftc 31 (me_ci mX8_plays) = some (31, .ifCond .eq 60, 3, (0, 0, 0, 0)) := by decide +kernel
theorem fX8_plays_34 : ftc 34 (me_ci mX8_plays) = some (34, .aload_n 0, 1, (0, 0, 0, 0)) := by decide +kernel
theorem fX8_plays_35 : ftc 35 (me_ci mX8_plays) = some (35, .getfield 146, 3, (8, 17, 674, 0)) := by decide +kernel
theorem fX8_plays_38 : ftc 38 (me_ci mX8_plays) = some (38, .istore_n 1, 1, (0, 0, 0, 0)) := by decide +kernel
theorem fX8_plays_39 : ftc 39 (me_ci mX8_plays) = some (39, .aload_n 0, 1, (0, 0, 0, 0)) := by decide +kernel
theorem fX8_plays_40 : ftc 40 (me_ci mX8_plays) = some (40, .invokevirtual 175, 3, (133, 0, 894, 0)) := by decide +kernel
theorem fX8_plays_43 : ftc 43 (me_ci mX8_plays) = some (43, .istore_n 3, 1, (0, 0, 0, 0)) := by decide +kernel
theorem fX8_plays_44 : ftc 44 (me_ci mX8_plays) = some (44, .aload_n 0, 1, (0, 0, 0, 0)) := by decide +kernel
theorem fX8_plays_45 : ftc 45 (me_ci mX8_plays) = some (45, .iload_n 3, 1, (0, 0, 0, 0)) := by decide +kernel
theorem fX8_plays_46 : ftc 46 (me_ci mX8_plays) = some (46, .ifCond .eq 10, 3, (0, 0, 0, 0)) := by decide +kernel
theorem fX8_plays_49 : ftc 49 (me_ci mX8_plays) = some (49, .aload_n 0, 1, (0, 0, 0, 0)) := by decide +kernel
theorem fX8_plays_50 : ftc 50 (me_ci mX8_plays) = some (50, .invokevirtual 179, 3, (134, 0, 910, 0)) := by decide +kernel
theorem fX8_plays_53 : ftc 53 (me_ci mX8_plays) = some (53, .goto 4, 3, (0, 0, 0, 0)) := by decide +kernel
theorem fX8_plays_56 : ftc 56 (me_ci mX8_plays) = some (56, .iconst 0, 1, (0, 0, 0, 0)) := by decide +kernel
theorem fX8_plays_57 : ftc 57 (me_ci mX8_plays) = some (57, .putfield 182, 3, (8, 18, 675, 0)) := by decide +kernel
theorem fX8_plays_60 : ftc 60 (me_ci mX8_plays) = some (60, .iload_n 3, 1, (0, 0, 0, 0)) := by decide +kernel
theorem fX8_plays_61 : ftc 61 (me_ci mX8_plays) = some (61, .ifCond .eq 15, 3, (0, 0, 0, 0)) := by decide +kernel
theorem fX8_plays_64 : ftc 64 (me_ci mX8_plays) = some (64, .aload_n 0, 1, (0, 0, 0, 0)) := by decide +kernel
theorem fX8_plays_65 : ftc 65 (me_ci mX8_plays) = some (65, .getfield 182, 3, (8, 18, 675, 0)) := by decide +kernel
theorem fX8_plays_68 : ftc 68 (me_ci mX8_plays) = some (68, .iconst (-1), 1, (0, 0, 0, 0)) := by decide +kernel
theorem fX8_plays_69 : ftc 69 (me_ci mX8_plays) = some (69, .if_icmp .lt 7, 3, (0, 0, 0, 0)) := by decide +kernel
theorem fX8_plays_72 : ftc 72 (me_ci mX8_plays) = some (72, .iconst 1, 1, (0, 0, 0, 0)) := by decide +kernel
theorem fX8_plays_73 : ftc 73 (me_ci mX8_plays) = some (73, .goto 4, 3, (0, 0, 0, 0)) := by decide +kernel
theorem fX8_plays_76 : ftc 76 (me_ci mX8_plays) = some (76, .iconst 0, 1, (0, 0, 0, 0)) := by decide +kernel
theorem fX8_plays_77 : ftc 77 (me_ci mX8_plays) = some (77, .istore_n 2, 1, (0, 0, 0, 0)) := by decide +kernel
theorem fX8_plays_78 : ftc 78 (me_ci mX8_plays) = some (78, .aload_n 0, 1, (0, 0, 0, 0)) := by decide +kernel
theorem fX8_plays_79 : ftc 79 (me_ci mX8_plays) = some (79, .dup, 1, (0, 0, 0, 0)) := by decide +kernel
theorem fX8_plays_80 : ftc 80 (me_ci mX8_plays) = some (80, .getfield 172, 3, (8, 19, 676, 0)) := by decide +kernel
theorem fX8_plays_83 : ftc 83 (me_ci mX8_plays) = some (83, .iconst 1, 1, (0, 0, 0, 0)) := by decide +kernel
theorem fX8_plays_84 : ftc 84 (me_ci mX8_plays) = some (84, .iadd, 1, (0, 0, 0, 0)) := by decide +kernel
theorem fX8_plays_85 : ftc 85 (me_ci mX8_plays) = some (85, .putfield 172, 3, (8, 19, 676, 0)) := by decide +kernel
theorem fX8_plays_88 : ftc 88 (me_ci mX8_plays) = some (88, .goto (-69), 3, (0, 0, 0, 0)) := by decide +kernel
theorem fX8_plays_91 : ftc 91 (me_ci mX8_plays) = some (91, .aload_n 0, 1, (0, 0, 0, 0)) := by decide +kernel
theorem fX8_plays_92 : ftc 92 (me_ci mX8_plays) = some (92, .iconst 0, 1, (0, 0, 0, 0)) := by decide +kernel
theorem fX8_plays_93 : ftc 93 (me_ci mX8_plays) = some (93, .putfield 35, 3, (8, 7, 664, 0)) := by decide +kernel
theorem fX8_plays_96 : ftc 96 (me_ci mX8_plays) = some (96, .iload_n 2, 1, (0, 0, 0, 0)) := by decide +kernel
theorem fX8_plays_97 : ftc 97 (me_ci mX8_plays) = some (97, .ifCond .eq 8, 3, (0, 0, 0, 0)) := by decide +kernel
theorem fX8_plays_100 : ftc 100 (me_ci mX8_plays) = some (100, .ldc 95, 2, (806, 0, 0, -1000004)) := by decide +kernel
theorem fX8_plays_102 : ftc 102 (me_ci mX8_plays) = some (102, .goto 4, 3, (0, 0, 0, 0)) := by decide +kernel
theorem fX8_plays_105 : ftc 105 (me_ci mX8_plays) = some (105, .iload_n 1, 1, (0, 0, 0, 0)) := by decide +kernel
theorem fX8_plays_106 : ftc 106 (me_ci mX8_plays) = some (106, .ireturn, 1, (0, 0, 0, 0)) := by decide +kernel
theorem pX8_plays : pg 135 = some mX8_plays := by decide +kernel
theorem fX8_fault_0 : ftc 0 (me_ci mX8_fault) = some (0, .iload_n 1, 1, (0, 0, 0, 0)) := by decide +kernel
theorem fX8_fault_1 : ftc 1 (me_ci mX8_fault) = some (1, .iconst 0, 1, (0, 0, 0, 0)) := by decide +kernel
theorem fX8_fault_2 : ftc 2 (me_ci mX8_fault) = some (2, .iconst 2, 1, (0, 0, 0, 0)) := by decide +kernel
theorem fX8_fault_3 : ftc 3 (me_ci mX8_fault) = some (3, .invokestatic 43, 3, (88, 0, 654, 0)) := by decide +kernel
theorem fX8_fault_6 : ftc 6 (me_ci mX8_fault) = some (6, .ifCond .ne 6, 3, (0, 0, 0, 0)) := by decide +kernel
theorem fX8_fault_9 : ftc 9 (me_ci mX8_fault) = some (9, .ldc 47, 2, (728, 0, 0, -1000001)) := by decide +kernel
theorem fX8_fault_11 : ftc 11 (me_ci mX8_fault) = some (11, .ireturn, 1, (0, 0, 0, 0)) := by decide +kernel
theorem fX8_fault_12 : ftc 12 (me_ci mX8_fault) = some (12, .aload_n 0, 1, (0, 0, 0, 0)) := by decide +kernel
theorem fX8_fault_13 : ftc 13 (me_ci mX8_fault) = some (13, .getfield 7, 3, (8, 0, 657, 0)) := by decide +kernel
theorem fX8_fault_16 : ftc 16 (me_ci mX8_fault) = some (16, .aload_n 0, 1, (0, 0, 0, 0)) := by decide +kernel
theorem fX8_fault_17 : ftc 17 (me_ci mX8_fault) = some (17, .getfield 16, 3, (8, 2, 659, 0)) := by decide +kernel
theorem fX8_fault_20 : ftc 20 (me_ci mX8_fault) = some (20, .invokestatic 105, 3, (89, 0, 835, 0)) := by decide +kernel
theorem fX8_fault_23 : ftc 23 (me_ci mX8_fault) = some (23, .aload_n 0, 1, (0, 0, 0, 0)) := by decide +kernel
theorem fX8_fault_24 : ftc 24 (me_ci mX8_fault) = some (24, .invokevirtual 185, 3, (135, 0, 890, 0)) := by decide +kernel
theorem fX8_fault_27 : ftc 27 (me_ci mX8_fault) = some (27, .istore_n 2, 1, (0, 0, 0, 0)) := by decide +kernel
theorem fX8_fault_28 : ftc 28 (me_ci mX8_fault) = some (28, .aload_n 0, 1, (0, 0, 0, 0)) := by decide +kernel
theorem fX8_fault_29 : ftc 29 (me_ci mX8_fault) = some (29, .getfield 16, 3, (8, 2, 659, 0)) := by decide +kernel
theorem fX8_fault_32 : ftc 32 (me_ci mX8_fault) = some (32, .aload_n 0, 1, (0, 0, 0, 0)) := by decide +kernel
theorem fX8_fault_33 : ftc 33 (me_ci mX8_fault) = some (33, .getfield 7, 3, (8, 0, 657, 0)) := by decide +kernel
theorem fX8_fault_36 : ftc 36 (me_ci mX8_fault) = some (36, .invokestatic 105, 3, (89, 0, 835, 0)) := by decide +kernel
theorem fX8_fault_39 : ftc 39 (me_ci mX8_fault) = some (39, .iload_n 2, 1, (0, 0, 0, 0)) := by decide +kernel
theorem fX8_fault_40 : ftc 40 (me_ci mX8_fault) = some (40, .ldc 95, 2, (806, 0, 0, -1000004)) := by decide +kernel
theorem fX8_fault_42 : ftc 42 (me_ci mX8_fault) = some (42, .if_icmp .eq 7, 3, (0, 0, 0, 0)) := by decide +kernel
theorem fX8_fault_45 : ftc 45 (me_ci mX8_fault) = some (45, .iload_n 1, 1, (0, 0, 0, 0)) := by decide +kernel
theorem fX8_fault_46 : ftc 46 (me_ci mX8_fault) = some (46, .ifCond .ne 7, 3, (0, 0, 0, 0)) := by decide +kernel
theorem fX8_fault_49 : ftc 49 (me_ci mX8_fault) = some (49, .iload_n 2, 1, (0, 0, 0, 0)) := by decide +kernel
theorem fX8_fault_50 : ftc 50 (me_ci mX8_fault) = some (50, .goto 39, 3, (0, 0, 0, 0)) := by decide +kernel
theorem fX8_fault_53 : ftc 53 (me_ci mX8_fault) = some (53, .iload_n 1, 1, (0, 0, 0, 0)) := by decide +kernel
theorem fX8_fault_54 : ftc 54 (me_ci mX8_fault) = some (54, .iconst 1, 1, (0, 0, 0, 0)) := by decide +kernel
theorem fX8_fault_55 : ftc 55 (me_ci mX8_fault) = some (55, .if_icmp .ne 18, 3, (0, 0, 0, 0)) := by decide +kernel
theorem fX8_fault_58 : ftc 58 (me_ci mX8_fault) = some (58, .aload_n 0, 1, (0, 0, 0, 0)) := by decide +kernel
theorem fX8_fault_59 : ftc 59 (me_ci mX8_fault) = some (59, .getfield 182, 3, (8, 18, 675, 0)) := by decide +kernel
theorem fX8_fault_62 : ftc 62 (me_ci mX8_fault) = some (62, .ifCond .ne 7, 3, (0, 0, 0, 0)) := by decide +kernel
theorem fX8_fault_65 : ftc 65 (me_ci mX8_fault) = some (65, .iconst 1, 1, (0, 0, 0, 0)) := by decide +kernel
theorem fX8_fault_66 : ftc 66 (me_ci mX8_fault) = some (66, .goto 23, 3, (0, 0, 0, 0)) := by decide +kernel
theorem fX8_fault_69 : ftc 69 (me_ci mX8_fault) = some (69, .iconst 2, 1, (0, 0, 0, 0)) := by decide +kernel
theorem fX8_fault_70 : ftc 70 (me_ci mX8_fault) = some (70, .goto 19, 3, (0, 0, 0, 0)) := by decide +kernel
theorem fX8_fault_73 : ftc 73 (me_ci mX8_fault) = some (73, .aload_n 0, 1, (0, 0, 0, 0)) := by decide +kernel
theorem fX8_fault_74 : ftc 74 (me_ci mX8_fault) = some (74, .getfield 182, 3, (8, 18, 675, 0)) := by decide +kernel
theorem fX8_fault_77 : ftc 77 (me_ci mX8_fault) = some (77, .ifCond .ne 8, 3, (0, 0, 0, 0)) := by decide +kernel
theorem fX8_fault_80 : ftc 80 (me_ci mX8_fault) = some (80, .ldc 95, 2, (806, 0, 0, -1000004)) := by decide +kernel
theorem fX8_fault_82 : ftc 82 (me_ci mX8_fault) = some (82, .goto 7, 3, (0, 0, 0, 0)) := by decide +kernel
theorem fX8_fault_85 : ftc 85 (me_ci mX8_fault) = some (85, .aload_n 0, 1, (0, 0, 0, 0)) := by decide +kernel
theorem fX8_fault_86 : ftc 86 (me_ci mX8_fault) = some (86, .getfield 182, 3, (8, 18, 675, 0)) := by decide +kernel
theorem fX8_fault_89 : ftc 89 (me_ci mX8_fault) = some (89, .ireturn, 1, (0, 0, 0, 0)) := by decide +kernel
theorem pX8_fault : pg 136 = some mX8_fault := by decide +kernel
theorem fX8_play_0 : ftc 0 (me_ci mX8_play) = some (0, .aload_n 0, 1, (0, 0, 0, 0)) := by decide +kernel
theorem fX8_play_1 : ftc 1 (me_ci mX8_play) = some (1, .getfield 7, 3, (8, 0, 657, 0)) := by decide +kernel
theorem fX8_play_4 : ftc 4 (me_ci mX8_play) = some (4, .aload_n 0, 1, (0, 0, 0, 0)) := by decide +kernel
theorem fX8_play_5 : ftc 5 (me_ci mX8_play) = some (5, .getfield 16, 3, (8, 2, 659, 0)) := by decide +kernel
theorem fX8_play_8 : ftc 8 (me_ci mX8_play) = some (8, .invokestatic 105, 3, (89, 0, 835, 0)) := by decide +kernel
theorem fX8_play_11 : ftc 11 (me_ci mX8_play) = some (11, .aload_n 0, 1, (0, 0, 0, 0)) := by decide +kernel
theorem fX8_play_12 : ftc 12 (me_ci mX8_play) = some (12, .invokevirtual 185, 3, (135, 0, 890, 0)) := by decide +kernel
theorem fX8_play_15 : ftc 15 (me_ci mX8_play) = some (15, .istore_n 1, 1, (0, 0, 0, 0)) := by decide +kernel
theorem fX8_play_16 : ftc 16 (me_ci mX8_play) = some (16, .aload_n 0, 1, (0, 0, 0, 0)) := by decide +kernel
theorem fX8_play_17 : ftc 17 (me_ci mX8_play) = some (17, .getfield 16, 3, (8, 2, 659, 0)) := by decide +kernel
theorem fX8_play_20 : ftc 20 (me_ci mX8_play) = some (20, .aload_n 0, 1, (0, 0, 0, 0)) := by decide +kernel
theorem fX8_play_21 : ftc 21 (me_ci mX8_play) = some (21, .getfield 7, 3, (8, 0, 657, 0)) := by decide +kernel
theorem fX8_play_24 : ftc 24 (me_ci mX8_play) = some (24, .invokestatic 105, 3, (89, 0, 835, 0)) := by decide +kernel
theorem fX8_play_27 : ftc 27 (me_ci mX8_play) = some (27, .iload_n 1, 1, (0, 0, 0, 0)) := by decide +kernel
theorem fX8_play_28 : ftc 28 (me_ci mX8_play) = some (28, .ldc 95, 2, (806, 0, 0, -1000004)) := by decide +kernel
theorem fX8_play_30 : ftc 30 (me_ci mX8_play) = some (30, .if_icmp .eq 6, 3, (0, 0, 0, 0)) := by decide +kernel
theorem fX8_play_33 : ftc 33 (me_ci mX8_play) = some (33, .ldc 60, 2, (750, 0, 0, -1000002)) := by decide +kernel
theorem fX8_play_35 : ftc 35 (me_ci mX8_play) = some (35, .ireturn, 1, (0, 0, 0, 0)) := by decide +kernel
theorem fX8_play_36 : ftc 36 (me_ci mX8_play) = some (36, .aload_n 0, 1, (0, 0, 0, 0)) := by decide +kernel
theorem fX8_play_37 : ftc 37 (me_ci mX8_play) = some (37, .invokevirtual 48, 3, (90, 0, 729, 0)) := by decide +kernel
theorem fX8_play_40 : ftc 40 (me_ci mX8_play) = some (40, .aload_n 0, 1, (0, 0, 0, 0)) := by decide +kernel
theorem fX8_play_41 : ftc 41 (me_ci mX8_play) = some (41, .invokevirtual 185, 3, (135, 0, 890, 0)) := by decide +kernel
theorem fX8_play_44 : ftc 44 (me_ci mX8_play) = some (44, .ldc 95, 2, (806, 0, 0, -1000004)) := by decide +kernel
theorem fX8_play_46 : ftc 46 (me_ci mX8_play) = some (46, .if_icmp .ne 10, 3, (0, 0, 0, 0)) := by decide +kernel
theorem fX8_play_49 : ftc 49 (me_ci mX8_play) = some (49, .aload_n 0, 1, (0, 0, 0, 0)) := by decide +kernel
theorem fX8_play_50 : ftc 50 (me_ci mX8_play) = some (50, .getfield 172, 3, (8, 19, 676, 0)) := by decide +kernel
theorem fX8_play_53 : ftc 53 (me_ci mX8_play) = some (53, .goto 5, 3, (0, 0, 0, 0)) := by decide +kernel
theorem fX8_play_56 : ftc 56 (me_ci mX8_play) = some (56, .ldc 95, 2, (806, 0, 0, -1000004)) := by decide +kernel
theorem fX8_play_58 : ftc 58 (me_ci mX8_play) = some (58, .ireturn, 1, (0, 0, 0, 0)) := by decide +kernel
theorem pX8_play : pg 137 = some mX8_play := by decide +kernel
theorem fL_law_0 : ftc 0 (me_ci mL_law) = some (0, .new 7, 3, (7, 8, 38, 0)) := by decide +kernel
theorem fL_law_3 : ftc 3 (me_ci mL_law) = some (3, .dup, 1, (0, 0, 0, 0)) := by decide +kernel
theorem fL_law_4 : ftc 4 (me_ci mL_law) = some (4, .invokespecial 9, 3, (60, 0, 40, 0)) := by decide +kernel
theorem fL_law_7 : ftc 7 (me_ci mL_law) = some (7, .astore_n 1, 1, (0, 0, 0, 0)) := by decide +kernel
theorem fL_law_8 : ftc 8 (me_ci mL_law) = some (8, .new 10, 3, (8, 22, 644, 0)) := by decide +kernel
theorem fL_law_11 : ftc 11 (me_ci mL_law) = some (11, .dup, 1, (0, 0, 0, 0)) := by decide +kernel
theorem fL_law_12 : ftc 12 (me_ci mL_law) = some (12, .invokespecial 12, 3, (87, 0, 646, 0)) := by decide +kernel
theorem fL_law_15 : ftc 15 (me_ci mL_law) = some (15, .astore_n 2, 1, (0, 0, 0, 0)) := by decide +kernel
theorem fL_law_16 : ftc 16 (me_ci mL_law) = some (16, .iconst 0, 1, (0, 0, 0, 0)) := by decide +kernel
theorem fL_law_17 : ftc 17 (me_ci mL_law) = some (17, .istore_n 3, 1, (0, 0, 0, 0)) := by decide +kernel
theorem fL_law_18 : ftc 18 (me_ci mL_law) = some (18, .iload_n 3, 1, (0, 0, 0, 0)) := by decide +kernel
theorem fL_law_19 : ftc 19 (me_ci mL_law) = some (19, .aload_n 0, 1, (0, 0, 0, 0)) := by decide +kernel
theorem fL_law_20 : ftc 20 (me_ci mL_law) = some (20, .arraylength, 1, (0, 0, 0, 0)) := by decide +kernel
theorem fL_law_21 : ftc 21 (me_ci mL_law) = some (21, .iconst 3, 1, (0, 0, 0, 0)) := by decide +kernel
theorem fL_law_22 : ftc 22 (me_ci mL_law) = some (22, .isub, 1, (0, 0, 0, 0)) := by decide +kernel
theorem fL_law_23 : ftc 23 (me_ci mL_law) = some (23, .if_icmp .gt 672, 3, (0, 0, 0, 0)) := by decide +kernel
theorem fL_law_26 : ftc 26 (me_ci mL_law) = some (26, .aload_n 0, 1, (0, 0, 0, 0)) := by decide +kernel
theorem fL_law_27 : ftc 27 (me_ci mL_law) = some (27, .iload_n 3, 1, (0, 0, 0, 0)) := by decide +kernel
theorem fL_law_28 : ftc 28 (me_ci mL_law) = some (28, .iaload, 1, (0, 0, 0, 0)) := by decide +kernel
theorem fL_law_29 : ftc 29 (me_ci mL_law) = some (29, .bipush 31, 2, (0, 0, 0, 0)) := by decide +kernel
theorem fL_law_31 : ftc 31 (me_ci mL_law) = some (31, .iand, 1, (0, 0, 0, 0)) := by decide +kernel
theorem fL_law_32 : ftc 32 (me_ci mL_law) = some (32, .tableswitch 657 0 22 #[108, 141, 164, 197, 210, 243, 276, 309, 342, 375, 398, 411, 434, 457, 490, 523, 546, 559, 572, 585, 608, 621, 644], 108, (0, 0, 0, 0)) := by decide +kernel
theorem fL_law_140 : ftc 140 (me_ci mL_law) = some (140, .aload_n 1, 1, (0, 0, 0, 0)) := by decide +kernel
theorem fL_law_141 : ftc 141 (me_ci mL_law) = some (141, .aload_n 0, 1, (0, 0, 0, 0)) := by decide +kernel
theorem fL_law_142 : ftc 142 (me_ci mL_law) = some (142, .iload_n 3, 1, (0, 0, 0, 0)) := by decide +kernel
theorem fL_law_143 : ftc 143 (me_ci mL_law) = some (143, .iconst 1, 1, (0, 0, 0, 0)) := by decide +kernel
theorem fL_law_144 : ftc 144 (me_ci mL_law) = some (144, .iadd, 1, (0, 0, 0, 0)) := by decide +kernel
theorem fL_law_145 : ftc 145 (me_ci mL_law) = some (145, .iaload, 1, (0, 0, 0, 0)) := by decide +kernel
theorem fL_law_146 : ftc 146 (me_ci mL_law) = some (146, .aload_n 0, 1, (0, 0, 0, 0)) := by decide +kernel
theorem fL_law_147 : ftc 147 (me_ci mL_law) = some (147, .iload_n 3, 1, (0, 0, 0, 0)) := by decide +kernel
theorem fL_law_148 : ftc 148 (me_ci mL_law) = some (148, .iconst 2, 1, (0, 0, 0, 0)) := by decide +kernel
theorem fL_law_149 : ftc 149 (me_ci mL_law) = some (149, .iadd, 1, (0, 0, 0, 0)) := by decide +kernel
theorem fL_law_150 : ftc 150 (me_ci mL_law) = some (150, .iaload, 1, (0, 0, 0, 0)) := by decide +kernel
theorem fL_law_151 : ftc 151 (me_ci mL_law) = some (151, .invokevirtual 13, 3, (61, 0, 309, 0)) := by decide +kernel
theorem fL_law_154 : ftc 154 (me_ci mL_law) = some (154, .aload_n 2, 1, (0, 0, 0, 0)) := by decide +kernel
theorem fL_law_155 : ftc 155 (me_ci mL_law) = some (155, .aload_n 0, 1, (0, 0, 0, 0)) := by decide +kernel
theorem fL_law_156 : ftc 156 (me_ci mL_law) = some (156, .iload_n 3, 1, (0, 0, 0, 0)) := by decide +kernel
theorem fL_law_157 : ftc 157 (me_ci mL_law) = some (157, .iconst 1, 1, (0, 0, 0, 0)) := by decide +kernel
theorem fL_law_158 : ftc 158 (me_ci mL_law) = some (158, .iadd, 1, (0, 0, 0, 0)) := by decide +kernel
theorem fL_law_159 : ftc 159 (me_ci mL_law) = some (159, .iaload, 1, (0, 0, 0, 0)) := by decide +kernel
theorem fL_law_160 : ftc 160 (me_ci mL_law) = some (160, .aload_n 0, 1, (0, 0, 0, 0)) := by decide +kernel
theorem fL_law_161 : ftc 161 (me_ci mL_law) = some (161, .iload_n 3, 1, (0, 0, 0, 0)) := by decide +kernel
theorem fL_law_162 : ftc 162 (me_ci mL_law) = some (162, .iconst 2, 1, (0, 0, 0, 0)) := by decide +kernel
theorem fL_law_163 : ftc 163 (me_ci mL_law) = some (163, .iadd, 1, (0, 0, 0, 0)) := by decide +kernel
theorem fL_law_164 : ftc 164 (me_ci mL_law) = some (164, .iaload, 1, (0, 0, 0, 0)) := by decide +kernel
theorem fL_law_165 : ftc 165 (me_ci mL_law) = some (165, .invokevirtual 17, 3, (94, 0, 724, 0)) := by decide +kernel
theorem fL_law_168 : ftc 168 (me_ci mL_law) = some (168, .if_icmp .eq 521, 3, (0, 0, 0, 0)) := by decide +kernel
theorem fL_law_171 : ftc 171 (me_ci mL_law) = some (171, .iconst 0, 1, (0, 0, 0, 0)) := by decide +kernel
theorem fL_law_172 : ftc 172 (me_ci mL_law) = some (172, .ireturn, 1, (0, 0, 0, 0)) := by decide +kernel
theorem fL_law_173 : ftc 173 (me_ci mL_law) = some (173, .aload_n 1, 1, (0, 0, 0, 0)) := by decide +kernel
theorem fL_law_174 : ftc 174 (me_ci mL_law) = some (174, .aload_n 0, 1, (0, 0, 0, 0)) := by decide +kernel
theorem fL_law_175 : ftc 175 (me_ci mL_law) = some (175, .iload_n 3, 1, (0, 0, 0, 0)) := by decide +kernel
theorem fL_law_176 : ftc 176 (me_ci mL_law) = some (176, .iconst 1, 1, (0, 0, 0, 0)) := by decide +kernel
theorem fL_law_177 : ftc 177 (me_ci mL_law) = some (177, .iadd, 1, (0, 0, 0, 0)) := by decide +kernel
theorem fL_law_178 : ftc 178 (me_ci mL_law) = some (178, .iaload, 1, (0, 0, 0, 0)) := by decide +kernel
theorem fL_law_179 : ftc 179 (me_ci mL_law) = some (179, .invokevirtual 18, 3, (62, 0, 344, 0)) := by decide +kernel
theorem fL_law_182 : ftc 182 (me_ci mL_law) = some (182, .aload_n 2, 1, (0, 0, 0, 0)) := by decide +kernel
theorem fL_law_183 : ftc 183 (me_ci mL_law) = some (183, .aload_n 0, 1, (0, 0, 0, 0)) := by decide +kernel
theorem fL_law_184 : ftc 184 (me_ci mL_law) = some (184, .iload_n 3, 1, (0, 0, 0, 0)) := by decide +kernel
theorem fL_law_185 : ftc 185 (me_ci mL_law) = some (185, .iconst 1, 1, (0, 0, 0, 0)) := by decide +kernel
theorem fL_law_186 : ftc 186 (me_ci mL_law) = some (186, .iadd, 1, (0, 0, 0, 0)) := by decide +kernel
theorem fL_law_187 : ftc 187 (me_ci mL_law) = some (187, .iaload, 1, (0, 0, 0, 0)) := by decide +kernel
theorem fL_law_188 : ftc 188 (me_ci mL_law) = some (188, .invokevirtual 22, 3, (95, 0, 733, 0)) := by decide +kernel
theorem fL_law_191 : ftc 191 (me_ci mL_law) = some (191, .if_icmp .eq 498, 3, (0, 0, 0, 0)) := by decide +kernel
theorem fL_law_194 : ftc 194 (me_ci mL_law) = some (194, .iconst 0, 1, (0, 0, 0, 0)) := by decide +kernel
theorem fL_law_195 : ftc 195 (me_ci mL_law) = some (195, .ireturn, 1, (0, 0, 0, 0)) := by decide +kernel
theorem fL_law_196 : ftc 196 (me_ci mL_law) = some (196, .aload_n 1, 1, (0, 0, 0, 0)) := by decide +kernel
theorem fL_law_197 : ftc 197 (me_ci mL_law) = some (197, .aload_n 0, 1, (0, 0, 0, 0)) := by decide +kernel
theorem fL_law_198 : ftc 198 (me_ci mL_law) = some (198, .iload_n 3, 1, (0, 0, 0, 0)) := by decide +kernel
theorem fL_law_199 : ftc 199 (me_ci mL_law) = some (199, .iconst 1, 1, (0, 0, 0, 0)) := by decide +kernel
theorem fL_law_200 : ftc 200 (me_ci mL_law) = some (200, .iadd, 1, (0, 0, 0, 0)) := by decide +kernel
theorem fL_law_201 : ftc 201 (me_ci mL_law) = some (201, .iaload, 1, (0, 0, 0, 0)) := by decide +kernel
theorem fL_law_202 : ftc 202 (me_ci mL_law) = some (202, .aload_n 0, 1, (0, 0, 0, 0)) := by decide +kernel
theorem fL_law_203 : ftc 203 (me_ci mL_law) = some (203, .iload_n 3, 1, (0, 0, 0, 0)) := by decide +kernel
theorem fL_law_204 : ftc 204 (me_ci mL_law) = some (204, .iconst 2, 1, (0, 0, 0, 0)) := by decide +kernel
theorem fL_law_205 : ftc 205 (me_ci mL_law) = some (205, .iadd, 1, (0, 0, 0, 0)) := by decide +kernel
theorem fL_law_206 : ftc 206 (me_ci mL_law) = some (206, .iaload, 1, (0, 0, 0, 0)) := by decide +kernel
theorem fL_law_207 : ftc 207 (me_ci mL_law) = some (207, .invokevirtual 23, 3, (63, 0, 353, 0)) := by decide +kernel
theorem fL_law_210 : ftc 210 (me_ci mL_law) = some (210, .aload_n 2, 1, (0, 0, 0, 0)) := by decide +kernel
theorem fL_law_211 : ftc 211 (me_ci mL_law) = some (211, .aload_n 0, 1, (0, 0, 0, 0)) := by decide +kernel
theorem fL_law_212 : ftc 212 (me_ci mL_law) = some (212, .iload_n 3, 1, (0, 0, 0, 0)) := by decide +kernel
theorem fL_law_213 : ftc 213 (me_ci mL_law) = some (213, .iconst 1, 1, (0, 0, 0, 0)) := by decide +kernel
theorem fL_law_214 : ftc 214 (me_ci mL_law) = some (214, .iadd, 1, (0, 0, 0, 0)) := by decide +kernel
theorem fL_law_215 : ftc 215 (me_ci mL_law) = some (215, .iaload, 1, (0, 0, 0, 0)) := by decide +kernel
theorem fL_law_216 : ftc 216 (me_ci mL_law) = some (216, .aload_n 0, 1, (0, 0, 0, 0)) := by decide +kernel
theorem fL_law_217 : ftc 217 (me_ci mL_law) = some (217, .iload_n 3, 1, (0, 0, 0, 0)) := by decide +kernel
theorem fL_law_218 : ftc 218 (me_ci mL_law) = some (218, .iconst 2, 1, (0, 0, 0, 0)) := by decide +kernel
theorem fL_law_219 : ftc 219 (me_ci mL_law) = some (219, .iadd, 1, (0, 0, 0, 0)) := by decide +kernel
theorem fL_law_220 : ftc 220 (me_ci mL_law) = some (220, .iaload, 1, (0, 0, 0, 0)) := by decide +kernel
theorem fL_law_221 : ftc 221 (me_ci mL_law) = some (221, .invokevirtual 26, 3, (97, 0, 738, 0)) := by decide +kernel
theorem fL_law_224 : ftc 224 (me_ci mL_law) = some (224, .if_icmp .eq 465, 3, (0, 0, 0, 0)) := by decide +kernel
theorem fL_law_227 : ftc 227 (me_ci mL_law) = some (227, .iconst 0, 1, (0, 0, 0, 0)) := by decide +kernel
theorem fL_law_228 : ftc 228 (me_ci mL_law) = some (228, .ireturn, 1, (0, 0, 0, 0)) := by decide +kernel
theorem fL_law_229 : ftc 229 (me_ci mL_law) = some (229, .aload_n 1, 1, (0, 0, 0, 0)) := by decide +kernel
theorem fL_law_230 : ftc 230 (me_ci mL_law) = some (230, .invokevirtual 27, 3, (64, 0, 374, 0)) := by decide +kernel
theorem fL_law_233 : ftc 233 (me_ci mL_law) = some (233, .aload_n 2, 1, (0, 0, 0, 0)) := by decide +kernel
theorem fL_law_234 : ftc 234 (me_ci mL_law) = some (234, .invokevirtual 31, 3, (107, 0, 755, 0)) := by decide +kernel
theorem fL_law_237 : ftc 237 (me_ci mL_law) = some (237, .if_icmp .eq 452, 3, (0, 0, 0, 0)) := by decide +kernel
theorem fL_law_240 : ftc 240 (me_ci mL_law) = some (240, .iconst 0, 1, (0, 0, 0, 0)) := by decide +kernel
theorem fL_law_241 : ftc 241 (me_ci mL_law) = some (241, .ireturn, 1, (0, 0, 0, 0)) := by decide +kernel
theorem fL_law_242 : ftc 242 (me_ci mL_law) = some (242, .aload_n 1, 1, (0, 0, 0, 0)) := by decide +kernel
theorem fL_law_243 : ftc 243 (me_ci mL_law) = some (243, .aload_n 0, 1, (0, 0, 0, 0)) := by decide +kernel
theorem fL_law_244 : ftc 244 (me_ci mL_law) = some (244, .iload_n 3, 1, (0, 0, 0, 0)) := by decide +kernel
theorem fL_law_245 : ftc 245 (me_ci mL_law) = some (245, .iconst 1, 1, (0, 0, 0, 0)) := by decide +kernel
theorem fL_law_246 : ftc 246 (me_ci mL_law) = some (246, .iadd, 1, (0, 0, 0, 0)) := by decide +kernel
theorem fL_law_247 : ftc 247 (me_ci mL_law) = some (247, .iaload, 1, (0, 0, 0, 0)) := by decide +kernel
theorem fL_law_248 : ftc 248 (me_ci mL_law) = some (248, .aload_n 0, 1, (0, 0, 0, 0)) := by decide +kernel
theorem fL_law_249 : ftc 249 (me_ci mL_law) = some (249, .iload_n 3, 1, (0, 0, 0, 0)) := by decide +kernel
theorem fL_law_250 : ftc 250 (me_ci mL_law) = some (250, .iconst 2, 1, (0, 0, 0, 0)) := by decide +kernel
theorem fL_law_251 : ftc 251 (me_ci mL_law) = some (251, .iadd, 1, (0, 0, 0, 0)) := by decide +kernel
theorem fL_law_252 : ftc 252 (me_ci mL_law) = some (252, .iaload, 1, (0, 0, 0, 0)) := by decide +kernel
theorem fL_law_253 : ftc 253 (me_ci mL_law) = some (253, .invokevirtual 32, 3, (65, 0, 426, 0)) := by decide +kernel
theorem fL_law_256 : ftc 256 (me_ci mL_law) = some (256, .aload_n 2, 1, (0, 0, 0, 0)) := by decide +kernel
theorem fL_law_257 : ftc 257 (me_ci mL_law) = some (257, .aload_n 0, 1, (0, 0, 0, 0)) := by decide +kernel
theorem fL_law_258 : ftc 258 (me_ci mL_law) = some (258, .iload_n 3, 1, (0, 0, 0, 0)) := by decide +kernel
theorem fL_law_259 : ftc 259 (me_ci mL_law) = some (259, .iconst 1, 1, (0, 0, 0, 0)) := by decide +kernel
theorem fL_law_260 : ftc 260 (me_ci mL_law) = some (260, .iadd, 1, (0, 0, 0, 0)) := by decide +kernel
theorem fL_law_261 : ftc 261 (me_ci mL_law) = some (261, .iaload, 1, (0, 0, 0, 0)) := by decide +kernel
theorem fL_law_262 : ftc 262 (me_ci mL_law) = some (262, .aload_n 0, 1, (0, 0, 0, 0)) := by decide +kernel
theorem fL_law_263 : ftc 263 (me_ci mL_law) = some (263, .iload_n 3, 1, (0, 0, 0, 0)) := by decide +kernel
theorem fL_law_264 : ftc 264 (me_ci mL_law) = some (264, .iconst 2, 1, (0, 0, 0, 0)) := by decide +kernel
theorem fL_law_265 : ftc 265 (me_ci mL_law) = some (265, .iadd, 1, (0, 0, 0, 0)) := by decide +kernel
theorem fL_law_266 : ftc 266 (me_ci mL_law) = some (266, .iaload, 1, (0, 0, 0, 0)) := by decide +kernel
theorem fL_law_267 : ftc 267 (me_ci mL_law) = some (267, .invokevirtual 35, 3, (108, 0, 794, 0)) := by decide +kernel
theorem fL_law_270 : ftc 270 (me_ci mL_law) = some (270, .if_icmp .eq 419, 3, (0, 0, 0, 0)) := by decide +kernel
theorem fL_law_273 : ftc 273 (me_ci mL_law) = some (273, .iconst 0, 1, (0, 0, 0, 0)) := by decide +kernel
theorem fL_law_274 : ftc 274 (me_ci mL_law) = some (274, .ireturn, 1, (0, 0, 0, 0)) := by decide +kernel
theorem fL_law_275 : ftc 275 (me_ci mL_law) = some (275, .aload_n 1, 1, (0, 0, 0, 0)) := by decide +kernel
theorem fL_law_276 : ftc 276 (me_ci mL_law) = some (276, .aload_n 0, 1, (0, 0, 0, 0)) := by decide +kernel
theorem fL_law_277 : ftc 277 (me_ci mL_law) = some (277, .iload_n 3, 1, (0, 0, 0, 0)) := by decide +kernel
theorem fL_law_278 : ftc 278 (me_ci mL_law) = some (278, .iconst 1, 1, (0, 0, 0, 0)) := by decide +kernel
theorem fL_law_279 : ftc 279 (me_ci mL_law) = some (279, .iadd, 1, (0, 0, 0, 0)) := by decide +kernel
theorem fL_law_280 : ftc 280 (me_ci mL_law) = some (280, .iaload, 1, (0, 0, 0, 0)) := by decide +kernel
theorem fL_law_281 : ftc 281 (me_ci mL_law) = some (281, .aload_n 0, 1, (0, 0, 0, 0)) := by decide +kernel
theorem fL_law_282 : ftc 282 (me_ci mL_law) = some (282, .iload_n 3, 1, (0, 0, 0, 0)) := by decide +kernel
theorem fL_law_283 : ftc 283 (me_ci mL_law) = some (283, .iconst 2, 1, (0, 0, 0, 0)) := by decide +kernel
theorem fL_law_284 : ftc 284 (me_ci mL_law) = some (284, .iadd, 1, (0, 0, 0, 0)) := by decide +kernel
theorem fL_law_285 : ftc 285 (me_ci mL_law) = some (285, .iaload, 1, (0, 0, 0, 0)) := by decide +kernel
theorem fL_law_286 : ftc 286 (me_ci mL_law) = some (286, .invokevirtual 36, 3, (66, 0, 436, 0)) := by decide +kernel
theorem fL_law_289 : ftc 289 (me_ci mL_law) = some (289, .aload_n 2, 1, (0, 0, 0, 0)) := by decide +kernel
theorem fL_law_290 : ftc 290 (me_ci mL_law) = some (290, .aload_n 0, 1, (0, 0, 0, 0)) := by decide +kernel
theorem fL_law_291 : ftc 291 (me_ci mL_law) = some (291, .iload_n 3, 1, (0, 0, 0, 0)) := by decide +kernel
theorem fL_law_292 : ftc 292 (me_ci mL_law) = some (292, .iconst 1, 1, (0, 0, 0, 0)) := by decide +kernel
theorem fL_law_293 : ftc 293 (me_ci mL_law) = some (293, .iadd, 1, (0, 0, 0, 0)) := by decide +kernel
theorem fL_law_294 : ftc 294 (me_ci mL_law) = some (294, .iaload, 1, (0, 0, 0, 0)) := by decide +kernel
theorem fL_law_295 : ftc 295 (me_ci mL_law) = some (295, .aload_n 0, 1, (0, 0, 0, 0)) := by decide +kernel
theorem fL_law_296 : ftc 296 (me_ci mL_law) = some (296, .iload_n 3, 1, (0, 0, 0, 0)) := by decide +kernel
theorem fL_law_297 : ftc 297 (me_ci mL_law) = some (297, .iconst 2, 1, (0, 0, 0, 0)) := by decide +kernel
theorem fL_law_298 : ftc 298 (me_ci mL_law) = some (298, .iadd, 1, (0, 0, 0, 0)) := by decide +kernel
theorem fL_law_299 : ftc 299 (me_ci mL_law) = some (299, .iaload, 1, (0, 0, 0, 0)) := by decide +kernel
theorem fL_law_300 : ftc 300 (me_ci mL_law) = some (300, .invokevirtual 39, 3, (109, 0, 798, 0)) := by decide +kernel
theorem fL_law_303 : ftc 303 (me_ci mL_law) = some (303, .if_icmp .eq 386, 3, (0, 0, 0, 0)) := by decide +kernel
theorem fL_law_306 : ftc 306 (me_ci mL_law) = some (306, .iconst 0, 1, (0, 0, 0, 0)) := by decide +kernel
theorem fL_law_307 : ftc 307 (me_ci mL_law) = some (307, .ireturn, 1, (0, 0, 0, 0)) := by decide +kernel
theorem fL_law_308 : ftc 308 (me_ci mL_law) = some (308, .aload_n 1, 1, (0, 0, 0, 0)) := by decide +kernel
theorem fL_law_309 : ftc 309 (me_ci mL_law) = some (309, .aload_n 0, 1, (0, 0, 0, 0)) := by decide +kernel
theorem fL_law_310 : ftc 310 (me_ci mL_law) = some (310, .iload_n 3, 1, (0, 0, 0, 0)) := by decide +kernel
theorem fL_law_311 : ftc 311 (me_ci mL_law) = some (311, .iconst 1, 1, (0, 0, 0, 0)) := by decide +kernel
theorem fL_law_312 : ftc 312 (me_ci mL_law) = some (312, .iadd, 1, (0, 0, 0, 0)) := by decide +kernel
theorem fL_law_313 : ftc 313 (me_ci mL_law) = some (313, .iaload, 1, (0, 0, 0, 0)) := by decide +kernel
theorem fL_law_314 : ftc 314 (me_ci mL_law) = some (314, .aload_n 0, 1, (0, 0, 0, 0)) := by decide +kernel
theorem fL_law_315 : ftc 315 (me_ci mL_law) = some (315, .iload_n 3, 1, (0, 0, 0, 0)) := by decide +kernel
theorem fL_law_316 : ftc 316 (me_ci mL_law) = some (316, .iconst 2, 1, (0, 0, 0, 0)) := by decide +kernel
theorem fL_law_317 : ftc 317 (me_ci mL_law) = some (317, .iadd, 1, (0, 0, 0, 0)) := by decide +kernel
theorem fL_law_318 : ftc 318 (me_ci mL_law) = some (318, .iaload, 1, (0, 0, 0, 0)) := by decide +kernel
theorem fL_law_319 : ftc 319 (me_ci mL_law) = some (319, .invokevirtual 40, 3, (67, 0, 444, 0)) := by decide +kernel
theorem fL_law_322 : ftc 322 (me_ci mL_law) = some (322, .aload_n 2, 1, (0, 0, 0, 0)) := by decide +kernel
theorem fL_law_323 : ftc 323 (me_ci mL_law) = some (323, .aload_n 0, 1, (0, 0, 0, 0)) := by decide +kernel
theorem fL_law_324 : ftc 324 (me_ci mL_law) = some (324, .iload_n 3, 1, (0, 0, 0, 0)) := by decide +kernel
theorem fL_law_325 : ftc 325 (me_ci mL_law) = some (325, .iconst 1, 1, (0, 0, 0, 0)) := by decide +kernel
theorem fL_law_326 : ftc 326 (me_ci mL_law) = some (326, .iadd, 1, (0, 0, 0, 0)) := by decide +kernel
theorem fL_law_327 : ftc 327 (me_ci mL_law) = some (327, .iaload, 1, (0, 0, 0, 0)) := by decide +kernel
theorem fL_law_328 : ftc 328 (me_ci mL_law) = some (328, .aload_n 0, 1, (0, 0, 0, 0)) := by decide +kernel
theorem fL_law_329 : ftc 329 (me_ci mL_law) = some (329, .iload_n 3, 1, (0, 0, 0, 0)) := by decide +kernel
theorem fL_law_330 : ftc 330 (me_ci mL_law) = some (330, .iconst 2, 1, (0, 0, 0, 0)) := by decide +kernel
theorem fL_law_331 : ftc 331 (me_ci mL_law) = some (331, .iadd, 1, (0, 0, 0, 0)) := by decide +kernel
theorem fL_law_332 : ftc 332 (me_ci mL_law) = some (332, .iaload, 1, (0, 0, 0, 0)) := by decide +kernel
theorem fL_law_333 : ftc 333 (me_ci mL_law) = some (333, .invokevirtual 43, 3, (110, 0, 802, 0)) := by decide +kernel
theorem fL_law_336 : ftc 336 (me_ci mL_law) = some (336, .if_icmp .eq 353, 3, (0, 0, 0, 0)) := by decide +kernel
theorem fL_law_339 : ftc 339 (me_ci mL_law) = some (339, .iconst 0, 1, (0, 0, 0, 0)) := by decide +kernel
theorem fL_law_340 : ftc 340 (me_ci mL_law) = some (340, .ireturn, 1, (0, 0, 0, 0)) := by decide +kernel
theorem fL_law_341 : ftc 341 (me_ci mL_law) = some (341, .aload_n 1, 1, (0, 0, 0, 0)) := by decide +kernel
theorem fL_law_342 : ftc 342 (me_ci mL_law) = some (342, .aload_n 0, 1, (0, 0, 0, 0)) := by decide +kernel
theorem fL_law_343 : ftc 343 (me_ci mL_law) = some (343, .iload_n 3, 1, (0, 0, 0, 0)) := by decide +kernel
theorem fL_law_344 : ftc 344 (me_ci mL_law) = some (344, .iconst 1, 1, (0, 0, 0, 0)) := by decide +kernel
theorem fL_law_345 : ftc 345 (me_ci mL_law) = some (345, .iadd, 1, (0, 0, 0, 0)) := by decide +kernel
theorem fL_law_346 : ftc 346 (me_ci mL_law) = some (346, .iaload, 1, (0, 0, 0, 0)) := by decide +kernel
theorem fL_law_347 : ftc 347 (me_ci mL_law) = some (347, .aload_n 0, 1, (0, 0, 0, 0)) := by decide +kernel
theorem fL_law_348 : ftc 348 (me_ci mL_law) = some (348, .iload_n 3, 1, (0, 0, 0, 0)) := by decide +kernel
theorem fL_law_349 : ftc 349 (me_ci mL_law) = some (349, .iconst 2, 1, (0, 0, 0, 0)) := by decide +kernel
theorem fL_law_350 : ftc 350 (me_ci mL_law) = some (350, .iadd, 1, (0, 0, 0, 0)) := by decide +kernel
theorem fL_law_351 : ftc 351 (me_ci mL_law) = some (351, .iaload, 1, (0, 0, 0, 0)) := by decide +kernel
theorem fL_law_352 : ftc 352 (me_ci mL_law) = some (352, .invokevirtual 44, 3, (68, 0, 453, 0)) := by decide +kernel
theorem fL_law_355 : ftc 355 (me_ci mL_law) = some (355, .aload_n 2, 1, (0, 0, 0, 0)) := by decide +kernel
theorem fL_law_356 : ftc 356 (me_ci mL_law) = some (356, .aload_n 0, 1, (0, 0, 0, 0)) := by decide +kernel
theorem fL_law_357 : ftc 357 (me_ci mL_law) = some (357, .iload_n 3, 1, (0, 0, 0, 0)) := by decide +kernel
theorem fL_law_358 : ftc 358 (me_ci mL_law) = some (358, .iconst 1, 1, (0, 0, 0, 0)) := by decide +kernel
theorem fL_law_359 : ftc 359 (me_ci mL_law) = some (359, .iadd, 1, (0, 0, 0, 0)) := by decide +kernel
theorem fL_law_360 : ftc 360 (me_ci mL_law) = some (360, .iaload, 1, (0, 0, 0, 0)) := by decide +kernel
theorem fL_law_361 : ftc 361 (me_ci mL_law) = some (361, .aload_n 0, 1, (0, 0, 0, 0)) := by decide +kernel
theorem fL_law_362 : ftc 362 (me_ci mL_law) = some (362, .iload_n 3, 1, (0, 0, 0, 0)) := by decide +kernel
theorem fL_law_363 : ftc 363 (me_ci mL_law) = some (363, .iconst 2, 1, (0, 0, 0, 0)) := by decide +kernel
theorem fL_law_364 : ftc 364 (me_ci mL_law) = some (364, .iadd, 1, (0, 0, 0, 0)) := by decide +kernel
theorem fL_law_365 : ftc 365 (me_ci mL_law) = some (365, .iaload, 1, (0, 0, 0, 0)) := by decide +kernel
theorem fL_law_366 : ftc 366 (me_ci mL_law) = some (366, .invokevirtual 47, 3, (111, 0, 807, 0)) := by decide +kernel
theorem fL_law_369 : ftc 369 (me_ci mL_law) = some (369, .if_icmp .eq 320, 3, (0, 0, 0, 0)) := by decide +kernel
theorem fL_law_372 : ftc 372 (me_ci mL_law) = some (372, .iconst 0, 1, (0, 0, 0, 0)) := by decide +kernel
theorem fL_law_373 : ftc 373 (me_ci mL_law) = some (373, .ireturn, 1, (0, 0, 0, 0)) := by decide +kernel
theorem fL_law_374 : ftc 374 (me_ci mL_law) = some (374, .aload_n 1, 1, (0, 0, 0, 0)) := by decide +kernel
theorem fL_law_375 : ftc 375 (me_ci mL_law) = some (375, .aload_n 0, 1, (0, 0, 0, 0)) := by decide +kernel
theorem fL_law_376 : ftc 376 (me_ci mL_law) = some (376, .iload_n 3, 1, (0, 0, 0, 0)) := by decide +kernel
theorem fL_law_377 : ftc 377 (me_ci mL_law) = some (377, .iconst 1, 1, (0, 0, 0, 0)) := by decide +kernel
theorem fL_law_378 : ftc 378 (me_ci mL_law) = some (378, .iadd, 1, (0, 0, 0, 0)) := by decide +kernel
theorem fL_law_379 : ftc 379 (me_ci mL_law) = some (379, .iaload, 1, (0, 0, 0, 0)) := by decide +kernel
theorem fL_law_380 : ftc 380 (me_ci mL_law) = some (380, .aload_n 0, 1, (0, 0, 0, 0)) := by decide +kernel
theorem fL_law_381 : ftc 381 (me_ci mL_law) = some (381, .iload_n 3, 1, (0, 0, 0, 0)) := by decide +kernel
theorem fL_law_382 : ftc 382 (me_ci mL_law) = some (382, .iconst 2, 1, (0, 0, 0, 0)) := by decide +kernel
theorem fL_law_383 : ftc 383 (me_ci mL_law) = some (383, .iadd, 1, (0, 0, 0, 0)) := by decide +kernel
theorem fL_law_384 : ftc 384 (me_ci mL_law) = some (384, .iaload, 1, (0, 0, 0, 0)) := by decide +kernel
theorem fL_law_385 : ftc 385 (me_ci mL_law) = some (385, .invokevirtual 48, 3, (69, 0, 466, 0)) := by decide +kernel
theorem fL_law_388 : ftc 388 (me_ci mL_law) = some (388, .aload_n 2, 1, (0, 0, 0, 0)) := by decide +kernel
theorem fL_law_389 : ftc 389 (me_ci mL_law) = some (389, .aload_n 0, 1, (0, 0, 0, 0)) := by decide +kernel
theorem fL_law_390 : ftc 390 (me_ci mL_law) = some (390, .iload_n 3, 1, (0, 0, 0, 0)) := by decide +kernel
theorem fL_law_391 : ftc 391 (me_ci mL_law) = some (391, .iconst 1, 1, (0, 0, 0, 0)) := by decide +kernel
theorem fL_law_392 : ftc 392 (me_ci mL_law) = some (392, .iadd, 1, (0, 0, 0, 0)) := by decide +kernel
theorem fL_law_393 : ftc 393 (me_ci mL_law) = some (393, .iaload, 1, (0, 0, 0, 0)) := by decide +kernel
theorem fL_law_394 : ftc 394 (me_ci mL_law) = some (394, .aload_n 0, 1, (0, 0, 0, 0)) := by decide +kernel
theorem fL_law_395 : ftc 395 (me_ci mL_law) = some (395, .iload_n 3, 1, (0, 0, 0, 0)) := by decide +kernel
theorem fL_law_396 : ftc 396 (me_ci mL_law) = some (396, .iconst 2, 1, (0, 0, 0, 0)) := by decide +kernel
theorem fL_law_397 : ftc 397 (me_ci mL_law) = some (397, .iadd, 1, (0, 0, 0, 0)) := by decide +kernel
theorem fL_law_398 : ftc 398 (me_ci mL_law) = some (398, .iaload, 1, (0, 0, 0, 0)) := by decide +kernel
theorem fL_law_399 : ftc 399 (me_ci mL_law) = some (399, .invokevirtual 51, 3, (112, 0, 811, 0)) := by decide +kernel
theorem fL_law_402 : ftc 402 (me_ci mL_law) = some (402, .if_icmp .eq 287, 3, (0, 0, 0, 0)) := by decide +kernel
theorem fL_law_405 : ftc 405 (me_ci mL_law) = some (405, .iconst 0, 1, (0, 0, 0, 0)) := by decide +kernel
theorem fL_law_406 : ftc 406 (me_ci mL_law) = some (406, .ireturn, 1, (0, 0, 0, 0)) := by decide +kernel
theorem fL_law_407 : ftc 407 (me_ci mL_law) = some (407, .aload_n 1, 1, (0, 0, 0, 0)) := by decide +kernel
theorem fL_law_408 : ftc 408 (me_ci mL_law) = some (408, .aload_n 0, 1, (0, 0, 0, 0)) := by decide +kernel
theorem fL_law_409 : ftc 409 (me_ci mL_law) = some (409, .iload_n 3, 1, (0, 0, 0, 0)) := by decide +kernel
theorem fL_law_410 : ftc 410 (me_ci mL_law) = some (410, .iconst 1, 1, (0, 0, 0, 0)) := by decide +kernel
theorem fL_law_411 : ftc 411 (me_ci mL_law) = some (411, .iadd, 1, (0, 0, 0, 0)) := by decide +kernel
theorem fL_law_412 : ftc 412 (me_ci mL_law) = some (412, .iaload, 1, (0, 0, 0, 0)) := by decide +kernel
theorem fL_law_413 : ftc 413 (me_ci mL_law) = some (413, .invokevirtual 52, 3, (70, 0, 476, 0)) := by decide +kernel
theorem fL_law_416 : ftc 416 (me_ci mL_law) = some (416, .aload_n 2, 1, (0, 0, 0, 0)) := by decide +kernel
theorem fL_law_417 : ftc 417 (me_ci mL_law) = some (417, .aload_n 0, 1, (0, 0, 0, 0)) := by decide +kernel
theorem fL_law_418 : ftc 418 (me_ci mL_law) = some (418, .iload_n 3, 1, (0, 0, 0, 0)) := by decide +kernel
theorem fL_law_419 : ftc 419 (me_ci mL_law) = some (419, .iconst 1, 1, (0, 0, 0, 0)) := by decide +kernel
theorem fL_law_420 : ftc 420 (me_ci mL_law) = some (420, .iadd, 1, (0, 0, 0, 0)) := by decide +kernel
theorem fL_law_421 : ftc 421 (me_ci mL_law) = some (421, .iaload, 1, (0, 0, 0, 0)) := by decide +kernel
theorem fL_law_422 : ftc 422 (me_ci mL_law) = some (422, .invokevirtual 55, 3, (114, 0, 815, 0)) := by decide +kernel
theorem fL_law_425 : ftc 425 (me_ci mL_law) = some (425, .if_icmp .eq 264, 3, (0, 0, 0, 0)) := by decide +kernel
theorem fL_law_428 : ftc 428 (me_ci mL_law) = some (428, .iconst 0, 1, (0, 0, 0, 0)) := by decide +kernel
theorem fL_law_429 : ftc 429 (me_ci mL_law) = some (429, .ireturn, 1, (0, 0, 0, 0)) := by decide +kernel
theorem fL_law_430 : ftc 430 (me_ci mL_law) = some (430, .aload_n 1, 1, (0, 0, 0, 0)) := by decide +kernel
theorem fL_law_431 : ftc 431 (me_ci mL_law) = some (431, .invokevirtual 56, 3, (71, 0, 484, 0)) := by decide +kernel
theorem fL_law_434 : ftc 434 (me_ci mL_law) = some (434, .aload_n 2, 1, (0, 0, 0, 0)) := by decide +kernel
theorem fL_law_435 : ftc 435 (me_ci mL_law) = some (435, .invokevirtual 59, 3, (115, 0, 823, 0)) := by decide +kernel
theorem fL_law_438 : ftc 438 (me_ci mL_law) = some (438, .if_icmp .eq 251, 3, (0, 0, 0, 0)) := by decide +kernel
theorem fL_law_441 : ftc 441 (me_ci mL_law) = some (441, .iconst 0, 1, (0, 0, 0, 0)) := by decide +kernel
theorem fL_law_442 : ftc 442 (me_ci mL_law) = some (442, .ireturn, 1, (0, 0, 0, 0)) := by decide +kernel
theorem fL_law_443 : ftc 443 (me_ci mL_law) = some (443, .aload_n 1, 1, (0, 0, 0, 0)) := by decide +kernel
theorem fL_law_444 : ftc 444 (me_ci mL_law) = some (444, .aload_n 0, 1, (0, 0, 0, 0)) := by decide +kernel
theorem fL_law_445 : ftc 445 (me_ci mL_law) = some (445, .iload_n 3, 1, (0, 0, 0, 0)) := by decide +kernel
theorem fL_law_446 : ftc 446 (me_ci mL_law) = some (446, .iconst 1, 1, (0, 0, 0, 0)) := by decide +kernel
theorem fL_law_447 : ftc 447 (me_ci mL_law) = some (447, .iadd, 1, (0, 0, 0, 0)) := by decide +kernel
theorem fL_law_448 : ftc 448 (me_ci mL_law) = some (448, .iaload, 1, (0, 0, 0, 0)) := by decide +kernel
theorem fL_law_449 : ftc 449 (me_ci mL_law) = some (449, .invokevirtual 60, 3, (72, 0, 492, 0)) := by decide +kernel
theorem fL_law_452 : ftc 452 (me_ci mL_law) = some (452, .aload_n 2, 1, (0, 0, 0, 0)) := by decide +kernel
theorem fL_law_453 : ftc 453 (me_ci mL_law) = some (453, .aload_n 0, 1, (0, 0, 0, 0)) := by decide +kernel
theorem fL_law_454 : ftc 454 (me_ci mL_law) = some (454, .iload_n 3, 1, (0, 0, 0, 0)) := by decide +kernel
theorem fL_law_455 : ftc 455 (me_ci mL_law) = some (455, .iconst 1, 1, (0, 0, 0, 0)) := by decide +kernel
theorem fL_law_456 : ftc 456 (me_ci mL_law) = some (456, .iadd, 1, (0, 0, 0, 0)) := by decide +kernel
theorem fL_law_457 : ftc 457 (me_ci mL_law) = some (457, .iaload, 1, (0, 0, 0, 0)) := by decide +kernel
theorem fL_law_458 : ftc 458 (me_ci mL_law) = some (458, .invokevirtual 63, 3, (116, 0, 827, 0)) := by decide +kernel
theorem fL_law_461 : ftc 461 (me_ci mL_law) = some (461, .if_icmp .eq 228, 3, (0, 0, 0, 0)) := by decide +kernel
theorem fL_law_464 : ftc 464 (me_ci mL_law) = some (464, .iconst 0, 1, (0, 0, 0, 0)) := by decide +kernel
theorem fL_law_465 : ftc 465 (me_ci mL_law) = some (465, .ireturn, 1, (0, 0, 0, 0)) := by decide +kernel
theorem fL_law_466 : ftc 466 (me_ci mL_law) = some (466, .aload_n 1, 1, (0, 0, 0, 0)) := by decide +kernel
theorem fL_law_467 : ftc 467 (me_ci mL_law) = some (467, .aload_n 0, 1, (0, 0, 0, 0)) := by decide +kernel
theorem fL_law_468 : ftc 468 (me_ci mL_law) = some (468, .iload_n 3, 1, (0, 0, 0, 0)) := by decide +kernel
theorem fL_law_469 : ftc 469 (me_ci mL_law) = some (469, .iconst 1, 1, (0, 0, 0, 0)) := by decide +kernel
theorem fL_law_470 : ftc 470 (me_ci mL_law) = some (470, .iadd, 1, (0, 0, 0, 0)) := by decide +kernel
theorem fL_law_471 : ftc 471 (me_ci mL_law) = some (471, .iaload, 1, (0, 0, 0, 0)) := by decide +kernel
theorem fL_law_472 : ftc 472 (me_ci mL_law) = some (472, .invokevirtual 64, 3, (73, 0, 507, 0)) := by decide +kernel
theorem fL_law_475 : ftc 475 (me_ci mL_law) = some (475, .aload_n 2, 1, (0, 0, 0, 0)) := by decide +kernel
theorem fL_law_476 : ftc 476 (me_ci mL_law) = some (476, .aload_n 0, 1, (0, 0, 0, 0)) := by decide +kernel
theorem fL_law_477 : ftc 477 (me_ci mL_law) = some (477, .iload_n 3, 1, (0, 0, 0, 0)) := by decide +kernel
theorem fL_law_478 : ftc 478 (me_ci mL_law) = some (478, .iconst 1, 1, (0, 0, 0, 0)) := by decide +kernel
theorem fL_law_479 : ftc 479 (me_ci mL_law) = some (479, .iadd, 1, (0, 0, 0, 0)) := by decide +kernel
theorem fL_law_480 : ftc 480 (me_ci mL_law) = some (480, .iaload, 1, (0, 0, 0, 0)) := by decide +kernel
theorem fL_law_481 : ftc 481 (me_ci mL_law) = some (481, .invokevirtual 67, 3, (117, 0, 831, 0)) := by decide +kernel
theorem fL_law_484 : ftc 484 (me_ci mL_law) = some (484, .if_icmp .eq 205, 3, (0, 0, 0, 0)) := by decide +kernel
theorem fL_law_487 : ftc 487 (me_ci mL_law) = some (487, .iconst 0, 1, (0, 0, 0, 0)) := by decide +kernel
theorem fL_law_488 : ftc 488 (me_ci mL_law) = some (488, .ireturn, 1, (0, 0, 0, 0)) := by decide +kernel
theorem fL_law_489 : ftc 489 (me_ci mL_law) = some (489, .aload_n 1, 1, (0, 0, 0, 0)) := by decide +kernel
theorem fL_law_490 : ftc 490 (me_ci mL_law) = some (490, .aload_n 0, 1, (0, 0, 0, 0)) := by decide +kernel
theorem fL_law_491 : ftc 491 (me_ci mL_law) = some (491, .iload_n 3, 1, (0, 0, 0, 0)) := by decide +kernel
theorem fL_law_492 : ftc 492 (me_ci mL_law) = some (492, .iconst 1, 1, (0, 0, 0, 0)) := by decide +kernel
theorem fL_law_493 : ftc 493 (me_ci mL_law) = some (493, .iadd, 1, (0, 0, 0, 0)) := by decide +kernel
theorem fL_law_494 : ftc 494 (me_ci mL_law) = some (494, .iaload, 1, (0, 0, 0, 0)) := by decide +kernel
theorem fL_law_495 : ftc 495 (me_ci mL_law) = some (495, .aload_n 0, 1, (0, 0, 0, 0)) := by decide +kernel
theorem fL_law_496 : ftc 496 (me_ci mL_law) = some (496, .iload_n 3, 1, (0, 0, 0, 0)) := by decide +kernel
theorem fL_law_497 : ftc 497 (me_ci mL_law) = some (497, .iconst 2, 1, (0, 0, 0, 0)) := by decide +kernel
theorem fL_law_498 : ftc 498 (me_ci mL_law) = some (498, .iadd, 1, (0, 0, 0, 0)) := by decide +kernel
theorem fL_law_499 : ftc 499 (me_ci mL_law) = some (499, .iaload, 1, (0, 0, 0, 0)) := by decide +kernel
theorem fL_law_500 : ftc 500 (me_ci mL_law) = some (500, .invokevirtual 68, 3, (74, 0, 524, 0)) := by decide +kernel
theorem fL_law_503 : ftc 503 (me_ci mL_law) = some (503, .aload_n 2, 1, (0, 0, 0, 0)) := by decide +kernel
theorem fL_law_504 : ftc 504 (me_ci mL_law) = some (504, .aload_n 0, 1, (0, 0, 0, 0)) := by decide +kernel
theorem fL_law_505 : ftc 505 (me_ci mL_law) = some (505, .iload_n 3, 1, (0, 0, 0, 0)) := by decide +kernel
theorem fL_law_506 : ftc 506 (me_ci mL_law) = some (506, .iconst 1, 1, (0, 0, 0, 0)) := by decide +kernel
theorem fL_law_507 : ftc 507 (me_ci mL_law) = some (507, .iadd, 1, (0, 0, 0, 0)) := by decide +kernel
theorem fL_law_508 : ftc 508 (me_ci mL_law) = some (508, .iaload, 1, (0, 0, 0, 0)) := by decide +kernel
theorem fL_law_509 : ftc 509 (me_ci mL_law) = some (509, .aload_n 0, 1, (0, 0, 0, 0)) := by decide +kernel
theorem fL_law_510 : ftc 510 (me_ci mL_law) = some (510, .iload_n 3, 1, (0, 0, 0, 0)) := by decide +kernel
theorem fL_law_511 : ftc 511 (me_ci mL_law) = some (511, .iconst 2, 1, (0, 0, 0, 0)) := by decide +kernel
theorem fL_law_512 : ftc 512 (me_ci mL_law) = some (512, .iadd, 1, (0, 0, 0, 0)) := by decide +kernel
theorem fL_law_513 : ftc 513 (me_ci mL_law) = some (513, .iaload, 1, (0, 0, 0, 0)) := by decide +kernel
theorem fL_law_514 : ftc 514 (me_ci mL_law) = some (514, .invokevirtual 71, 3, (122, 0, 838, 0)) := by decide +kernel
theorem fL_law_517 : ftc 517 (me_ci mL_law) = some (517, .if_icmp .eq 172, 3, (0, 0, 0, 0)) := by decide +kernel
theorem fL_law_520 : ftc 520 (me_ci mL_law) = some (520, .iconst 0, 1, (0, 0, 0, 0)) := by decide +kernel
theorem fL_law_521 : ftc 521 (me_ci mL_law) = some (521, .ireturn, 1, (0, 0, 0, 0)) := by decide +kernel
theorem fL_law_522 : ftc 522 (me_ci mL_law) = some (522, .aload_n 1, 1, (0, 0, 0, 0)) := by decide +kernel
theorem fL_law_523 : ftc 523 (me_ci mL_law) = some (523, .aload_n 0, 1, (0, 0, 0, 0)) := by decide +kernel
theorem fL_law_524 : ftc 524 (me_ci mL_law) = some (524, .iload_n 3, 1, (0, 0, 0, 0)) := by decide +kernel
theorem fL_law_525 : ftc 525 (me_ci mL_law) = some (525, .iconst 1, 1, (0, 0, 0, 0)) := by decide +kernel
theorem fL_law_526 : ftc 526 (me_ci mL_law) = some (526, .iadd, 1, (0, 0, 0, 0)) := by decide +kernel
theorem fL_law_527 : ftc 527 (me_ci mL_law) = some (527, .iaload, 1, (0, 0, 0, 0)) := by decide +kernel
theorem fL_law_528 : ftc 528 (me_ci mL_law) = some (528, .aload_n 0, 1, (0, 0, 0, 0)) := by decide +kernel
theorem fL_law_529 : ftc 529 (me_ci mL_law) = some (529, .iload_n 3, 1, (0, 0, 0, 0)) := by decide +kernel
theorem fL_law_530 : ftc 530 (me_ci mL_law) = some (530, .iconst 2, 1, (0, 0, 0, 0)) := by decide +kernel
theorem fL_law_531 : ftc 531 (me_ci mL_law) = some (531, .iadd, 1, (0, 0, 0, 0)) := by decide +kernel
theorem fL_law_532 : ftc 532 (me_ci mL_law) = some (532, .iaload, 1, (0, 0, 0, 0)) := by decide +kernel
theorem fL_law_533 : ftc 533 (me_ci mL_law) = some (533, .invokevirtual 72, 3, (75, 0, 549, 0)) := by decide +kernel
theorem fL_law_536 : ftc 536 (me_ci mL_law) = some (536, .aload_n 2, 1, (0, 0, 0, 0)) := by decide +kernel
theorem fL_law_537 : ftc 537 (me_ci mL_law) = some (537, .aload_n 0, 1, (0, 0, 0, 0)) := by decide +kernel
theorem fL_law_538 : ftc 538 (me_ci mL_law) = some (538, .iload_n 3, 1, (0, 0, 0, 0)) := by decide +kernel
theorem fL_law_539 : ftc 539 (me_ci mL_law) = some (539, .iconst 1, 1, (0, 0, 0, 0)) := by decide +kernel
theorem fL_law_540 : ftc 540 (me_ci mL_law) = some (540, .iadd, 1, (0, 0, 0, 0)) := by decide +kernel
theorem fL_law_541 : ftc 541 (me_ci mL_law) = some (541, .iaload, 1, (0, 0, 0, 0)) := by decide +kernel
theorem fL_law_542 : ftc 542 (me_ci mL_law) = some (542, .aload_n 0, 1, (0, 0, 0, 0)) := by decide +kernel
theorem fL_law_543 : ftc 543 (me_ci mL_law) = some (543, .iload_n 3, 1, (0, 0, 0, 0)) := by decide +kernel
theorem fL_law_544 : ftc 544 (me_ci mL_law) = some (544, .iconst 2, 1, (0, 0, 0, 0)) := by decide +kernel
theorem fL_law_545 : ftc 545 (me_ci mL_law) = some (545, .iadd, 1, (0, 0, 0, 0)) := by decide +kernel
theorem fL_law_546 : ftc 546 (me_ci mL_law) = some (546, .iaload, 1, (0, 0, 0, 0)) := by decide +kernel
theorem fL_law_547 : ftc 547 (me_ci mL_law) = some (547, .invokevirtual 75, 3, (123, 0, 858, 0)) := by decide +kernel
theorem fL_law_550 : ftc 550 (me_ci mL_law) = some (550, .if_icmp .eq 139, 3, (0, 0, 0, 0)) := by decide +kernel
theorem fL_law_553 : ftc 553 (me_ci mL_law) = some (553, .iconst 0, 1, (0, 0, 0, 0)) := by decide +kernel
theorem fL_law_554 : ftc 554 (me_ci mL_law) = some (554, .ireturn, 1, (0, 0, 0, 0)) := by decide +kernel
theorem fL_law_555 : ftc 555 (me_ci mL_law) = some (555, .aload_n 1, 1, (0, 0, 0, 0)) := by decide +kernel
theorem fL_law_556 : ftc 556 (me_ci mL_law) = some (556, .aload_n 0, 1, (0, 0, 0, 0)) := by decide +kernel
theorem fL_law_557 : ftc 557 (me_ci mL_law) = some (557, .iload_n 3, 1, (0, 0, 0, 0)) := by decide +kernel
theorem fL_law_558 : ftc 558 (me_ci mL_law) = some (558, .iconst 1, 1, (0, 0, 0, 0)) := by decide +kernel
theorem fL_law_559 : ftc 559 (me_ci mL_law) = some (559, .iadd, 1, (0, 0, 0, 0)) := by decide +kernel
theorem fL_law_560 : ftc 560 (me_ci mL_law) = some (560, .iaload, 1, (0, 0, 0, 0)) := by decide +kernel
theorem fL_law_561 : ftc 561 (me_ci mL_law) = some (561, .invokevirtual 76, 3, (76, 0, 554, 0)) := by decide +kernel
theorem fL_law_564 : ftc 564 (me_ci mL_law) = some (564, .aload_n 2, 1, (0, 0, 0, 0)) := by decide +kernel
theorem fL_law_565 : ftc 565 (me_ci mL_law) = some (565, .aload_n 0, 1, (0, 0, 0, 0)) := by decide +kernel
theorem fL_law_566 : ftc 566 (me_ci mL_law) = some (566, .iload_n 3, 1, (0, 0, 0, 0)) := by decide +kernel
theorem fL_law_567 : ftc 567 (me_ci mL_law) = some (567, .iconst 1, 1, (0, 0, 0, 0)) := by decide +kernel
theorem fL_law_568 : ftc 568 (me_ci mL_law) = some (568, .iadd, 1, (0, 0, 0, 0)) := by decide +kernel
theorem fL_law_569 : ftc 569 (me_ci mL_law) = some (569, .iaload, 1, (0, 0, 0, 0)) := by decide +kernel
theorem fL_law_570 : ftc 570 (me_ci mL_law) = some (570, .invokevirtual 79, 3, (124, 0, 862, 0)) := by decide +kernel
theorem fL_law_573 : ftc 573 (me_ci mL_law) = some (573, .if_icmp .eq 116, 3, (0, 0, 0, 0)) := by decide +kernel
theorem fL_law_576 : ftc 576 (me_ci mL_law) = some (576, .iconst 0, 1, (0, 0, 0, 0)) := by decide +kernel
theorem fL_law_577 : ftc 577 (me_ci mL_law) = some (577, .ireturn, 1, (0, 0, 0, 0)) := by decide +kernel
theorem fL_law_578 : ftc 578 (me_ci mL_law) = some (578, .aload_n 1, 1, (0, 0, 0, 0)) := by decide +kernel
theorem fL_law_579 : ftc 579 (me_ci mL_law) = some (579, .invokevirtual 80, 3, (77, 0, 562, 0)) := by decide +kernel
theorem fL_law_582 : ftc 582 (me_ci mL_law) = some (582, .aload_n 2, 1, (0, 0, 0, 0)) := by decide +kernel
theorem fL_law_583 : ftc 583 (me_ci mL_law) = some (583, .invokevirtual 83, 3, (125, 0, 866, 0)) := by decide +kernel
theorem fL_law_586 : ftc 586 (me_ci mL_law) = some (586, .if_icmp .eq 103, 3, (0, 0, 0, 0)) := by decide +kernel
theorem fL_law_589 : ftc 589 (me_ci mL_law) = some (589, .iconst 0, 1, (0, 0, 0, 0)) := by decide +kernel
theorem fL_law_590 : ftc 590 (me_ci mL_law) = some (590, .ireturn, 1, (0, 0, 0, 0)) := by decide +kernel
theorem fL_law_591 : ftc 591 (me_ci mL_law) = some (591, .aload_n 1, 1, (0, 0, 0, 0)) := by decide +kernel
theorem fL_law_592 : ftc 592 (me_ci mL_law) = some (592, .invokevirtual 84, 3, (78, 0, 566, 0)) := by decide +kernel
theorem fL_law_595 : ftc 595 (me_ci mL_law) = some (595, .aload_n 2, 1, (0, 0, 0, 0)) := by decide +kernel
theorem fL_law_596 : ftc 596 (me_ci mL_law) = some (596, .invokevirtual 87, 3, (126, 0, 870, 0)) := by decide +kernel
theorem fL_law_599 : ftc 599 (me_ci mL_law) = some (599, .if_icmp .eq 90, 3, (0, 0, 0, 0)) := by decide +kernel
theorem fL_law_602 : ftc 602 (me_ci mL_law) = some (602, .iconst 0, 1, (0, 0, 0, 0)) := by decide +kernel
theorem fL_law_603 : ftc 603 (me_ci mL_law) = some (603, .ireturn, 1, (0, 0, 0, 0)) := by decide +kernel
theorem fL_law_604 : ftc 604 (me_ci mL_law) = some (604, .aload_n 1, 1, (0, 0, 0, 0)) := by decide +kernel
theorem fL_law_605 : ftc 605 (me_ci mL_law) = some (605, .invokevirtual 88, 3, (79, 0, 570, 0)) := by decide +kernel
theorem fL_law_608 : ftc 608 (me_ci mL_law) = some (608, .aload_n 2, 1, (0, 0, 0, 0)) := by decide +kernel
theorem fL_law_609 : ftc 609 (me_ci mL_law) = some (609, .invokevirtual 91, 3, (127, 0, 874, 0)) := by decide +kernel
theorem fL_law_612 : ftc 612 (me_ci mL_law) = some (612, .if_icmp .eq 77, 3, (0, 0, 0, 0)) := by decide +kernel
theorem fL_law_615 : ftc 615 (me_ci mL_law) = some (615, .iconst 0, 1, (0, 0, 0, 0)) := by decide +kernel
theorem fL_law_616 : ftc 616 (me_ci mL_law) = some (616, .ireturn, 1, (0, 0, 0, 0)) := by decide +kernel
theorem fL_law_617 : ftc 617 (me_ci mL_law) = some (617, .aload_n 1, 1, (0, 0, 0, 0)) := by decide +kernel
theorem fL_law_618 : ftc 618 (me_ci mL_law) = some (618, .aload_n 0, 1, (0, 0, 0, 0)) := by decide +kernel
theorem fL_law_619 : ftc 619 (me_ci mL_law) = some (619, .iload_n 3, 1, (0, 0, 0, 0)) := by decide +kernel
theorem fL_law_620 : ftc 620 (me_ci mL_law) = some (620, .iconst 1, 1, (0, 0, 0, 0)) := by decide +kernel
theorem fL_law_621 : ftc 621 (me_ci mL_law) = some (621, .iadd, 1, (0, 0, 0, 0)) := by decide +kernel
theorem fL_law_622 : ftc 622 (me_ci mL_law) = some (622, .iaload, 1, (0, 0, 0, 0)) := by decide +kernel
theorem fL_law_623 : ftc 623 (me_ci mL_law) = some (623, .invokevirtual 92, 3, (80, 0, 578, 0)) := by decide +kernel
theorem fL_law_626 : ftc 626 (me_ci mL_law) = some (626, .aload_n 2, 1, (0, 0, 0, 0)) := by decide +kernel
theorem fL_law_627 : ftc 627 (me_ci mL_law) = some (627, .aload_n 0, 1, (0, 0, 0, 0)) := by decide +kernel
theorem fL_law_628 : ftc 628 (me_ci mL_law) = some (628, .iload_n 3, 1, (0, 0, 0, 0)) := by decide +kernel
theorem fL_law_629 : ftc 629 (me_ci mL_law) = some (629, .iconst 1, 1, (0, 0, 0, 0)) := by decide +kernel
theorem fL_law_630 : ftc 630 (me_ci mL_law) = some (630, .iadd, 1, (0, 0, 0, 0)) := by decide +kernel
theorem fL_law_631 : ftc 631 (me_ci mL_law) = some (631, .iaload, 1, (0, 0, 0, 0)) := by decide +kernel
theorem fL_law_632 : ftc 632 (me_ci mL_law) = some (632, .invokevirtual 95, 3, (128, 0, 878, 0)) := by decide +kernel
theorem fL_law_635 : ftc 635 (me_ci mL_law) = some (635, .if_icmp .eq 54, 3, (0, 0, 0, 0)) := by decide +kernel
theorem fL_law_638 : ftc 638 (me_ci mL_law) = some (638, .iconst 0, 1, (0, 0, 0, 0)) := by decide +kernel
theorem fL_law_639 : ftc 639 (me_ci mL_law) = some (639, .ireturn, 1, (0, 0, 0, 0)) := by decide +kernel
theorem fL_law_640 : ftc 640 (me_ci mL_law) = some (640, .aload_n 1, 1, (0, 0, 0, 0)) := by decide +kernel
theorem fL_law_641 : ftc 641 (me_ci mL_law) = some (641, .invokevirtual 96, 3, (81, 0, 587, 0)) := by decide +kernel
theorem fL_law_644 : ftc 644 (me_ci mL_law) = some (644, .aload_n 2, 1, (0, 0, 0, 0)) := by decide +kernel
theorem fL_law_645 : ftc 645 (me_ci mL_law) = some (645, .invokevirtual 99, 3, (129, 0, 882, 0)) := by decide +kernel
theorem fL_law_648 : ftc 648 (me_ci mL_law) = some (648, .if_icmp .eq 41, 3, (0, 0, 0, 0)) := by decide +kernel
theorem fL_law_651 : ftc 651 (me_ci mL_law) = some (651, .iconst 0, 1, (0, 0, 0, 0)) := by decide +kernel
theorem fL_law_652 : ftc 652 (me_ci mL_law) = some (652, .ireturn, 1, (0, 0, 0, 0)) := by decide +kernel
theorem fL_law_653 : ftc 653 (me_ci mL_law) = some (653, .aload_n 1, 1, (0, 0, 0, 0)) := by decide +kernel
theorem fL_law_654 : ftc 654 (me_ci mL_law) = some (654, .aload_n 0, 1, (0, 0, 0, 0)) := by decide +kernel
theorem fL_law_655 : ftc 655 (me_ci mL_law) = some (655, .iload_n 3, 1, (0, 0, 0, 0)) := by decide +kernel
theorem fL_law_656 : ftc 656 (me_ci mL_law) = some (656, .iconst 1, 1, (0, 0, 0, 0)) := by decide +kernel
theorem fL_law_657 : ftc 657 (me_ci mL_law) = some (657, .iadd, 1, (0, 0, 0, 0)) := by decide +kernel
theorem fL_law_658 : ftc 658 (me_ci mL_law) = some (658, .iaload, 1, (0, 0, 0, 0)) := by decide +kernel
theorem fL_law_659 : ftc 659 (me_ci mL_law) = some (659, .invokevirtual 100, 3, (82, 0, 591, 0)) := by decide +kernel
theorem fL_law_662 : ftc 662 (me_ci mL_law) = some (662, .aload_n 2, 1, (0, 0, 0, 0)) := by decide +kernel
theorem fL_law_663 : ftc 663 (me_ci mL_law) = some (663, .aload_n 0, 1, (0, 0, 0, 0)) := by decide +kernel
theorem fL_law_664 : ftc 664 (me_ci mL_law) = some (664, .iload_n 3, 1, (0, 0, 0, 0)) := by decide +kernel
theorem fL_law_665 : ftc 665 (me_ci mL_law) = some (665, .iconst 1, 1, (0, 0, 0, 0)) := by decide +kernel
theorem fL_law_666 : ftc 666 (me_ci mL_law) = some (666, .iadd, 1, (0, 0, 0, 0)) := by decide +kernel
theorem fL_law_667 : ftc 667 (me_ci mL_law) = some (667, .iaload, 1, (0, 0, 0, 0)) := by decide +kernel
theorem fL_law_668 : ftc 668 (me_ci mL_law) = some (668, .invokevirtual 103, 3, (136, 0, 886, 0)) := by decide +kernel
theorem fL_law_671 : ftc 671 (me_ci mL_law) = some (671, .if_icmp .eq 18, 3, (0, 0, 0, 0)) := by decide +kernel
theorem fL_law_674 : ftc 674 (me_ci mL_law) = some (674, .iconst 0, 1, (0, 0, 0, 0)) := by decide +kernel
theorem fL_law_675 : ftc 675 (me_ci mL_law) = some (675, .ireturn, 1, (0, 0, 0, 0)) := by decide +kernel
theorem fL_law_676 : ftc 676 (me_ci mL_law) = some (676, .aload_n 1, 1, (0, 0, 0, 0)) := by decide +kernel
theorem fL_law_677 : ftc 677 (me_ci mL_law) = some (677, .invokevirtual 104, 3, (83, 0, 640, 0)) := by decide +kernel
theorem fL_law_680 : ftc 680 (me_ci mL_law) = some (680, .aload_n 2, 1, (0, 0, 0, 0)) := by decide +kernel
theorem fL_law_681 : ftc 681 (me_ci mL_law) = some (681, .invokevirtual 107, 3, (137, 0, 917, 0)) := by decide +kernel
theorem fL_law_684 : ftc 684 (me_ci mL_law) = some (684, .if_icmp .eq 5, 3, (0, 0, 0, 0)) := by decide +kernel
theorem fL_law_687 : ftc 687 (me_ci mL_law) = some (687, .iconst 0, 1, (0, 0, 0, 0)) := by decide +kernel
theorem fL_law_688 : ftc 688 (me_ci mL_law) = some (688, .ireturn, 1, (0, 0, 0, 0)) := by decide +kernel
theorem fL_law_689 : ftc 689 (me_ci mL_law) = some (689, .iinc 3 3, 3, (0, 0, 0, 0)) := by decide +kernel
theorem fL_law_692 : ftc 692 (me_ci mL_law) = some (692, .goto (-674), 3, (0, 0, 0, 0)) := by decide +kernel
theorem fL_law_695 : ftc 695 (me_ci mL_law) = some (695, .iconst 1, 1, (0, 0, 0, 0)) := by decide +kernel
theorem fL_law_696 : ftc 696 (me_ci mL_law) = some (696, .ireturn, 1, (0, 0, 0, 0)) := by decide +kernel
