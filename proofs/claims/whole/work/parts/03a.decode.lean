theorem dX0_init_0 : decode cX0_init 0 = .ok (.aload_n 0, 1) := by decide +kernel
theorem dX0_init_1 : decode cX0_init 1 = .ok (.invokespecial 3, 3) := by decide +kernel
theorem dX0_init_4 : decode cX0_init 4 = .ok (.aload_n 0, 1) := by decide +kernel
theorem dX0_init_5 : decode cX0_init 5 = .ok (.bipush 8, 2) := by decide +kernel
theorem dX0_init_7 : decode cX0_init 7 = .ok (.newarray .int, 2) := by decide +kernel
theorem dX0_init_9 : decode cX0_init 9 = .ok (.putfield 9, 3) := by decide +kernel
theorem dX0_init_12 : decode cX0_init 12 = .ok (.aload_n 0, 1) := by decide +kernel
theorem dX0_init_13 : decode cX0_init 13 = .ok (.bipush 8, 2) := by decide +kernel
theorem dX0_init_15 : decode cX0_init 15 = .ok (.newarray .int, 2) := by decide +kernel
theorem dX0_init_17 : decode cX0_init 17 = .ok (.putfield 15, 3) := by decide +kernel
theorem dX0_init_20 : decode cX0_init 20 = .ok (.aload_n 0, 1) := by decide +kernel
theorem dX0_init_21 : decode cX0_init 21 = .ok (.aload_n 1, 1) := by decide +kernel
theorem dX0_init_22 : decode cX0_init 22 = .ok (.putfield 18, 3) := by decide +kernel
theorem dX0_init_25 : decode cX0_init 25 = .ok (.return_, 1) := by decide +kernel
theorem dX0_has_0 : decode cX0_has 0 = .ok (.iload_n 1, 1) := by decide +kernel
theorem dX0_has_1 : decode cX0_has 1 = .ok (.ifCond .lt 15, 3) := by decide +kernel
theorem dX0_has_4 : decode cX0_has 4 = .ok (.iload_n 1, 1) := by decide +kernel
theorem dX0_has_5 : decode cX0_has 5 = .ok (.aload_n 0, 1) := by decide +kernel
theorem dX0_has_6 : decode cX0_has 6 = .ok (.getfield 22, 3) := by decide +kernel
theorem dX0_has_9 : decode cX0_has 9 = .ok (.if_icmp .ge 7, 3) := by decide +kernel
theorem dX0_has_12 : decode cX0_has 12 = .ok (.iconst 1, 1) := by decide +kernel
theorem dX0_has_13 : decode cX0_has 13 = .ok (.goto 4, 3) := by decide +kernel
theorem dX0_has_16 : decode cX0_has 16 = .ok (.iconst 0, 1) := by decide +kernel
theorem dX0_has_17 : decode cX0_has 17 = .ok (.ireturn, 1) := by decide +kernel
theorem dX0_readLines_0 : decode cX0_readLines 0 = .ok (.aload_n 1, 1) := by decide +kernel
theorem dX0_readLines_1 : decode cX0_readLines 1 = .ok (.bipush 48, 2) := by decide +kernel
theorem dX0_readLines_3 : decode cX0_readLines 3 = .ok (.invokevirtual 26, 3) := by decide +kernel
theorem dX0_readLines_6 : decode cX0_readLines 6 = .ok (.iconst 0, 1) := by decide +kernel
theorem dX0_readLines_7 : decode cX0_readLines 7 = .ok (.istore_n 2, 1) := by decide +kernel
theorem dX0_readLines_8 : decode cX0_readLines 8 = .ok (.aload_n 0, 1) := by decide +kernel
theorem dX0_readLines_9 : decode cX0_readLines 9 = .ok (.aload_n 1, 1) := by decide +kernel
theorem dX0_readLines_10 : decode cX0_readLines 10 = .ok (.aload_n 0, 1) := by decide +kernel
theorem dX0_readLines_11 : decode cX0_readLines 11 = .ok (.getfield 22, 3) := by decide +kernel
theorem dX0_readLines_14 : decode cX0_readLines 14 = .ok (.iload_n 2, 1) := by decide +kernel
theorem dX0_readLines_15 : decode cX0_readLines 15 = .ok (.iadd, 1) := by decide +kernel
theorem dX0_readLines_16 : decode cX0_readLines 16 = .ok (.invokevirtual 32, 3) := by decide +kernel
theorem dX0_readLines_19 : decode cX0_readLines 19 = .ok (.iinc 2 1, 3) := by decide +kernel
theorem dX0_readLines_22 : decode cX0_readLines 22 = .ok (.iload_n 2, 1) := by decide +kernel
theorem dX0_readLines_23 : decode cX0_readLines 23 = .ok (.bipush 8, 2) := by decide +kernel
theorem dX0_readLines_25 : decode cX0_readLines 25 = .ok (.if_icmp .gt 12, 3) := by decide +kernel
theorem dX0_readLines_28 : decode cX0_readLines 28 = .ok (.aload_n 1, 1) := by decide +kernel
theorem dX0_readLines_29 : decode cX0_readLines 29 = .ok (.bipush 59, 2) := by decide +kernel
theorem dX0_readLines_31 : decode cX0_readLines 31 = .ok (.invokevirtual 36, 3) := by decide +kernel
theorem dX0_readLines_34 : decode cX0_readLines 34 = .ok (.ifCond .ne (-26), 3) := by decide +kernel
theorem dX0_readLines_37 : decode cX0_readLines 37 = .ok (.iload_n 2, 1) := by decide +kernel
theorem dX0_readLines_38 : decode cX0_readLines 38 = .ok (.ireturn, 1) := by decide +kernel
theorem dX0_readLine_0 : decode cX0_readLine 0 = .ok (.iload_n 2, 1) := by decide +kernel
theorem dX0_readLine_1 : decode cX0_readLine 1 = .ok (.bipush 8, 2) := by decide +kernel
theorem dX0_readLine_3 : decode cX0_readLine 3 = .ok (.if_icmp .lt 8, 3) := by decide +kernel
theorem dX0_readLine_6 : decode cX0_readLine 6 = .ok (.aload_n 1, 1) := by decide +kernel
theorem dX0_readLine_7 : decode cX0_readLine 7 = .ok (.invokevirtual 40, 3) := by decide +kernel
theorem dX0_readLine_10 : decode cX0_readLine 10 = .ok (.return_, 1) := by decide +kernel
theorem dX0_readLine_11 : decode cX0_readLine 11 = .ok (.aload_n 0, 1) := by decide +kernel
theorem dX0_readLine_12 : decode cX0_readLine 12 = .ok (.getfield 9, 3) := by decide +kernel
theorem dX0_readLine_15 : decode cX0_readLine 15 = .ok (.iload_n 2, 1) := by decide +kernel
theorem dX0_readLine_16 : decode cX0_readLine 16 = .ok (.aload_n 1, 1) := by decide +kernel
theorem dX0_readLine_17 : decode cX0_readLine 17 = .ok (.iconst 2, 1) := by decide +kernel
theorem dX0_readLine_18 : decode cX0_readLine 18 = .ok (.iconst 1, 1) := by decide +kernel
theorem dX0_readLine_19 : decode cX0_readLine 19 = .ok (.bipush 40, 2) := by decide +kernel
theorem dX0_readLine_21 : decode cX0_readLine 21 = .ok (.invokevirtual 43, 3) := by decide +kernel
theorem dX0_readLine_24 : decode cX0_readLine 24 = .ok (.iastore, 1) := by decide +kernel
theorem dX0_readLine_25 : decode cX0_readLine 25 = .ok (.aload_n 1, 1) := by decide +kernel
theorem dX0_readLine_26 : decode cX0_readLine 26 = .ok (.bipush 44, 2) := by decide +kernel
theorem dX0_readLine_28 : decode cX0_readLine 28 = .ok (.invokevirtual 47, 3) := by decide +kernel
theorem dX0_readLine_31 : decode cX0_readLine 31 = .ok (.aload_n 0, 1) := by decide +kernel
theorem dX0_readLine_32 : decode cX0_readLine 32 = .ok (.getfield 15, 3) := by decide +kernel
theorem dX0_readLine_35 : decode cX0_readLine 35 = .ok (.iload_n 2, 1) := by decide +kernel
theorem dX0_readLine_36 : decode cX0_readLine 36 = .ok (.aload_n 1, 1) := by decide +kernel
theorem dX0_readLine_37 : decode cX0_readLine 37 = .ok (.iconst 1, 1) := by decide +kernel
theorem dX0_readLine_38 : decode cX0_readLine 38 = .ok (.iconst 1, 1) := by decide +kernel
theorem dX0_readLine_39 : decode cX0_readLine 39 = .ok (.bipush 9, 2) := by decide +kernel
theorem dX0_readLine_41 : decode cX0_readLine 41 = .ok (.invokevirtual 43, 3) := by decide +kernel
theorem dX0_readLine_44 : decode cX0_readLine 44 = .ok (.iastore, 1) := by decide +kernel
theorem dX0_readLine_45 : decode cX0_readLine 45 = .ok (.return_, 1) := by decide +kernel
theorem dX0_forceOf_0 : decode cX0_forceOf 0 = .ok (.aload_n 0, 1) := by decide +kernel
theorem dX0_forceOf_1 : decode cX0_forceOf 1 = .ok (.iload_n 2, 1) := by decide +kernel
theorem dX0_forceOf_2 : decode cX0_forceOf 2 = .ok (.invokevirtual 50, 3) := by decide +kernel
theorem dX0_forceOf_5 : decode cX0_forceOf 5 = .ok (.istore 4, 2) := by decide +kernel
theorem dX0_forceOf_7 : decode cX0_forceOf 7 = .ok (.iload_n 2, 1) := by decide +kernel
theorem dX0_forceOf_8 : decode cX0_forceOf 8 = .ok (.invokestatic 54, 3) := by decide +kernel
theorem dX0_forceOf_11 : decode cX0_forceOf 11 = .ok (.istore 5, 2) := by decide +kernel
theorem dX0_forceOf_13 : decode cX0_forceOf 13 = .ok (.aload_n 0, 1) := by decide +kernel
theorem dX0_forceOf_14 : decode cX0_forceOf 14 = .ok (.getfield 18, 3) := by decide +kernel
theorem dX0_forceOf_17 : decode cX0_forceOf 17 = .ok (.aload_n 3, 1) := by decide +kernel
theorem dX0_forceOf_18 : decode cX0_forceOf 18 = .ok (.getfield 59, 3) := by decide +kernel
theorem dX0_forceOf_21 : decode cX0_forceOf 21 = .ok (.invokevirtual 64, 3) := by decide +kernel
theorem dX0_forceOf_24 : decode cX0_forceOf 24 = .ok (.istore 6, 2) := by decide +kernel
theorem dX0_forceOf_26 : decode cX0_forceOf 26 = .ok (.iconst 0, 1) := by decide +kernel
theorem dX0_forceOf_27 : decode cX0_forceOf 27 = .ok (.istore 7, 2) := by decide +kernel
theorem dX0_forceOf_29 : decode cX0_forceOf 29 = .ok (.iconst 0, 1) := by decide +kernel
theorem dX0_forceOf_30 : decode cX0_forceOf 30 = .ok (.istore 8, 2) := by decide +kernel
theorem dX0_forceOf_32 : decode cX0_forceOf 32 = .ok (.iload 8, 2) := by decide +kernel
theorem dX0_forceOf_34 : decode cX0_forceOf 34 = .ok (.aload_n 0, 1) := by decide +kernel
theorem dX0_forceOf_35 : decode cX0_forceOf 35 = .ok (.getfield 22, 3) := by decide +kernel
theorem dX0_forceOf_38 : decode cX0_forceOf 38 = .ok (.if_icmp .ge 56, 3) := by decide +kernel
theorem dX0_forceOf_41 : decode cX0_forceOf 41 = .ok (.iload_n 2, 1) := by decide +kernel
theorem dX0_forceOf_42 : decode cX0_forceOf 42 = .ok (.iload 8, 2) := by decide +kernel
theorem dX0_forceOf_44 : decode cX0_forceOf 44 = .ok (.ishr, 1) := by decide +kernel
theorem dX0_forceOf_45 : decode cX0_forceOf 45 = .ok (.iconst 1, 1) := by decide +kernel
theorem dX0_forceOf_46 : decode cX0_forceOf 46 = .ok (.iand, 1) := by decide +kernel
theorem dX0_forceOf_47 : decode cX0_forceOf 47 = .ok (.ifCond .eq 41, 3) := by decide +kernel
theorem dX0_forceOf_50 : decode cX0_forceOf 50 = .ok (.iload 7, 2) := by decide +kernel
theorem dX0_forceOf_52 : decode cX0_forceOf 52 = .ok (.aload_n 1, 1) := by decide +kernel
theorem dX0_forceOf_53 : decode cX0_forceOf 53 = .ok (.aload_n 0, 1) := by decide +kernel
theorem dX0_forceOf_54 : decode cX0_forceOf 54 = .ok (.getfield 9, 3) := by decide +kernel
theorem dX0_forceOf_57 : decode cX0_forceOf 57 = .ok (.iload 8, 2) := by decide +kernel
theorem dX0_forceOf_59 : decode cX0_forceOf 59 = .ok (.iaload, 1) := by decide +kernel
theorem dX0_forceOf_60 : decode cX0_forceOf 60 = .ok (.aload_n 3, 1) := by decide +kernel
theorem dX0_forceOf_61 : decode cX0_forceOf 61 = .ok (.getfield 69, 3) := by decide +kernel
theorem dX0_forceOf_64 : decode cX0_forceOf 64 = .ok (.iload 8, 2) := by decide +kernel
theorem dX0_forceOf_66 : decode cX0_forceOf 66 = .ok (.iaload, 1) := by decide +kernel
theorem dX0_forceOf_67 : decode cX0_forceOf 67 = .ok (.aload_n 0, 1) := by decide +kernel
theorem dX0_forceOf_68 : decode cX0_forceOf 68 = .ok (.getfield 15, 3) := by decide +kernel
theorem dX0_forceOf_71 : decode cX0_forceOf 71 = .ok (.iload 8, 2) := by decide +kernel
theorem dX0_forceOf_73 : decode cX0_forceOf 73 = .ok (.iaload, 1) := by decide +kernel
theorem dX0_forceOf_74 : decode cX0_forceOf 74 = .ok (.iload 4, 2) := by decide +kernel
theorem dX0_forceOf_76 : decode cX0_forceOf 76 = .ok (.iload 5, 2) := by decide +kernel
theorem dX0_forceOf_78 : decode cX0_forceOf 78 = .ok (.iload 6, 2) := by decide +kernel
theorem dX0_forceOf_80 : decode cX0_forceOf 80 = .ok (.iload 8, 2) := by decide +kernel
theorem dX0_forceOf_82 : decode cX0_forceOf 82 = .ok (.invokevirtual 72, 3) := by decide +kernel
theorem dX0_forceOf_85 : decode cX0_forceOf 85 = .ok (.iadd, 1) := by decide +kernel
theorem dX0_forceOf_86 : decode cX0_forceOf 86 = .ok (.istore 7, 2) := by decide +kernel
theorem dX0_forceOf_88 : decode cX0_forceOf 88 = .ok (.iinc 8 1, 3) := by decide +kernel
theorem dX0_forceOf_91 : decode cX0_forceOf 91 = .ok (.goto (-59), 3) := by decide +kernel
theorem dX0_forceOf_94 : decode cX0_forceOf 94 = .ok (.iload 7, 2) := by decide +kernel
theorem dX0_forceOf_96 : decode cX0_forceOf 96 = .ok (.ireturn, 1) := by decide +kernel
theorem dX0_worth_0 : decode cX0_worth 0 = .ok (.aload_n 1, 1) := by decide +kernel
theorem dX0_worth_1 : decode cX0_worth 1 = .ok (.aload_n 0, 1) := by decide +kernel
theorem dX0_worth_2 : decode cX0_worth 2 = .ok (.getfield 9, 3) := by decide +kernel
theorem dX0_worth_5 : decode cX0_worth 5 = .ok (.iload_n 2, 1) := by decide +kernel
theorem dX0_worth_6 : decode cX0_worth 6 = .ok (.iaload, 1) := by decide +kernel
theorem dX0_worth_7 : decode cX0_worth 7 = .ok (.iload 4, 2) := by decide +kernel
theorem dX0_worth_9 : decode cX0_worth 9 = .ok (.aload_n 0, 1) := by decide +kernel
theorem dX0_worth_10 : decode cX0_worth 10 = .ok (.getfield 15, 3) := by decide +kernel
theorem dX0_worth_13 : decode cX0_worth 13 = .ok (.iload_n 2, 1) := by decide +kernel
theorem dX0_worth_14 : decode cX0_worth 14 = .ok (.iaload, 1) := by decide +kernel
theorem dX0_worth_15 : decode cX0_worth 15 = .ok (.aload_n 0, 1) := by decide +kernel
theorem dX0_worth_16 : decode cX0_worth 16 = .ok (.iload_n 3, 1) := by decide +kernel
theorem dX0_worth_17 : decode cX0_worth 17 = .ok (.invokevirtual 50, 3) := by decide +kernel
theorem dX0_worth_20 : decode cX0_worth 20 = .ok (.iload_n 3, 1) := by decide +kernel
theorem dX0_worth_21 : decode cX0_worth 21 = .ok (.invokestatic 54, 3) := by decide +kernel
theorem dX0_worth_24 : decode cX0_worth 24 = .ok (.aload_n 0, 1) := by decide +kernel
theorem dX0_worth_25 : decode cX0_worth 25 = .ok (.getfield 18, 3) := by decide +kernel
theorem dX0_worth_28 : decode cX0_worth 28 = .ok (.iload 5, 2) := by decide +kernel
theorem dX0_worth_30 : decode cX0_worth 30 = .ok (.invokevirtual 64, 3) := by decide +kernel
theorem dX0_worth_33 : decode cX0_worth 33 = .ok (.iload_n 2, 1) := by decide +kernel
theorem dX0_worth_34 : decode cX0_worth 34 = .ok (.invokevirtual 72, 3) := by decide +kernel
theorem dX0_worth_37 : decode cX0_worth 37 = .ok (.ireturn, 1) := by decide +kernel
theorem dX0_tallestOf_0 : decode cX0_tallestOf 0 = .ok (.iconst 0, 1) := by decide +kernel
theorem dX0_tallestOf_1 : decode cX0_tallestOf 1 = .ok (.istore_n 2, 1) := by decide +kernel
theorem dX0_tallestOf_2 : decode cX0_tallestOf 2 = .ok (.iconst 0, 1) := by decide +kernel
theorem dX0_tallestOf_3 : decode cX0_tallestOf 3 = .ok (.istore_n 3, 1) := by decide +kernel
theorem dX0_tallestOf_4 : decode cX0_tallestOf 4 = .ok (.iload_n 3, 1) := by decide +kernel
theorem dX0_tallestOf_5 : decode cX0_tallestOf 5 = .ok (.aload_n 0, 1) := by decide +kernel
theorem dX0_tallestOf_6 : decode cX0_tallestOf 6 = .ok (.getfield 22, 3) := by decide +kernel
theorem dX0_tallestOf_9 : decode cX0_tallestOf 9 = .ok (.if_icmp .ge 34, 3) := by decide +kernel
theorem dX0_tallestOf_12 : decode cX0_tallestOf 12 = .ok (.iload_n 1, 1) := by decide +kernel
theorem dX0_tallestOf_13 : decode cX0_tallestOf 13 = .ok (.iload_n 3, 1) := by decide +kernel
theorem dX0_tallestOf_14 : decode cX0_tallestOf 14 = .ok (.ishr, 1) := by decide +kernel
theorem dX0_tallestOf_15 : decode cX0_tallestOf 15 = .ok (.iconst 1, 1) := by decide +kernel
theorem dX0_tallestOf_16 : decode cX0_tallestOf 16 = .ok (.iand, 1) := by decide +kernel
theorem dX0_tallestOf_17 : decode cX0_tallestOf 17 = .ok (.ifCond .eq 20, 3) := by decide +kernel
theorem dX0_tallestOf_20 : decode cX0_tallestOf 20 = .ok (.aload_n 0, 1) := by decide +kernel
theorem dX0_tallestOf_21 : decode cX0_tallestOf 21 = .ok (.getfield 15, 3) := by decide +kernel
theorem dX0_tallestOf_24 : decode cX0_tallestOf 24 = .ok (.iload_n 3, 1) := by decide +kernel
theorem dX0_tallestOf_25 : decode cX0_tallestOf 25 = .ok (.iaload, 1) := by decide +kernel
theorem dX0_tallestOf_26 : decode cX0_tallestOf 26 = .ok (.iload_n 2, 1) := by decide +kernel
theorem dX0_tallestOf_27 : decode cX0_tallestOf 27 = .ok (.if_icmp .le 10, 3) := by decide +kernel
theorem dX0_tallestOf_30 : decode cX0_tallestOf 30 = .ok (.aload_n 0, 1) := by decide +kernel
theorem dX0_tallestOf_31 : decode cX0_tallestOf 31 = .ok (.getfield 15, 3) := by decide +kernel
theorem dX0_tallestOf_34 : decode cX0_tallestOf 34 = .ok (.iload_n 3, 1) := by decide +kernel
theorem dX0_tallestOf_35 : decode cX0_tallestOf 35 = .ok (.iaload, 1) := by decide +kernel
theorem dX0_tallestOf_36 : decode cX0_tallestOf 36 = .ok (.istore_n 2, 1) := by decide +kernel
theorem dX0_tallestOf_37 : decode cX0_tallestOf 37 = .ok (.iinc 3 1, 3) := by decide +kernel
theorem dX0_tallestOf_40 : decode cX0_tallestOf 40 = .ok (.goto (-36), 3) := by decide +kernel
theorem dX0_tallestOf_43 : decode cX0_tallestOf 43 = .ok (.iload_n 2, 1) := by decide +kernel
theorem dX0_tallestOf_44 : decode cX0_tallestOf 44 = .ok (.ireturn, 1) := by decide +kernel
theorem dX1_init_0 : decode cX1_init 0 = .ok (.aload_n 0, 1) := by decide +kernel
theorem dX1_init_1 : decode cX1_init 1 = .ok (.invokespecial 3, 3) := by decide +kernel
theorem dX1_init_4 : decode cX1_init 4 = .ok (.aload_n 0, 1) := by decide +kernel
theorem dX1_init_5 : decode cX1_init 5 = .ok (.bipush 8, 2) := by decide +kernel
theorem dX1_init_7 : decode cX1_init 7 = .ok (.newarray .int, 2) := by decide +kernel
theorem dX1_init_9 : decode cX1_init 9 = .ok (.putfield 11, 3) := by decide +kernel
theorem dX1_init_12 : decode cX1_init 12 = .ok (.aload_n 0, 1) := by decide +kernel
theorem dX1_init_13 : decode cX1_init 13 = .ok (.bipush 8, 2) := by decide +kernel
theorem dX1_init_15 : decode cX1_init 15 = .ok (.newarray .int, 2) := by decide +kernel
theorem dX1_init_17 : decode cX1_init 17 = .ok (.putfield 15, 3) := by decide +kernel
theorem dX1_init_20 : decode cX1_init 20 = .ok (.aload_n 0, 1) := by decide +kernel
theorem dX1_init_21 : decode cX1_init 21 = .ok (.bipush 16, 2) := by decide +kernel
theorem dX1_init_23 : decode cX1_init 23 = .ok (.newarray .int, 2) := by decide +kernel
theorem dX1_init_25 : decode cX1_init 25 = .ok (.putfield 18, 3) := by decide +kernel
theorem dX1_init_28 : decode cX1_init 28 = .ok (.aload_n 0, 1) := by decide +kernel
theorem dX1_init_29 : decode cX1_init 29 = .ok (.bipush 16, 2) := by decide +kernel
theorem dX1_init_31 : decode cX1_init 31 = .ok (.newarray .int, 2) := by decide +kernel
theorem dX1_init_33 : decode cX1_init 33 = .ok (.putfield 21, 3) := by decide +kernel
theorem dX1_init_36 : decode cX1_init 36 = .ok (.aload_n 0, 1) := by decide +kernel
theorem dX1_init_37 : decode cX1_init 37 = .ok (.bipush 16, 2) := by decide +kernel
theorem dX1_init_39 : decode cX1_init 39 = .ok (.newarray .int, 2) := by decide +kernel
theorem dX1_init_41 : decode cX1_init 41 = .ok (.putfield 24, 3) := by decide +kernel
theorem dX1_init_44 : decode cX1_init 44 = .ok (.aload_n 0, 1) := by decide +kernel
theorem dX1_init_45 : decode cX1_init 45 = .ok (.bipush 8, 2) := by decide +kernel
theorem dX1_init_47 : decode cX1_init 47 = .ok (.newarray .int, 2) := by decide +kernel
theorem dX1_init_49 : decode cX1_init 49 = .ok (.putfield 27, 3) := by decide +kernel
theorem dX1_init_52 : decode cX1_init 52 = .ok (.aload_n 0, 1) := by decide +kernel
theorem dX1_init_53 : decode cX1_init 53 = .ok (.aload_n 1, 1) := by decide +kernel
theorem dX1_init_54 : decode cX1_init 54 = .ok (.putfield 30, 3) := by decide +kernel
theorem dX1_init_57 : decode cX1_init 57 = .ok (.aload_n 0, 1) := by decide +kernel
theorem dX1_init_58 : decode cX1_init 58 = .ok (.aload_n 2, 1) := by decide +kernel
theorem dX1_init_59 : decode cX1_init 59 = .ok (.putfield 34, 3) := by decide +kernel
theorem dX1_init_62 : decode cX1_init 62 = .ok (.return_, 1) := by decide +kernel
theorem dX1_fewestKnowers_0 : decode cX1_fewestKnowers 0 = .ok (.iconst 0, 1) := by decide +kernel
theorem dX1_fewestKnowers_1 : decode cX1_fewestKnowers 1 = .ok (.istore_n 2, 1) := by decide +kernel
theorem dX1_fewestKnowers_2 : decode cX1_fewestKnowers 2 = .ok (.iload_n 2, 1) := by decide +kernel
theorem dX1_fewestKnowers_3 : decode cX1_fewestKnowers 3 = .ok (.iconst 4, 1) := by decide +kernel
theorem dX1_fewestKnowers_4 : decode cX1_fewestKnowers 4 = .ok (.if_icmp .gt 51, 3) := by decide +kernel
theorem dX1_fewestKnowers_7 : decode cX1_fewestKnowers 7 = .ok (.iconst 0, 1) := by decide +kernel
theorem dX1_fewestKnowers_8 : decode cX1_fewestKnowers 8 = .ok (.istore_n 3, 1) := by decide +kernel
theorem dX1_fewestKnowers_9 : decode cX1_fewestKnowers 9 = .ok (.iload_n 3, 1) := by decide +kernel
theorem dX1_fewestKnowers_10 : decode cX1_fewestKnowers 10 = .ok (.bipush 16, 2) := by decide +kernel
theorem dX1_fewestKnowers_12 : decode cX1_fewestKnowers 12 = .ok (.if_icmp .ge 37, 3) := by decide +kernel
theorem dX1_fewestKnowers_15 : decode cX1_fewestKnowers 15 = .ok (.iload_n 3, 1) := by decide +kernel
theorem dX1_fewestKnowers_16 : decode cX1_fewestKnowers 16 = .ok (.invokestatic 38, 3) := by decide +kernel
theorem dX1_fewestKnowers_19 : decode cX1_fewestKnowers 19 = .ok (.iload_n 2, 1) := by decide +kernel
theorem dX1_fewestKnowers_20 : decode cX1_fewestKnowers 20 = .ok (.if_icmp .ne 23, 3) := by decide +kernel
theorem dX1_fewestKnowers_23 : decode cX1_fewestKnowers 23 = .ok (.aload_n 0, 1) := by decide +kernel
theorem dX1_fewestKnowers_24 : decode cX1_fewestKnowers 24 = .ok (.iload_n 3, 1) := by decide +kernel
theorem dX1_fewestKnowers_25 : decode cX1_fewestKnowers 25 = .ok (.iload_n 1, 1) := by decide +kernel
theorem dX1_fewestKnowers_26 : decode cX1_fewestKnowers 26 = .ok (.invokevirtual 44, 3) := by decide +kernel
theorem dX1_fewestKnowers_29 : decode cX1_fewestKnowers 29 = .ok (.ifCond .eq 14, 3) := by decide +kernel
theorem dX1_fewestKnowers_32 : decode cX1_fewestKnowers 32 = .ok (.aload_n 0, 1) := by decide +kernel
theorem dX1_fewestKnowers_33 : decode cX1_fewestKnowers 33 = .ok (.getfield 34, 3) := by decide +kernel
theorem dX1_fewestKnowers_36 : decode cX1_fewestKnowers 36 = .ok (.iload_n 3, 1) := by decide +kernel
theorem dX1_fewestKnowers_37 : decode cX1_fewestKnowers 37 = .ok (.i2l, 1) := by decide +kernel
theorem dX1_fewestKnowers_38 : decode cX1_fewestKnowers 38 = .ok (.invokevirtual 48, 3) := by decide +kernel
theorem dX1_fewestKnowers_41 : decode cX1_fewestKnowers 41 = .ok (.iload_n 2, 1) := by decide +kernel
theorem dX1_fewestKnowers_42 : decode cX1_fewestKnowers 42 = .ok (.ireturn, 1) := by decide +kernel
theorem dX1_fewestKnowers_43 : decode cX1_fewestKnowers 43 = .ok (.iinc 3 1, 3) := by decide +kernel
theorem dX1_fewestKnowers_46 : decode cX1_fewestKnowers 46 = .ok (.goto (-37), 3) := by decide +kernel
theorem dX1_fewestKnowers_49 : decode cX1_fewestKnowers 49 = .ok (.iinc 2 1, 3) := by decide +kernel
theorem dX1_fewestKnowers_52 : decode cX1_fewestKnowers 52 = .ok (.goto (-50), 3) := by decide +kernel
theorem dX1_fewestKnowers_55 : decode cX1_fewestKnowers 55 = .ok (.bipush (-2), 2) := by decide +kernel
theorem dX1_fewestKnowers_57 : decode cX1_fewestKnowers 57 = .ok (.ireturn, 1) := by decide +kernel
theorem dX1_knowAll_0 : decode cX1_knowAll 0 = .ok (.iconst 0, 1) := by decide +kernel
theorem dX1_knowAll_1 : decode cX1_knowAll 1 = .ok (.istore_n 3, 1) := by decide +kernel
theorem dX1_knowAll_2 : decode cX1_knowAll 2 = .ok (.iload_n 3, 1) := by decide +kernel
theorem dX1_knowAll_3 : decode cX1_knowAll 3 = .ok (.aload_n 0, 1) := by decide +kernel
theorem dX1_knowAll_4 : decode cX1_knowAll 4 = .ok (.getfield 30, 3) := by decide +kernel
theorem dX1_knowAll_7 : decode cX1_knowAll 7 = .ok (.getfield 54, 3) := by decide +kernel
theorem dX1_knowAll_10 : decode cX1_knowAll 10 = .ok (.if_icmp .ge 33, 3) := by decide +kernel
theorem dX1_knowAll_13 : decode cX1_knowAll 13 = .ok (.iload_n 2, 1) := by decide +kernel
theorem dX1_knowAll_14 : decode cX1_knowAll 14 = .ok (.iload_n 3, 1) := by decide +kernel
theorem dX1_knowAll_15 : decode cX1_knowAll 15 = .ok (.ishr, 1) := by decide +kernel
theorem dX1_knowAll_16 : decode cX1_knowAll 16 = .ok (.iconst 1, 1) := by decide +kernel
theorem dX1_knowAll_17 : decode cX1_knowAll 17 = .ok (.iand, 1) := by decide +kernel
theorem dX1_knowAll_18 : decode cX1_knowAll 18 = .ok (.ifCond .eq 19, 3) := by decide +kernel
theorem dX1_knowAll_21 : decode cX1_knowAll 21 = .ok (.aload_n 0, 1) := by decide +kernel
theorem dX1_knowAll_22 : decode cX1_knowAll 22 = .ok (.getfield 30, 3) := by decide +kernel
theorem dX1_knowAll_25 : decode cX1_knowAll 25 = .ok (.getfield 60, 3) := by decide +kernel
theorem dX1_knowAll_28 : decode cX1_knowAll 28 = .ok (.iload_n 3, 1) := by decide +kernel
theorem dX1_knowAll_29 : decode cX1_knowAll 29 = .ok (.iaload, 1) := by decide +kernel
theorem dX1_knowAll_30 : decode cX1_knowAll 30 = .ok (.iload_n 1, 1) := by decide +kernel
theorem dX1_knowAll_31 : decode cX1_knowAll 31 = .ok (.iand, 1) := by decide +kernel
theorem dX1_knowAll_32 : decode cX1_knowAll 32 = .ok (.ifCond .ne 5, 3) := by decide +kernel
theorem dX1_knowAll_35 : decode cX1_knowAll 35 = .ok (.iconst 0, 1) := by decide +kernel
theorem dX1_knowAll_36 : decode cX1_knowAll 36 = .ok (.ireturn, 1) := by decide +kernel
theorem dX1_knowAll_37 : decode cX1_knowAll 37 = .ok (.iinc 3 1, 3) := by decide +kernel
theorem dX1_knowAll_40 : decode cX1_knowAll 40 = .ok (.goto (-38), 3) := by decide +kernel
theorem dX1_knowAll_43 : decode cX1_knowAll 43 = .ok (.iconst 1, 1) := by decide +kernel
theorem dX1_knowAll_44 : decode cX1_knowAll 44 = .ok (.ireturn, 1) := by decide +kernel
theorem dX1_knownToJust_0 : decode cX1_knownToJust 0 = .ok (.iconst 0, 1) := by decide +kernel
theorem dX1_knownToJust_1 : decode cX1_knownToJust 1 = .ok (.istore_n 2, 1) := by decide +kernel
theorem dX1_knownToJust_2 : decode cX1_knownToJust 2 = .ok (.iconst 0, 1) := by decide +kernel
theorem dX1_knownToJust_3 : decode cX1_knownToJust 3 = .ok (.istore_n 3, 1) := by decide +kernel
theorem dX1_knownToJust_4 : decode cX1_knownToJust 4 = .ok (.iload_n 3, 1) := by decide +kernel
theorem dX1_knownToJust_5 : decode cX1_knownToJust 5 = .ok (.aload_n 0, 1) := by decide +kernel
theorem dX1_knownToJust_6 : decode cX1_knownToJust 6 = .ok (.getfield 30, 3) := by decide +kernel
theorem dX1_knownToJust_9 : decode cX1_knownToJust 9 = .ok (.getfield 54, 3) := by decide +kernel
theorem dX1_knownToJust_12 : decode cX1_knownToJust 12 = .ok (.if_icmp .ge 31, 3) := by decide +kernel
theorem dX1_knownToJust_15 : decode cX1_knownToJust 15 = .ok (.aload_n 0, 1) := by decide +kernel
theorem dX1_knownToJust_16 : decode cX1_knownToJust 16 = .ok (.getfield 30, 3) := by decide +kernel
theorem dX1_knownToJust_19 : decode cX1_knownToJust 19 = .ok (.getfield 60, 3) := by decide +kernel
theorem dX1_knownToJust_22 : decode cX1_knownToJust 22 = .ok (.iload_n 3, 1) := by decide +kernel
theorem dX1_knownToJust_23 : decode cX1_knownToJust 23 = .ok (.iaload, 1) := by decide +kernel
theorem dX1_knownToJust_24 : decode cX1_knownToJust 24 = .ok (.invokestatic 38, 3) := by decide +kernel
theorem dX1_knownToJust_27 : decode cX1_knownToJust 27 = .ok (.iload_n 1, 1) := by decide +kernel
theorem dX1_knownToJust_28 : decode cX1_knownToJust 28 = .ok (.if_icmp .ne 9, 3) := by decide +kernel
theorem dX1_knownToJust_31 : decode cX1_knownToJust 31 = .ok (.iload_n 2, 1) := by decide +kernel
theorem dX1_knownToJust_32 : decode cX1_knownToJust 32 = .ok (.iconst 1, 1) := by decide +kernel
theorem dX1_knownToJust_33 : decode cX1_knownToJust 33 = .ok (.iload_n 3, 1) := by decide +kernel
theorem dX1_knownToJust_34 : decode cX1_knownToJust 34 = .ok (.ishl, 1) := by decide +kernel
theorem dX1_knownToJust_35 : decode cX1_knownToJust 35 = .ok (.ior, 1) := by decide +kernel
theorem dX1_knownToJust_36 : decode cX1_knownToJust 36 = .ok (.istore_n 2, 1) := by decide +kernel
theorem dX1_knownToJust_37 : decode cX1_knownToJust 37 = .ok (.iinc 3 1, 3) := by decide +kernel
theorem dX1_knownToJust_40 : decode cX1_knownToJust 40 = .ok (.goto (-36), 3) := by decide +kernel
theorem dX1_knownToJust_43 : decode cX1_knownToJust 43 = .ok (.aload_n 0, 1) := by decide +kernel
theorem dX1_knownToJust_44 : decode cX1_knownToJust 44 = .ok (.getfield 34, 3) := by decide +kernel
theorem dX1_knownToJust_47 : decode cX1_knownToJust 47 = .ok (.iload_n 2, 1) := by decide +kernel
theorem dX1_knownToJust_48 : decode cX1_knownToJust 48 = .ok (.invokestatic 38, 3) := by decide +kernel
theorem dX1_knownToJust_51 : decode cX1_knownToJust 51 = .ok (.i2l, 1) := by decide +kernel
theorem dX1_knownToJust_52 : decode cX1_knownToJust 52 = .ok (.aload_n 0, 1) := by decide +kernel
theorem dX1_knownToJust_53 : decode cX1_knownToJust 53 = .ok (.getfield 30, 3) := by decide +kernel
theorem dX1_knownToJust_56 : decode cX1_knownToJust 56 = .ok (.iload_n 2, 1) := by decide +kernel
theorem dX1_knownToJust_57 : decode cX1_knownToJust 57 = .ok (.invokevirtual 63, 3) := by decide +kernel
theorem dX1_knownToJust_60 : decode cX1_knownToJust 60 = .ok (.i2l, 1) := by decide +kernel
theorem dX1_knownToJust_61 : decode cX1_knownToJust 61 = .ok (.invokevirtual 66, 3) := by decide +kernel
theorem dX1_knownToJust_64 : decode cX1_knownToJust 64 = .ok (.iload_n 2, 1) := by decide +kernel
theorem dX1_knownToJust_65 : decode cX1_knownToJust 65 = .ok (.ireturn, 1) := by decide +kernel
theorem dX1_mostLightening_0 : decode cX1_mostLightening 0 = .ok (.iconst (-1), 1) := by decide +kernel
theorem dX1_mostLightening_1 : decode cX1_mostLightening 1 = .ok (.istore_n 2, 1) := by decide +kernel
theorem dX1_mostLightening_2 : decode cX1_mostLightening 2 = .ok (.iconst 0, 1) := by decide +kernel
theorem dX1_mostLightening_3 : decode cX1_mostLightening 3 = .ok (.istore_n 3, 1) := by decide +kernel
theorem dX1_mostLightening_4 : decode cX1_mostLightening 4 = .ok (.iconst 0, 1) := by decide +kernel
theorem dX1_mostLightening_5 : decode cX1_mostLightening 5 = .ok (.istore 4, 2) := by decide +kernel
theorem dX1_mostLightening_7 : decode cX1_mostLightening 7 = .ok (.iconst 0, 1) := by decide +kernel
theorem dX1_mostLightening_8 : decode cX1_mostLightening 8 = .ok (.istore 5, 2) := by decide +kernel
theorem dX1_mostLightening_10 : decode cX1_mostLightening 10 = .ok (.iload 5, 2) := by decide +kernel
theorem dX1_mostLightening_12 : decode cX1_mostLightening 12 = .ok (.iconst 4, 1) := by decide +kernel
theorem dX1_mostLightening_13 : decode cX1_mostLightening 13 = .ok (.if_icmp .ge 93, 3) := by decide +kernel
theorem dX1_mostLightening_16 : decode cX1_mostLightening 16 = .ok (.aload_n 0, 1) := by decide +kernel
theorem dX1_mostLightening_17 : decode cX1_mostLightening 17 = .ok (.getfield 30, 3) := by decide +kernel
theorem dX1_mostLightening_20 : decode cX1_mostLightening 20 = .ok (.iload 5, 2) := by decide +kernel
theorem dX1_mostLightening_22 : decode cX1_mostLightening 22 = .ok (.invokevirtual 69, 3) := by decide +kernel
theorem dX1_mostLightening_25 : decode cX1_mostLightening 25 = .ok (.iload_n 1, 1) := by decide +kernel
theorem dX1_mostLightening_26 : decode cX1_mostLightening 26 = .ok (.iconst (-1), 1) := by decide +kernel
theorem dX1_mostLightening_27 : decode cX1_mostLightening 27 = .ok (.ixor, 1) := by decide +kernel
theorem dX1_mostLightening_28 : decode cX1_mostLightening 28 = .ok (.iand, 1) := by decide +kernel
theorem dX1_mostLightening_29 : decode cX1_mostLightening 29 = .ok (.istore 6, 2) := by decide +kernel
theorem dX1_mostLightening_31 : decode cX1_mostLightening 31 = .ok (.aload_n 0, 1) := by decide +kernel
theorem dX1_mostLightening_32 : decode cX1_mostLightening 32 = .ok (.getfield 30, 3) := by decide +kernel
theorem dX1_mostLightening_35 : decode cX1_mostLightening 35 = .ok (.iload 6, 2) := by decide +kernel
theorem dX1_mostLightening_37 : decode cX1_mostLightening 37 = .ok (.aload_n 0, 1) := by decide +kernel
theorem dX1_mostLightening_38 : decode cX1_mostLightening 38 = .ok (.getfield 30, 3) := by decide +kernel
theorem dX1_mostLightening_41 : decode cX1_mostLightening 41 = .ok (.getfield 72, 3) := by decide +kernel
theorem dX1_mostLightening_44 : decode cX1_mostLightening 44 = .ok (.iand, 1) := by decide +kernel
theorem dX1_mostLightening_45 : decode cX1_mostLightening 45 = .ok (.invokevirtual 63, 3) := by decide +kernel
theorem dX1_mostLightening_48 : decode cX1_mostLightening 48 = .ok (.istore 7, 2) := by decide +kernel
theorem dX1_mostLightening_50 : decode cX1_mostLightening 50 = .ok (.iload 6, 2) := by decide +kernel
theorem dX1_mostLightening_52 : decode cX1_mostLightening 52 = .ok (.aload_n 0, 1) := by decide +kernel
theorem dX1_mostLightening_53 : decode cX1_mostLightening 53 = .ok (.getfield 30, 3) := by decide +kernel
theorem dX1_mostLightening_56 : decode cX1_mostLightening 56 = .ok (.getfield 72, 3) := by decide +kernel
theorem dX1_mostLightening_59 : decode cX1_mostLightening 59 = .ok (.iconst (-1), 1) := by decide +kernel
theorem dX1_mostLightening_60 : decode cX1_mostLightening 60 = .ok (.ixor, 1) := by decide +kernel
theorem dX1_mostLightening_61 : decode cX1_mostLightening 61 = .ok (.iand, 1) := by decide +kernel
theorem dX1_mostLightening_62 : decode cX1_mostLightening 62 = .ok (.invokestatic 38, 3) := by decide +kernel
theorem dX1_mostLightening_65 : decode cX1_mostLightening 65 = .ok (.istore 8, 2) := by decide +kernel
theorem dX1_mostLightening_67 : decode cX1_mostLightening 67 = .ok (.iload_n 2, 1) := by decide +kernel
theorem dX1_mostLightening_68 : decode cX1_mostLightening 68 = .ok (.ifCond .lt 22, 3) := by decide +kernel
theorem dX1_mostLightening_71 : decode cX1_mostLightening 71 = .ok (.iload 7, 2) := by decide +kernel
theorem dX1_mostLightening_73 : decode cX1_mostLightening 73 = .ok (.iload_n 3, 1) := by decide +kernel
theorem dX1_mostLightening_74 : decode cX1_mostLightening 74 = .ok (.if_icmp .gt 16, 3) := by decide +kernel
theorem dX1_mostLightening_77 : decode cX1_mostLightening 77 = .ok (.iload 7, 2) := by decide +kernel
theorem dX1_mostLightening_79 : decode cX1_mostLightening 79 = .ok (.iload_n 3, 1) := by decide +kernel
theorem dX1_mostLightening_80 : decode cX1_mostLightening 80 = .ok (.if_icmp .ne 20, 3) := by decide +kernel
theorem dX1_mostLightening_83 : decode cX1_mostLightening 83 = .ok (.iload 8, 2) := by decide +kernel
theorem dX1_mostLightening_85 : decode cX1_mostLightening 85 = .ok (.iload 4, 2) := by decide +kernel
theorem dX1_mostLightening_87 : decode cX1_mostLightening 87 = .ok (.if_icmp .ge 13, 3) := by decide +kernel
theorem dX1_mostLightening_90 : decode cX1_mostLightening 90 = .ok (.iload 5, 2) := by decide +kernel
theorem dX1_mostLightening_92 : decode cX1_mostLightening 92 = .ok (.istore_n 2, 1) := by decide +kernel
theorem dX1_mostLightening_93 : decode cX1_mostLightening 93 = .ok (.iload 7, 2) := by decide +kernel
theorem dX1_mostLightening_95 : decode cX1_mostLightening 95 = .ok (.istore_n 3, 1) := by decide +kernel
theorem dX1_mostLightening_96 : decode cX1_mostLightening 96 = .ok (.iload 8, 2) := by decide +kernel
theorem dX1_mostLightening_98 : decode cX1_mostLightening 98 = .ok (.istore 4, 2) := by decide +kernel
theorem dX1_mostLightening_100 : decode cX1_mostLightening 100 = .ok (.iinc 5 1, 3) := by decide +kernel
theorem dX1_mostLightening_103 : decode cX1_mostLightening 103 = .ok (.goto (-93), 3) := by decide +kernel
theorem dX1_mostLightening_106 : decode cX1_mostLightening 106 = .ok (.aload_n 0, 1) := by decide +kernel
theorem dX1_mostLightening_107 : decode cX1_mostLightening 107 = .ok (.getfield 34, 3) := by decide +kernel
theorem dX1_mostLightening_110 : decode cX1_mostLightening 110 = .ok (.iload_n 3, 1) := by decide +kernel
theorem dX1_mostLightening_111 : decode cX1_mostLightening 111 = .ok (.i2l, 1) := by decide +kernel
theorem dX1_mostLightening_112 : decode cX1_mostLightening 112 = .ok (.iload 4, 2) := by decide +kernel
theorem dX1_mostLightening_114 : decode cX1_mostLightening 114 = .ok (.i2l, 1) := by decide +kernel
theorem dX1_mostLightening_115 : decode cX1_mostLightening 115 = .ok (.invokevirtual 66, 3) := by decide +kernel
theorem dX1_mostLightening_118 : decode cX1_mostLightening 118 = .ok (.iload_n 2, 1) := by decide +kernel
theorem dX1_mostLightening_119 : decode cX1_mostLightening 119 = .ok (.ireturn, 1) := by decide +kernel
theorem dX1_addOldWalk_0 : decode cX1_addOldWalk 0 = .ok (.iload_n 2, 1) := by decide +kernel
theorem dX1_addOldWalk_1 : decode cX1_addOldWalk 1 = .ok (.sipush (-160), 3) := by decide +kernel
theorem dX1_addOldWalk_4 : decode cX1_addOldWalk 4 = .ok (.if_icmp .lt 19, 3) := by decide +kernel
theorem dX1_addOldWalk_7 : decode cX1_addOldWalk 7 = .ok (.iload_n 2, 1) := by decide +kernel
theorem dX1_addOldWalk_8 : decode cX1_addOldWalk 8 = .ok (.sipush 160, 3) := by decide +kernel
theorem dX1_addOldWalk_11 : decode cX1_addOldWalk 11 = .ok (.if_icmp .gt 12, 3) := by decide +kernel
theorem dX1_addOldWalk_14 : decode cX1_addOldWalk 14 = .ok (.aload_n 0, 1) := by decide +kernel
theorem dX1_addOldWalk_15 : decode cX1_addOldWalk 15 = .ok (.getfield 75, 3) := by decide +kernel
theorem dX1_addOldWalk_18 : decode cX1_addOldWalk 18 = .ok (.bipush 8, 2) := by decide +kernel
theorem dX1_addOldWalk_20 : decode cX1_addOldWalk 20 = .ok (.if_icmp .lt 5, 3) := by decide +kernel
theorem dX1_addOldWalk_23 : decode cX1_addOldWalk 23 = .ok (.iconst (-1), 1) := by decide +kernel
theorem dX1_addOldWalk_24 : decode cX1_addOldWalk 24 = .ok (.ireturn, 1) := by decide +kernel
theorem dX1_addOldWalk_25 : decode cX1_addOldWalk 25 = .ok (.aload_n 0, 1) := by decide +kernel
theorem dX1_addOldWalk_26 : decode cX1_addOldWalk 26 = .ok (.getfield 11, 3) := by decide +kernel
theorem dX1_addOldWalk_29 : decode cX1_addOldWalk 29 = .ok (.aload_n 0, 1) := by decide +kernel
theorem dX1_addOldWalk_30 : decode cX1_addOldWalk 30 = .ok (.getfield 75, 3) := by decide +kernel
theorem dX1_addOldWalk_33 : decode cX1_addOldWalk 33 = .ok (.iload_n 1, 1) := by decide +kernel
theorem dX1_addOldWalk_34 : decode cX1_addOldWalk 34 = .ok (.iastore, 1) := by decide +kernel
theorem dX1_addOldWalk_35 : decode cX1_addOldWalk 35 = .ok (.aload_n 0, 1) := by decide +kernel
theorem dX1_addOldWalk_36 : decode cX1_addOldWalk 36 = .ok (.getfield 15, 3) := by decide +kernel
theorem dX1_addOldWalk_39 : decode cX1_addOldWalk 39 = .ok (.aload_n 0, 1) := by decide +kernel
theorem dX1_addOldWalk_40 : decode cX1_addOldWalk 40 = .ok (.getfield 75, 3) := by decide +kernel
theorem dX1_addOldWalk_43 : decode cX1_addOldWalk 43 = .ok (.iload_n 2, 1) := by decide +kernel
theorem dX1_addOldWalk_44 : decode cX1_addOldWalk 44 = .ok (.iastore, 1) := by decide +kernel
theorem dX1_addOldWalk_45 : decode cX1_addOldWalk 45 = .ok (.aload_n 0, 1) := by decide +kernel
theorem dX1_addOldWalk_46 : decode cX1_addOldWalk 46 = .ok (.dup, 1) := by decide +kernel
theorem dX1_addOldWalk_47 : decode cX1_addOldWalk 47 = .ok (.getfield 75, 3) := by decide +kernel
theorem dX1_addOldWalk_50 : decode cX1_addOldWalk 50 = .ok (.iconst 1, 1) := by decide +kernel
theorem dX1_addOldWalk_51 : decode cX1_addOldWalk 51 = .ok (.iadd, 1) := by decide +kernel
theorem dX1_addOldWalk_52 : decode cX1_addOldWalk 52 = .ok (.putfield 75, 3) := by decide +kernel
theorem dX1_addOldWalk_55 : decode cX1_addOldWalk 55 = .ok (.aload_n 0, 1) := by decide +kernel
theorem dX1_addOldWalk_56 : decode cX1_addOldWalk 56 = .ok (.getfield 75, 3) := by decide +kernel
theorem dX1_addOldWalk_59 : decode cX1_addOldWalk 59 = .ok (.ireturn, 1) := by decide +kernel
theorem dX1_forgetOldWalks_0 : decode cX1_forgetOldWalks 0 = .ok (.aload_n 0, 1) := by decide +kernel
theorem dX1_forgetOldWalks_1 : decode cX1_forgetOldWalks 1 = .ok (.getfield 75, 3) := by decide +kernel
theorem dX1_forgetOldWalks_4 : decode cX1_forgetOldWalks 4 = .ok (.istore_n 1, 1) := by decide +kernel
theorem dX1_forgetOldWalks_5 : decode cX1_forgetOldWalks 5 = .ok (.aload_n 0, 1) := by decide +kernel
theorem dX1_forgetOldWalks_6 : decode cX1_forgetOldWalks 6 = .ok (.iconst 0, 1) := by decide +kernel
theorem dX1_forgetOldWalks_7 : decode cX1_forgetOldWalks 7 = .ok (.putfield 75, 3) := by decide +kernel
theorem dX1_forgetOldWalks_10 : decode cX1_forgetOldWalks 10 = .ok (.iload_n 1, 1) := by decide +kernel
theorem dX1_forgetOldWalks_11 : decode cX1_forgetOldWalks 11 = .ok (.ireturn, 1) := by decide +kernel
theorem dX1_countWorlds_0 : decode cX1_countWorlds 0 = .ok (.aload_n 0, 1) := by decide +kernel
theorem dX1_countWorlds_1 : decode cX1_countWorlds 1 = .ok (.invokevirtual 78, 3) := by decide +kernel
theorem dX1_countWorlds_4 : decode cX1_countWorlds 4 = .ok (.aload_n 0, 1) := by decide +kernel
theorem dX1_countWorlds_5 : decode cX1_countWorlds 5 = .ok (.getfield 34, 3) := by decide +kernel
theorem dX1_countWorlds_8 : decode cX1_countWorlds 8 = .ok (.aload_n 0, 1) := by decide +kernel
theorem dX1_countWorlds_9 : decode cX1_countWorlds 9 = .ok (.getfield 81, 3) := by decide +kernel
theorem dX1_countWorlds_12 : decode cX1_countWorlds 12 = .ok (.i2l, 1) := by decide +kernel
theorem dX1_countWorlds_13 : decode cX1_countWorlds 13 = .ok (.invokevirtual 48, 3) := by decide +kernel
theorem dX1_countWorlds_16 : decode cX1_countWorlds 16 = .ok (.aload_n 0, 1) := by decide +kernel
theorem dX1_countWorlds_17 : decode cX1_countWorlds 17 = .ok (.getfield 84, 3) := by decide +kernel
theorem dX1_countWorlds_20 : decode cX1_countWorlds 20 = .ok (.ireturn, 1) := by decide +kernel
theorem dX1_trueInAll_0 : decode cX1_trueInAll 0 = .ok (.aload_n 0, 1) := by decide +kernel
theorem dX1_trueInAll_1 : decode cX1_trueInAll 1 = .ok (.invokevirtual 78, 3) := by decide +kernel
theorem dX1_trueInAll_4 : decode cX1_trueInAll 4 = .ok (.aload_n 0, 1) := by decide +kernel
theorem dX1_trueInAll_5 : decode cX1_trueInAll 5 = .ok (.getfield 84, 3) := by decide +kernel
theorem dX1_trueInAll_8 : decode cX1_trueInAll 8 = .ok (.ifCond .ne 13, 3) := by decide +kernel
theorem dX1_trueInAll_11 : decode cX1_trueInAll 11 = .ok (.aload_n 0, 1) := by decide +kernel
theorem dX1_trueInAll_12 : decode cX1_trueInAll 12 = .ok (.getfield 34, 3) := by decide +kernel
theorem dX1_trueInAll_15 : decode cX1_trueInAll 15 = .ok (.lconst 0, 1) := by decide +kernel
theorem dX1_trueInAll_16 : decode cX1_trueInAll 16 = .ok (.invokevirtual 48, 3) := by decide +kernel
theorem dX1_trueInAll_19 : decode cX1_trueInAll 19 = .ok (.iconst 0, 1) := by decide +kernel
theorem dX1_trueInAll_20 : decode cX1_trueInAll 20 = .ok (.ireturn, 1) := by decide +kernel
theorem dX1_trueInAll_21 : decode cX1_trueInAll 21 = .ok (.aload_n 0, 1) := by decide +kernel
theorem dX1_trueInAll_22 : decode cX1_trueInAll 22 = .ok (.getfield 34, 3) := by decide +kernel
theorem dX1_trueInAll_25 : decode cX1_trueInAll 25 = .ok (.iconst 1, 1) := by decide +kernel
theorem dX1_trueInAll_26 : decode cX1_trueInAll 26 = .ok (.aload_n 0, 1) := by decide +kernel
theorem dX1_trueInAll_27 : decode cX1_trueInAll 27 = .ok (.getfield 30, 3) := by decide +kernel
theorem dX1_trueInAll_30 : decode cX1_trueInAll 30 = .ok (.getfield 54, 3) := by decide +kernel
theorem dX1_trueInAll_33 : decode cX1_trueInAll 33 = .ok (.ishl, 1) := by decide +kernel
theorem dX1_trueInAll_34 : decode cX1_trueInAll 34 = .ok (.iconst 1, 1) := by decide +kernel
theorem dX1_trueInAll_35 : decode cX1_trueInAll 35 = .ok (.isub, 1) := by decide +kernel
theorem dX1_trueInAll_36 : decode cX1_trueInAll 36 = .ok (.aload_n 0, 1) := by decide +kernel
theorem dX1_trueInAll_37 : decode cX1_trueInAll 37 = .ok (.getfield 87, 3) := by decide +kernel
theorem dX1_trueInAll_40 : decode cX1_trueInAll 40 = .ok (.iconst (-1), 1) := by decide +kernel
theorem dX1_trueInAll_41 : decode cX1_trueInAll 41 = .ok (.ixor, 1) := by decide +kernel
theorem dX1_trueInAll_42 : decode cX1_trueInAll 42 = .ok (.iand, 1) := by decide +kernel
theorem dX1_trueInAll_43 : decode cX1_trueInAll 43 = .ok (.i2l, 1) := by decide +kernel
theorem dX1_trueInAll_44 : decode cX1_trueInAll 44 = .ok (.invokevirtual 48, 3) := by decide +kernel
theorem dX1_trueInAll_47 : decode cX1_trueInAll 47 = .ok (.aload_n 0, 1) := by decide +kernel
theorem dX1_trueInAll_48 : decode cX1_trueInAll 48 = .ok (.getfield 90, 3) := by decide +kernel
theorem dX1_trueInAll_51 : decode cX1_trueInAll 51 = .ok (.ireturn, 1) := by decide +kernel
theorem dX1_bestQuestion_0 : decode cX1_bestQuestion 0 = .ok (.aload_n 0, 1) := by decide +kernel
theorem dX1_bestQuestion_1 : decode cX1_bestQuestion 1 = .ok (.invokevirtual 78, 3) := by decide +kernel
theorem dX1_bestQuestion_4 : decode cX1_bestQuestion 4 = .ok (.aload_n 0, 1) := by decide +kernel
theorem dX1_bestQuestion_5 : decode cX1_bestQuestion 5 = .ok (.getfield 84, 3) := by decide +kernel
theorem dX1_bestQuestion_8 : decode cX1_bestQuestion 8 = .ok (.ifCond .eq 13, 3) := by decide +kernel
theorem dX1_bestQuestion_11 : decode cX1_bestQuestion 11 = .ok (.aload_n 0, 1) := by decide +kernel
theorem dX1_bestQuestion_12 : decode cX1_bestQuestion 12 = .ok (.getfield 30, 3) := by decide +kernel
theorem dX1_bestQuestion_15 : decode cX1_bestQuestion 15 = .ok (.getfield 54, 3) := by decide +kernel
theorem dX1_bestQuestion_18 : decode cX1_bestQuestion 18 = .ok (.ifCond .ne 6, 3) := by decide +kernel
theorem dX1_bestQuestion_21 : decode cX1_bestQuestion 21 = .ok (.bipush (-2), 2) := by decide +kernel
theorem dX1_bestQuestion_23 : decode cX1_bestQuestion 23 = .ok (.ireturn, 1) := by decide +kernel
theorem dX1_bestQuestion_24 : decode cX1_bestQuestion 24 = .ok (.iconst 0, 1) := by decide +kernel
theorem dX1_bestQuestion_25 : decode cX1_bestQuestion 25 = .ok (.istore_n 1, 1) := by decide +kernel
theorem dX1_bestQuestion_26 : decode cX1_bestQuestion 26 = .ok (.aload_n 0, 1) := by decide +kernel
theorem dX1_bestQuestion_27 : decode cX1_bestQuestion 27 = .ok (.getfield 84, 3) := by decide +kernel
theorem dX1_bestQuestion_30 : decode cX1_bestQuestion 30 = .ok (.iconst 1, 1) := by decide +kernel
theorem dX1_bestQuestion_31 : decode cX1_bestQuestion 31 = .ok (.iadd, 1) := by decide +kernel
theorem dX1_bestQuestion_32 : decode cX1_bestQuestion 32 = .ok (.istore_n 2, 1) := by decide +kernel
theorem dX1_bestQuestion_33 : decode cX1_bestQuestion 33 = .ok (.iconst 0, 1) := by decide +kernel
theorem dX1_bestQuestion_34 : decode cX1_bestQuestion 34 = .ok (.istore_n 3, 1) := by decide +kernel
theorem dX1_bestQuestion_35 : decode cX1_bestQuestion 35 = .ok (.iload_n 3, 1) := by decide +kernel
theorem dX1_bestQuestion_36 : decode cX1_bestQuestion 36 = .ok (.aload_n 0, 1) := by decide +kernel
theorem dX1_bestQuestion_37 : decode cX1_bestQuestion 37 = .ok (.getfield 30, 3) := by decide +kernel
theorem dX1_bestQuestion_40 : decode cX1_bestQuestion 40 = .ok (.getfield 54, 3) := by decide +kernel
theorem dX1_bestQuestion_43 : decode cX1_bestQuestion 43 = .ok (.if_icmp .ge 42, 3) := by decide +kernel
theorem dX1_bestQuestion_46 : decode cX1_bestQuestion 46 = .ok (.aload_n 0, 1) := by decide +kernel
theorem dX1_bestQuestion_47 : decode cX1_bestQuestion 47 = .ok (.getfield 27, 3) := by decide +kernel
theorem dX1_bestQuestion_50 : decode cX1_bestQuestion 50 = .ok (.iload_n 3, 1) := by decide +kernel
theorem dX1_bestQuestion_51 : decode cX1_bestQuestion 51 = .ok (.iaload, 1) := by decide +kernel
theorem dX1_bestQuestion_52 : decode cX1_bestQuestion 52 = .ok (.aload_n 0, 1) := by decide +kernel
theorem dX1_bestQuestion_53 : decode cX1_bestQuestion 53 = .ok (.getfield 84, 3) := by decide +kernel
theorem dX1_bestQuestion_56 : decode cX1_bestQuestion 56 = .ok (.aload_n 0, 1) := by decide +kernel
theorem dX1_bestQuestion_57 : decode cX1_bestQuestion 57 = .ok (.getfield 27, 3) := by decide +kernel
theorem dX1_bestQuestion_60 : decode cX1_bestQuestion 60 = .ok (.iload_n 3, 1) := by decide +kernel
theorem dX1_bestQuestion_61 : decode cX1_bestQuestion 61 = .ok (.iaload, 1) := by decide +kernel
theorem dX1_bestQuestion_62 : decode cX1_bestQuestion 62 = .ok (.isub, 1) := by decide +kernel
theorem dX1_bestQuestion_63 : decode cX1_bestQuestion 63 = .ok (.invokestatic 93, 3) := by decide +kernel
theorem dX1_bestQuestion_66 : decode cX1_bestQuestion 66 = .ok (.istore 4, 2) := by decide +kernel
theorem dX1_bestQuestion_68 : decode cX1_bestQuestion 68 = .ok (.iload 4, 2) := by decide +kernel
theorem dX1_bestQuestion_70 : decode cX1_bestQuestion 70 = .ok (.iload_n 2, 1) := by decide +kernel
theorem dX1_bestQuestion_71 : decode cX1_bestQuestion 71 = .ok (.if_icmp .ge 8, 3) := by decide +kernel
theorem dX1_bestQuestion_74 : decode cX1_bestQuestion 74 = .ok (.iload_n 3, 1) := by decide +kernel
theorem dX1_bestQuestion_75 : decode cX1_bestQuestion 75 = .ok (.istore_n 1, 1) := by decide +kernel
theorem dX1_bestQuestion_76 : decode cX1_bestQuestion 76 = .ok (.iload 4, 2) := by decide +kernel
theorem dX1_bestQuestion_78 : decode cX1_bestQuestion 78 = .ok (.istore_n 2, 1) := by decide +kernel
theorem dX1_bestQuestion_79 : decode cX1_bestQuestion 79 = .ok (.iinc 3 1, 3) := by decide +kernel
theorem dX1_bestQuestion_82 : decode cX1_bestQuestion 82 = .ok (.goto (-47), 3) := by decide +kernel
theorem dX1_bestQuestion_85 : decode cX1_bestQuestion 85 = .ok (.aload_n 0, 1) := by decide +kernel
theorem dX1_bestQuestion_86 : decode cX1_bestQuestion 86 = .ok (.getfield 34, 3) := by decide +kernel
theorem dX1_bestQuestion_89 : decode cX1_bestQuestion 89 = .ok (.iload_n 2, 1) := by decide +kernel
theorem dX1_bestQuestion_90 : decode cX1_bestQuestion 90 = .ok (.i2l, 1) := by decide +kernel
theorem dX1_bestQuestion_91 : decode cX1_bestQuestion 91 = .ok (.invokevirtual 48, 3) := by decide +kernel
theorem dX1_bestQuestion_94 : decode cX1_bestQuestion 94 = .ok (.iload_n 1, 1) := by decide +kernel
theorem dX1_bestQuestion_95 : decode cX1_bestQuestion 95 = .ok (.ireturn, 1) := by decide +kernel
theorem dX1_surveyWorlds_0 : decode cX1_surveyWorlds 0 = .ok (.aload_n 0, 1) := by decide +kernel
theorem dX1_surveyWorlds_1 : decode cX1_surveyWorlds 1 = .ok (.iconst 0, 1) := by decide +kernel
theorem dX1_surveyWorlds_2 : decode cX1_surveyWorlds 2 = .ok (.putfield 84, 3) := by decide +kernel
theorem dX1_surveyWorlds_5 : decode cX1_surveyWorlds 5 = .ok (.aload_n 0, 1) := by decide +kernel
theorem dX1_surveyWorlds_6 : decode cX1_surveyWorlds 6 = .ok (.iconst (-1), 1) := by decide +kernel
theorem dX1_surveyWorlds_7 : decode cX1_surveyWorlds 7 = .ok (.putfield 81, 3) := by decide +kernel
theorem dX1_surveyWorlds_10 : decode cX1_surveyWorlds 10 = .ok (.aload_n 0, 1) := by decide +kernel
theorem dX1_surveyWorlds_11 : decode cX1_surveyWorlds 11 = .ok (.iconst (-1), 1) := by decide +kernel
theorem dX1_surveyWorlds_12 : decode cX1_surveyWorlds 12 = .ok (.putfield 90, 3) := by decide +kernel
theorem dX1_surveyWorlds_15 : decode cX1_surveyWorlds 15 = .ok (.aload_n 0, 1) := by decide +kernel
theorem dX1_surveyWorlds_16 : decode cX1_surveyWorlds 16 = .ok (.iconst 0, 1) := by decide +kernel
theorem dX1_surveyWorlds_17 : decode cX1_surveyWorlds 17 = .ok (.putfield 87, 3) := by decide +kernel
theorem dX1_surveyWorlds_20 : decode cX1_surveyWorlds 20 = .ok (.iconst 0, 1) := by decide +kernel
theorem dX1_surveyWorlds_21 : decode cX1_surveyWorlds 21 = .ok (.istore_n 1, 1) := by decide +kernel
theorem dX1_surveyWorlds_22 : decode cX1_surveyWorlds 22 = .ok (.iload_n 1, 1) := by decide +kernel
theorem dX1_surveyWorlds_23 : decode cX1_surveyWorlds 23 = .ok (.aload_n 0, 1) := by decide +kernel
theorem dX1_surveyWorlds_24 : decode cX1_surveyWorlds 24 = .ok (.getfield 30, 3) := by decide +kernel
theorem dX1_surveyWorlds_27 : decode cX1_surveyWorlds 27 = .ok (.getfield 54, 3) := by decide +kernel
theorem dX1_surveyWorlds_30 : decode cX1_surveyWorlds 30 = .ok (.if_icmp .ge 16, 3) := by decide +kernel
theorem dX1_surveyWorlds_33 : decode cX1_surveyWorlds 33 = .ok (.aload_n 0, 1) := by decide +kernel
theorem dX1_surveyWorlds_34 : decode cX1_surveyWorlds 34 = .ok (.getfield 27, 3) := by decide +kernel
theorem dX1_surveyWorlds_37 : decode cX1_surveyWorlds 37 = .ok (.iload_n 1, 1) := by decide +kernel
theorem dX1_surveyWorlds_38 : decode cX1_surveyWorlds 38 = .ok (.iconst 0, 1) := by decide +kernel
theorem dX1_surveyWorlds_39 : decode cX1_surveyWorlds 39 = .ok (.iastore, 1) := by decide +kernel
theorem dX1_surveyWorlds_40 : decode cX1_surveyWorlds 40 = .ok (.iinc 1 1, 3) := by decide +kernel
theorem dX1_surveyWorlds_43 : decode cX1_surveyWorlds 43 = .ok (.goto (-21), 3) := by decide +kernel
theorem dX1_surveyWorlds_46 : decode cX1_surveyWorlds 46 = .ok (.iconst 0, 1) := by decide +kernel
theorem dX1_surveyWorlds_47 : decode cX1_surveyWorlds 47 = .ok (.istore_n 1, 1) := by decide +kernel
theorem dX1_surveyWorlds_48 : decode cX1_surveyWorlds 48 = .ok (.iload_n 1, 1) := by decide +kernel
theorem dX1_surveyWorlds_49 : decode cX1_surveyWorlds 49 = .ok (.iconst 1, 1) := by decide +kernel
theorem dX1_surveyWorlds_50 : decode cX1_surveyWorlds 50 = .ok (.aload_n 0, 1) := by decide +kernel
theorem dX1_surveyWorlds_51 : decode cX1_surveyWorlds 51 = .ok (.getfield 30, 3) := by decide +kernel
theorem dX1_surveyWorlds_54 : decode cX1_surveyWorlds 54 = .ok (.getfield 54, 3) := by decide +kernel
theorem dX1_surveyWorlds_57 : decode cX1_surveyWorlds 57 = .ok (.ishl, 1) := by decide +kernel
theorem dX1_surveyWorlds_58 : decode cX1_surveyWorlds 58 = .ok (.if_icmp .ge 22, 3) := by decide +kernel
theorem dX1_surveyWorlds_61 : decode cX1_surveyWorlds 61 = .ok (.aload_n 0, 1) := by decide +kernel
theorem dX1_surveyWorlds_62 : decode cX1_surveyWorlds 62 = .ok (.iload_n 1, 1) := by decide +kernel
theorem dX1_surveyWorlds_63 : decode cX1_surveyWorlds 63 = .ok (.invokevirtual 99, 3) := by decide +kernel
theorem dX1_surveyWorlds_66 : decode cX1_surveyWorlds 66 = .ok (.ifCond .eq 8, 3) := by decide +kernel
theorem dX1_surveyWorlds_69 : decode cX1_surveyWorlds 69 = .ok (.aload_n 0, 1) := by decide +kernel
theorem dX1_surveyWorlds_70 : decode cX1_surveyWorlds 70 = .ok (.iload_n 1, 1) := by decide +kernel
theorem dX1_surveyWorlds_71 : decode cX1_surveyWorlds 71 = .ok (.invokevirtual 103, 3) := by decide +kernel
theorem dX1_surveyWorlds_74 : decode cX1_surveyWorlds 74 = .ok (.iinc 1 1, 3) := by decide +kernel
theorem dX1_surveyWorlds_77 : decode cX1_surveyWorlds 77 = .ok (.goto (-29), 3) := by decide +kernel
theorem dX1_surveyWorlds_80 : decode cX1_surveyWorlds 80 = .ok (.return_, 1) := by decide +kernel
theorem dX1_noteWorld_0 : decode cX1_noteWorld 0 = .ok (.aload_n 0, 1) := by decide +kernel
theorem dX1_noteWorld_1 : decode cX1_noteWorld 1 = .ok (.getfield 84, 3) := by decide +kernel
theorem dX1_noteWorld_4 : decode cX1_noteWorld 4 = .ok (.ifCond .ne 8, 3) := by decide +kernel
theorem dX1_noteWorld_7 : decode cX1_noteWorld 7 = .ok (.aload_n 0, 1) := by decide +kernel
theorem dX1_noteWorld_8 : decode cX1_noteWorld 8 = .ok (.iload_n 1, 1) := by decide +kernel
theorem dX1_noteWorld_9 : decode cX1_noteWorld 9 = .ok (.putfield 81, 3) := by decide +kernel
theorem dX1_noteWorld_12 : decode cX1_noteWorld 12 = .ok (.aload_n 0, 1) := by decide +kernel
theorem dX1_noteWorld_13 : decode cX1_noteWorld 13 = .ok (.dup, 1) := by decide +kernel
theorem dX1_noteWorld_14 : decode cX1_noteWorld 14 = .ok (.getfield 84, 3) := by decide +kernel
theorem dX1_noteWorld_17 : decode cX1_noteWorld 17 = .ok (.iconst 1, 1) := by decide +kernel
theorem dX1_noteWorld_18 : decode cX1_noteWorld 18 = .ok (.iadd, 1) := by decide +kernel
theorem dX1_noteWorld_19 : decode cX1_noteWorld 19 = .ok (.putfield 84, 3) := by decide +kernel
theorem dX1_noteWorld_22 : decode cX1_noteWorld 22 = .ok (.aload_n 0, 1) := by decide +kernel
theorem dX1_noteWorld_23 : decode cX1_noteWorld 23 = .ok (.dup, 1) := by decide +kernel
theorem dX1_noteWorld_24 : decode cX1_noteWorld 24 = .ok (.getfield 90, 3) := by decide +kernel
theorem dX1_noteWorld_27 : decode cX1_noteWorld 27 = .ok (.iload_n 1, 1) := by decide +kernel
theorem dX1_noteWorld_28 : decode cX1_noteWorld 28 = .ok (.iand, 1) := by decide +kernel
theorem dX1_noteWorld_29 : decode cX1_noteWorld 29 = .ok (.putfield 90, 3) := by decide +kernel
theorem dX1_noteWorld_32 : decode cX1_noteWorld 32 = .ok (.aload_n 0, 1) := by decide +kernel
theorem dX1_noteWorld_33 : decode cX1_noteWorld 33 = .ok (.dup, 1) := by decide +kernel
theorem dX1_noteWorld_34 : decode cX1_noteWorld 34 = .ok (.getfield 87, 3) := by decide +kernel
theorem dX1_noteWorld_37 : decode cX1_noteWorld 37 = .ok (.iload_n 1, 1) := by decide +kernel
theorem dX1_noteWorld_38 : decode cX1_noteWorld 38 = .ok (.ior, 1) := by decide +kernel
theorem dX1_noteWorld_39 : decode cX1_noteWorld 39 = .ok (.putfield 87, 3) := by decide +kernel
theorem dX1_noteWorld_42 : decode cX1_noteWorld 42 = .ok (.iconst 0, 1) := by decide +kernel
theorem dX1_noteWorld_43 : decode cX1_noteWorld 43 = .ok (.istore_n 2, 1) := by decide +kernel
theorem dX1_noteWorld_44 : decode cX1_noteWorld 44 = .ok (.iload_n 2, 1) := by decide +kernel
theorem dX1_noteWorld_45 : decode cX1_noteWorld 45 = .ok (.aload_n 0, 1) := by decide +kernel
theorem dX1_noteWorld_46 : decode cX1_noteWorld 46 = .ok (.getfield 30, 3) := by decide +kernel
theorem dX1_noteWorld_49 : decode cX1_noteWorld 49 = .ok (.getfield 54, 3) := by decide +kernel
theorem dX1_noteWorld_52 : decode cX1_noteWorld 52 = .ok (.if_icmp .ge 23, 3) := by decide +kernel
theorem dX1_noteWorld_55 : decode cX1_noteWorld 55 = .ok (.aload_n 0, 1) := by decide +kernel
theorem dX1_noteWorld_56 : decode cX1_noteWorld 56 = .ok (.getfield 27, 3) := by decide +kernel
theorem dX1_noteWorld_59 : decode cX1_noteWorld 59 = .ok (.iload_n 2, 1) := by decide +kernel
theorem dX1_noteWorld_60 : decode cX1_noteWorld 60 = .ok (.dup2, 1) := by decide +kernel
theorem dX1_noteWorld_61 : decode cX1_noteWorld 61 = .ok (.iaload, 1) := by decide +kernel
theorem dX1_noteWorld_62 : decode cX1_noteWorld 62 = .ok (.iload_n 1, 1) := by decide +kernel
theorem dX1_noteWorld_63 : decode cX1_noteWorld 63 = .ok (.iload_n 2, 1) := by decide +kernel
theorem dX1_noteWorld_64 : decode cX1_noteWorld 64 = .ok (.ishr, 1) := by decide +kernel
theorem dX1_noteWorld_65 : decode cX1_noteWorld 65 = .ok (.iconst 1, 1) := by decide +kernel
theorem dX1_noteWorld_66 : decode cX1_noteWorld 66 = .ok (.iand, 1) := by decide +kernel
theorem dX1_noteWorld_67 : decode cX1_noteWorld 67 = .ok (.iadd, 1) := by decide +kernel
theorem dX1_noteWorld_68 : decode cX1_noteWorld 68 = .ok (.iastore, 1) := by decide +kernel
theorem dX1_noteWorld_69 : decode cX1_noteWorld 69 = .ok (.iinc 2 1, 3) := by decide +kernel
theorem dX1_noteWorld_72 : decode cX1_noteWorld 72 = .ok (.goto (-28), 3) := by decide +kernel
theorem dX1_noteWorld_75 : decode cX1_noteWorld 75 = .ok (.return_, 1) := by decide +kernel
theorem dX1_fitsAll_0 : decode cX1_fitsAll 0 = .ok (.iconst 0, 1) := by decide +kernel
theorem dX1_fitsAll_1 : decode cX1_fitsAll 1 = .ok (.istore_n 2, 1) := by decide +kernel
theorem dX1_fitsAll_2 : decode cX1_fitsAll 2 = .ok (.iload_n 2, 1) := by decide +kernel
theorem dX1_fitsAll_3 : decode cX1_fitsAll 3 = .ok (.aload_n 0, 1) := by decide +kernel
theorem dX1_fitsAll_4 : decode cX1_fitsAll 4 = .ok (.getfield 75, 3) := by decide +kernel
theorem dX1_fitsAll_7 : decode cX1_fitsAll 7 = .ok (.if_icmp .ge 59, 3) := by decide +kernel
theorem dX1_fitsAll_10 : decode cX1_fitsAll 10 = .ok (.aload_n 0, 1) := by decide +kernel
theorem dX1_fitsAll_11 : decode cX1_fitsAll 11 = .ok (.getfield 30, 3) := by decide +kernel
theorem dX1_fitsAll_14 : decode cX1_fitsAll 14 = .ok (.aload_n 0, 1) := by decide +kernel
theorem dX1_fitsAll_15 : decode cX1_fitsAll 15 = .ok (.getfield 11, 3) := by decide +kernel
theorem dX1_fitsAll_18 : decode cX1_fitsAll 18 = .ok (.iload_n 2, 1) := by decide +kernel
theorem dX1_fitsAll_19 : decode cX1_fitsAll 19 = .ok (.iaload, 1) := by decide +kernel
theorem dX1_fitsAll_20 : decode cX1_fitsAll 20 = .ok (.iload_n 1, 1) := by decide +kernel
theorem dX1_fitsAll_21 : decode cX1_fitsAll 21 = .ok (.iand, 1) := by decide +kernel
theorem dX1_fitsAll_22 : decode cX1_fitsAll 22 = .ok (.invokevirtual 63, 3) := by decide +kernel
theorem dX1_fitsAll_25 : decode cX1_fitsAll 25 = .ok (.istore_n 3, 1) := by decide +kernel
theorem dX1_fitsAll_26 : decode cX1_fitsAll 26 = .ok (.aload_n 0, 1) := by decide +kernel
theorem dX1_fitsAll_27 : decode cX1_fitsAll 27 = .ok (.getfield 30, 3) := by decide +kernel
theorem dX1_fitsAll_30 : decode cX1_fitsAll 30 = .ok (.aload_n 0, 1) := by decide +kernel
theorem dX1_fitsAll_31 : decode cX1_fitsAll 31 = .ok (.getfield 11, 3) := by decide +kernel
theorem dX1_fitsAll_34 : decode cX1_fitsAll 34 = .ok (.iload_n 2, 1) := by decide +kernel
theorem dX1_fitsAll_35 : decode cX1_fitsAll 35 = .ok (.iaload, 1) := by decide +kernel
theorem dX1_fitsAll_36 : decode cX1_fitsAll 36 = .ok (.iload_n 1, 1) := by decide +kernel
theorem dX1_fitsAll_37 : decode cX1_fitsAll 37 = .ok (.iconst (-1), 1) := by decide +kernel
theorem dX1_fitsAll_38 : decode cX1_fitsAll 38 = .ok (.ixor, 1) := by decide +kernel
theorem dX1_fitsAll_39 : decode cX1_fitsAll 39 = .ok (.iand, 1) := by decide +kernel
theorem dX1_fitsAll_40 : decode cX1_fitsAll 40 = .ok (.invokevirtual 63, 3) := by decide +kernel
theorem dX1_fitsAll_43 : decode cX1_fitsAll 43 = .ok (.istore 4, 2) := by decide +kernel
theorem dX1_fitsAll_45 : decode cX1_fitsAll 45 = .ok (.iload_n 3, 1) := by decide +kernel
theorem dX1_fitsAll_46 : decode cX1_fitsAll 46 = .ok (.iload 4, 2) := by decide +kernel
theorem dX1_fitsAll_48 : decode cX1_fitsAll 48 = .ok (.isub, 1) := by decide +kernel
theorem dX1_fitsAll_49 : decode cX1_fitsAll 49 = .ok (.aload_n 0, 1) := by decide +kernel
theorem dX1_fitsAll_50 : decode cX1_fitsAll 50 = .ok (.getfield 15, 3) := by decide +kernel
theorem dX1_fitsAll_53 : decode cX1_fitsAll 53 = .ok (.iload_n 2, 1) := by decide +kernel
theorem dX1_fitsAll_54 : decode cX1_fitsAll 54 = .ok (.iaload, 1) := by decide +kernel
theorem dX1_fitsAll_55 : decode cX1_fitsAll 55 = .ok (.if_icmp .eq 5, 3) := by decide +kernel
theorem dX1_fitsAll_58 : decode cX1_fitsAll 58 = .ok (.iconst 0, 1) := by decide +kernel
theorem dX1_fitsAll_59 : decode cX1_fitsAll 59 = .ok (.ireturn, 1) := by decide +kernel
theorem dX1_fitsAll_60 : decode cX1_fitsAll 60 = .ok (.iinc 2 1, 3) := by decide +kernel
theorem dX1_fitsAll_63 : decode cX1_fitsAll 63 = .ok (.goto (-61), 3) := by decide +kernel
theorem dX1_fitsAll_66 : decode cX1_fitsAll 66 = .ok (.iconst 1, 1) := by decide +kernel
theorem dX1_fitsAll_67 : decode cX1_fitsAll 67 = .ok (.ireturn, 1) := by decide +kernel
theorem dX1_leastHarm_0 : decode cX1_leastHarm 0 = .ok (.iconst 0, 1) := by decide +kernel
theorem dX1_leastHarm_1 : decode cX1_leastHarm 1 = .ok (.istore_n 3, 1) := by decide +kernel
theorem dX1_leastHarm_2 : decode cX1_leastHarm 2 = .ok (.iconst (-1), 1) := by decide +kernel
theorem dX1_leastHarm_3 : decode cX1_leastHarm 3 = .ok (.istore 4, 2) := by decide +kernel
theorem dX1_leastHarm_5 : decode cX1_leastHarm 5 = .ok (.iconst 0, 1) := by decide +kernel
theorem dX1_leastHarm_6 : decode cX1_leastHarm 6 = .ok (.istore 5, 2) := by decide +kernel
theorem dX1_leastHarm_8 : decode cX1_leastHarm 8 = .ok (.iload 5, 2) := by decide +kernel
theorem dX1_leastHarm_10 : decode cX1_leastHarm 10 = .ok (.iload_n 1, 1) := by decide +kernel
theorem dX1_leastHarm_11 : decode cX1_leastHarm 11 = .ok (.if_icmp .gt 68, 3) := by decide +kernel
theorem dX1_leastHarm_14 : decode cX1_leastHarm 14 = .ok (.iload 5, 2) := by decide +kernel
theorem dX1_leastHarm_16 : decode cX1_leastHarm 16 = .ok (.iload_n 1, 1) := by decide +kernel
theorem dX1_leastHarm_17 : decode cX1_leastHarm 17 = .ok (.iconst (-1), 1) := by decide +kernel
theorem dX1_leastHarm_18 : decode cX1_leastHarm 18 = .ok (.ixor, 1) := by decide +kernel
theorem dX1_leastHarm_19 : decode cX1_leastHarm 19 = .ok (.iand, 1) := by decide +kernel
theorem dX1_leastHarm_20 : decode cX1_leastHarm 20 = .ok (.ifCond .ne 53, 3) := by decide +kernel
theorem dX1_leastHarm_23 : decode cX1_leastHarm 23 = .ok (.iload 5, 2) := by decide +kernel
theorem dX1_leastHarm_25 : decode cX1_leastHarm 25 = .ok (.invokestatic 38, 3) := by decide +kernel
theorem dX1_leastHarm_28 : decode cX1_leastHarm 28 = .ok (.iload_n 2, 1) := by decide +kernel
theorem dX1_leastHarm_29 : decode cX1_leastHarm 29 = .ok (.if_icmp .ne 44, 3) := by decide +kernel
theorem dX1_leastHarm_32 : decode cX1_leastHarm 32 = .ok (.aload_n 0, 1) := by decide +kernel
theorem dX1_leastHarm_33 : decode cX1_leastHarm 33 = .ok (.getfield 30, 3) := by decide +kernel
theorem dX1_leastHarm_36 : decode cX1_leastHarm 36 = .ok (.iload 5, 2) := by decide +kernel
theorem dX1_leastHarm_38 : decode cX1_leastHarm 38 = .ok (.invokevirtual 107, 3) := by decide +kernel
theorem dX1_leastHarm_41 : decode cX1_leastHarm 41 = .ok (.istore 6, 2) := by decide +kernel
theorem dX1_leastHarm_43 : decode cX1_leastHarm 43 = .ok (.iload 6, 2) := by decide +kernel
theorem dX1_leastHarm_45 : decode cX1_leastHarm 45 = .ok (.iload 4, 2) := by decide +kernel
theorem dX1_leastHarm_47 : decode cX1_leastHarm 47 = .ok (.if_icmp .gt 19, 3) := by decide +kernel
theorem dX1_leastHarm_50 : decode cX1_leastHarm 50 = .ok (.iload 6, 2) := by decide +kernel
theorem dX1_leastHarm_52 : decode cX1_leastHarm 52 = .ok (.iload 4, 2) := by decide +kernel
theorem dX1_leastHarm_54 : decode cX1_leastHarm 54 = .ok (.if_icmp .ne 19, 3) := by decide +kernel
theorem dX1_leastHarm_57 : decode cX1_leastHarm 57 = .ok (.iload 5, 2) := by decide +kernel
theorem dX1_leastHarm_59 : decode cX1_leastHarm 59 = .ok (.iload_n 3, 1) := by decide +kernel
theorem dX1_leastHarm_60 : decode cX1_leastHarm 60 = .ok (.invokestatic 110, 3) := by decide +kernel
theorem dX1_leastHarm_63 : decode cX1_leastHarm 63 = .ok (.ifCond .eq 10, 3) := by decide +kernel
theorem dX1_leastHarm_66 : decode cX1_leastHarm 66 = .ok (.iload 5, 2) := by decide +kernel
theorem dX1_leastHarm_68 : decode cX1_leastHarm 68 = .ok (.istore_n 3, 1) := by decide +kernel
theorem dX1_leastHarm_69 : decode cX1_leastHarm 69 = .ok (.iload 6, 2) := by decide +kernel
theorem dX1_leastHarm_71 : decode cX1_leastHarm 71 = .ok (.istore 4, 2) := by decide +kernel
theorem dX1_leastHarm_73 : decode cX1_leastHarm 73 = .ok (.iinc 5 1, 3) := by decide +kernel
theorem dX1_leastHarm_76 : decode cX1_leastHarm 76 = .ok (.goto (-68), 3) := by decide +kernel
theorem dX1_leastHarm_79 : decode cX1_leastHarm 79 = .ok (.aload_n 0, 1) := by decide +kernel
theorem dX1_leastHarm_80 : decode cX1_leastHarm 80 = .ok (.getfield 34, 3) := by decide +kernel
theorem dX1_leastHarm_83 : decode cX1_leastHarm 83 = .ok (.invokevirtual 113, 3) := by decide +kernel
theorem dX1_leastHarm_86 : decode cX1_leastHarm 86 = .ok (.aload_n 0, 1) := by decide +kernel
theorem dX1_leastHarm_87 : decode cX1_leastHarm 87 = .ok (.getfield 34, 3) := by decide +kernel
theorem dX1_leastHarm_90 : decode cX1_leastHarm 90 = .ok (.iload_n 3, 1) := by decide +kernel
theorem dX1_leastHarm_91 : decode cX1_leastHarm 91 = .ok (.invokevirtual 116, 3) := by decide +kernel
theorem dX1_leastHarm_94 : decode cX1_leastHarm 94 = .ok (.aload_n 0, 1) := by decide +kernel
theorem dX1_leastHarm_95 : decode cX1_leastHarm 95 = .ok (.getfield 34, 3) := by decide +kernel
theorem dX1_leastHarm_98 : decode cX1_leastHarm 98 = .ok (.iload_n 1, 1) := by decide +kernel
theorem dX1_leastHarm_99 : decode cX1_leastHarm 99 = .ok (.iload_n 3, 1) := by decide +kernel
theorem dX1_leastHarm_100 : decode cX1_leastHarm 100 = .ok (.iconst (-1), 1) := by decide +kernel
theorem dX1_leastHarm_101 : decode cX1_leastHarm 101 = .ok (.ixor, 1) := by decide +kernel
theorem dX1_leastHarm_102 : decode cX1_leastHarm 102 = .ok (.iand, 1) := by decide +kernel
theorem dX1_leastHarm_103 : decode cX1_leastHarm 103 = .ok (.invokevirtual 116, 3) := by decide +kernel
theorem dX1_leastHarm_106 : decode cX1_leastHarm 106 = .ok (.aload_n 0, 1) := by decide +kernel
theorem dX1_leastHarm_107 : decode cX1_leastHarm 107 = .ok (.getfield 30, 3) := by decide +kernel
theorem dX1_leastHarm_110 : decode cX1_leastHarm 110 = .ok (.iload_n 1, 1) := by decide +kernel
theorem dX1_leastHarm_111 : decode cX1_leastHarm 111 = .ok (.iload_n 3, 1) := by decide +kernel
theorem dX1_leastHarm_112 : decode cX1_leastHarm 112 = .ok (.iconst (-1), 1) := by decide +kernel
theorem dX1_leastHarm_113 : decode cX1_leastHarm 113 = .ok (.ixor, 1) := by decide +kernel
theorem dX1_leastHarm_114 : decode cX1_leastHarm 114 = .ok (.iand, 1) := by decide +kernel
theorem dX1_leastHarm_115 : decode cX1_leastHarm 115 = .ok (.invokevirtual 107, 3) := by decide +kernel
theorem dX1_leastHarm_118 : decode cX1_leastHarm 118 = .ok (.ireturn, 1) := by decide +kernel
theorem dX1_isLesserRow_0 : decode cX1_isLesserRow 0 = .ok (.iload_n 0, 1) := by decide +kernel
theorem dX1_isLesserRow_1 : decode cX1_isLesserRow 1 = .ok (.iload_n 1, 1) := by decide +kernel
theorem dX1_isLesserRow_2 : decode cX1_isLesserRow 2 = .ok (.ixor, 1) := by decide +kernel
theorem dX1_isLesserRow_3 : decode cX1_isLesserRow 3 = .ok (.istore_n 2, 1) := by decide +kernel
theorem dX1_isLesserRow_4 : decode cX1_isLesserRow 4 = .ok (.iload_n 2, 1) := by decide +kernel
theorem dX1_isLesserRow_5 : decode cX1_isLesserRow 5 = .ok (.iload_n 2, 1) := by decide +kernel
theorem dX1_isLesserRow_6 : decode cX1_isLesserRow 6 = .ok (.ineg, 1) := by decide +kernel
theorem dX1_isLesserRow_7 : decode cX1_isLesserRow 7 = .ok (.iand, 1) := by decide +kernel
theorem dX1_isLesserRow_8 : decode cX1_isLesserRow 8 = .ok (.iload_n 0, 1) := by decide +kernel
theorem dX1_isLesserRow_9 : decode cX1_isLesserRow 9 = .ok (.iand, 1) := by decide +kernel
theorem dX1_isLesserRow_10 : decode cX1_isLesserRow 10 = .ok (.ifCond .eq 7, 3) := by decide +kernel
theorem dX1_isLesserRow_13 : decode cX1_isLesserRow 13 = .ok (.iconst 1, 1) := by decide +kernel
theorem dX1_isLesserRow_14 : decode cX1_isLesserRow 14 = .ok (.goto 4, 3) := by decide +kernel
theorem dX1_isLesserRow_17 : decode cX1_isLesserRow 17 = .ok (.iconst 0, 1) := by decide +kernel
theorem dX1_isLesserRow_18 : decode cX1_isLesserRow 18 = .ok (.ireturn, 1) := by decide +kernel
theorem dX1_addClaim_0 : decode cX1_addClaim 0 = .ok (.aload_n 0, 1) := by decide +kernel
theorem dX1_addClaim_1 : decode cX1_addClaim 1 = .ok (.getfield 119, 3) := by decide +kernel
theorem dX1_addClaim_4 : decode cX1_addClaim 4 = .ok (.bipush 16, 2) := by decide +kernel
theorem dX1_addClaim_6 : decode cX1_addClaim 6 = .ok (.if_icmp .lt 5, 3) := by decide +kernel
theorem dX1_addClaim_9 : decode cX1_addClaim 9 = .ok (.iconst (-1), 1) := by decide +kernel
theorem dX1_addClaim_10 : decode cX1_addClaim 10 = .ok (.ireturn, 1) := by decide +kernel
theorem dX1_addClaim_11 : decode cX1_addClaim 11 = .ok (.aload_n 0, 1) := by decide +kernel
theorem dX1_addClaim_12 : decode cX1_addClaim 12 = .ok (.getfield 18, 3) := by decide +kernel
theorem dX1_addClaim_15 : decode cX1_addClaim 15 = .ok (.aload_n 0, 1) := by decide +kernel
theorem dX1_addClaim_16 : decode cX1_addClaim 16 = .ok (.getfield 119, 3) := by decide +kernel
theorem dX1_addClaim_19 : decode cX1_addClaim 19 = .ok (.iload_n 1, 1) := by decide +kernel
theorem dX1_addClaim_20 : decode cX1_addClaim 20 = .ok (.iastore, 1) := by decide +kernel
theorem dX1_addClaim_21 : decode cX1_addClaim 21 = .ok (.aload_n 0, 1) := by decide +kernel
theorem dX1_addClaim_22 : decode cX1_addClaim 22 = .ok (.getfield 21, 3) := by decide +kernel
theorem dX1_addClaim_25 : decode cX1_addClaim 25 = .ok (.aload_n 0, 1) := by decide +kernel
theorem dX1_addClaim_26 : decode cX1_addClaim 26 = .ok (.getfield 119, 3) := by decide +kernel
theorem dX1_addClaim_29 : decode cX1_addClaim 29 = .ok (.iload_n 2, 1) := by decide +kernel
theorem dX1_addClaim_30 : decode cX1_addClaim 30 = .ok (.iastore, 1) := by decide +kernel
theorem dX1_addClaim_31 : decode cX1_addClaim 31 = .ok (.aload_n 0, 1) := by decide +kernel
theorem dX1_addClaim_32 : decode cX1_addClaim 32 = .ok (.getfield 24, 3) := by decide +kernel
theorem dX1_addClaim_35 : decode cX1_addClaim 35 = .ok (.aload_n 0, 1) := by decide +kernel
theorem dX1_addClaim_36 : decode cX1_addClaim 36 = .ok (.getfield 119, 3) := by decide +kernel
theorem dX1_addClaim_39 : decode cX1_addClaim 39 = .ok (.iload_n 3, 1) := by decide +kernel
theorem dX1_addClaim_40 : decode cX1_addClaim 40 = .ok (.iastore, 1) := by decide +kernel
theorem dX1_addClaim_41 : decode cX1_addClaim 41 = .ok (.aload_n 0, 1) := by decide +kernel
theorem dX1_addClaim_42 : decode cX1_addClaim 42 = .ok (.dup, 1) := by decide +kernel
theorem dX1_addClaim_43 : decode cX1_addClaim 43 = .ok (.getfield 119, 3) := by decide +kernel
theorem dX1_addClaim_46 : decode cX1_addClaim 46 = .ok (.iconst 1, 1) := by decide +kernel
theorem dX1_addClaim_47 : decode cX1_addClaim 47 = .ok (.iadd, 1) := by decide +kernel
theorem dX1_addClaim_48 : decode cX1_addClaim 48 = .ok (.putfield 119, 3) := by decide +kernel
theorem dX1_addClaim_51 : decode cX1_addClaim 51 = .ok (.aload_n 0, 1) := by decide +kernel
theorem dX1_addClaim_52 : decode cX1_addClaim 52 = .ok (.getfield 119, 3) := by decide +kernel
theorem dX1_addClaim_55 : decode cX1_addClaim 55 = .ok (.ireturn, 1) := by decide +kernel
theorem dX1_takeClaimsBack_0 : decode cX1_takeClaimsBack 0 = .ok (.aload_n 0, 1) := by decide +kernel
theorem dX1_takeClaimsBack_1 : decode cX1_takeClaimsBack 1 = .ok (.getfield 119, 3) := by decide +kernel
theorem dX1_takeClaimsBack_4 : decode cX1_takeClaimsBack 4 = .ok (.istore_n 1, 1) := by decide +kernel
theorem dX1_takeClaimsBack_5 : decode cX1_takeClaimsBack 5 = .ok (.aload_n 0, 1) := by decide +kernel
theorem dX1_takeClaimsBack_6 : decode cX1_takeClaimsBack 6 = .ok (.iconst 0, 1) := by decide +kernel
theorem dX1_takeClaimsBack_7 : decode cX1_takeClaimsBack 7 = .ok (.putfield 119, 3) := by decide +kernel
theorem dX1_takeClaimsBack_10 : decode cX1_takeClaimsBack 10 = .ok (.iload_n 1, 1) := by decide +kernel
theorem dX1_takeClaimsBack_11 : decode cX1_takeClaimsBack 11 = .ok (.ireturn, 1) := by decide +kernel
theorem dX1_fewestDisbelieved_0 : decode cX1_fewestDisbelieved 0 = .ok (.iconst 0, 1) := by decide +kernel
theorem dX1_fewestDisbelieved_1 : decode cX1_fewestDisbelieved 1 = .ok (.istore_n 1, 1) := by decide +kernel
theorem dX1_fewestDisbelieved_2 : decode cX1_fewestDisbelieved 2 = .ok (.iload_n 1, 1) := by decide +kernel
theorem dX1_fewestDisbelieved_3 : decode cX1_fewestDisbelieved 3 = .ok (.iconst 4, 1) := by decide +kernel
theorem dX1_fewestDisbelieved_4 : decode cX1_fewestDisbelieved 4 = .ok (.if_icmp .ge 50, 3) := by decide +kernel
theorem dX1_fewestDisbelieved_7 : decode cX1_fewestDisbelieved 7 = .ok (.iconst 0, 1) := by decide +kernel
theorem dX1_fewestDisbelieved_8 : decode cX1_fewestDisbelieved 8 = .ok (.istore_n 2, 1) := by decide +kernel
theorem dX1_fewestDisbelieved_9 : decode cX1_fewestDisbelieved 9 = .ok (.iload_n 2, 1) := by decide +kernel
theorem dX1_fewestDisbelieved_10 : decode cX1_fewestDisbelieved 10 = .ok (.bipush 16, 2) := by decide +kernel
theorem dX1_fewestDisbelieved_12 : decode cX1_fewestDisbelieved 12 = .ok (.if_icmp .ge 36, 3) := by decide +kernel
theorem dX1_fewestDisbelieved_15 : decode cX1_fewestDisbelieved 15 = .ok (.iload_n 2, 1) := by decide +kernel
theorem dX1_fewestDisbelieved_16 : decode cX1_fewestDisbelieved 16 = .ok (.invokestatic 38, 3) := by decide +kernel
theorem dX1_fewestDisbelieved_19 : decode cX1_fewestDisbelieved 19 = .ok (.iload_n 1, 1) := by decide +kernel
theorem dX1_fewestDisbelieved_20 : decode cX1_fewestDisbelieved 20 = .ok (.if_icmp .ne 22, 3) := by decide +kernel
theorem dX1_fewestDisbelieved_23 : decode cX1_fewestDisbelieved 23 = .ok (.aload_n 0, 1) := by decide +kernel
theorem dX1_fewestDisbelieved_24 : decode cX1_fewestDisbelieved 24 = .ok (.iload_n 2, 1) := by decide +kernel
theorem dX1_fewestDisbelieved_25 : decode cX1_fewestDisbelieved 25 = .ok (.invokevirtual 122, 3) := by decide +kernel
theorem dX1_fewestDisbelieved_28 : decode cX1_fewestDisbelieved 28 = .ok (.ifCond .eq 14, 3) := by decide +kernel
theorem dX1_fewestDisbelieved_31 : decode cX1_fewestDisbelieved 31 = .ok (.aload_n 0, 1) := by decide +kernel
theorem dX1_fewestDisbelieved_32 : decode cX1_fewestDisbelieved 32 = .ok (.getfield 34, 3) := by decide +kernel
theorem dX1_fewestDisbelieved_35 : decode cX1_fewestDisbelieved 35 = .ok (.iload_n 2, 1) := by decide +kernel
theorem dX1_fewestDisbelieved_36 : decode cX1_fewestDisbelieved 36 = .ok (.i2l, 1) := by decide +kernel
theorem dX1_fewestDisbelieved_37 : decode cX1_fewestDisbelieved 37 = .ok (.invokevirtual 48, 3) := by decide +kernel
theorem dX1_fewestDisbelieved_40 : decode cX1_fewestDisbelieved 40 = .ok (.iload_n 1, 1) := by decide +kernel
theorem dX1_fewestDisbelieved_41 : decode cX1_fewestDisbelieved 41 = .ok (.ireturn, 1) := by decide +kernel
theorem dX1_fewestDisbelieved_42 : decode cX1_fewestDisbelieved 42 = .ok (.iinc 2 1, 3) := by decide +kernel
theorem dX1_fewestDisbelieved_45 : decode cX1_fewestDisbelieved 45 = .ok (.goto (-36), 3) := by decide +kernel
theorem dX1_fewestDisbelieved_48 : decode cX1_fewestDisbelieved 48 = .ok (.iinc 1 1, 3) := by decide +kernel
theorem dX1_fewestDisbelieved_51 : decode cX1_fewestDisbelieved 51 = .ok (.goto (-49), 3) := by decide +kernel
theorem dX1_fewestDisbelieved_54 : decode cX1_fewestDisbelieved 54 = .ok (.aload_n 0, 1) := by decide +kernel
theorem dX1_fewestDisbelieved_55 : decode cX1_fewestDisbelieved 55 = .ok (.getfield 34, 3) := by decide +kernel
theorem dX1_fewestDisbelieved_58 : decode cX1_fewestDisbelieved 58 = .ok (.ldc2_w 125, 3) := by decide +kernel
theorem dX1_fewestDisbelieved_61 : decode cX1_fewestDisbelieved 61 = .ok (.invokevirtual 48, 3) := by decide +kernel
theorem dX1_fewestDisbelieved_64 : decode cX1_fewestDisbelieved 64 = .ok (.iconst 4, 1) := by decide +kernel
theorem dX1_fewestDisbelieved_65 : decode cX1_fewestDisbelieved 65 = .ok (.ireturn, 1) := by decide +kernel
theorem dX1_agreeWithout_0 : decode cX1_agreeWithout 0 = .ok (.iconst 0, 1) := by decide +kernel
theorem dX1_agreeWithout_1 : decode cX1_agreeWithout 1 = .ok (.istore_n 2, 1) := by decide +kernel
theorem dX1_agreeWithout_2 : decode cX1_agreeWithout 2 = .ok (.iconst 0, 1) := by decide +kernel
theorem dX1_agreeWithout_3 : decode cX1_agreeWithout 3 = .ok (.istore_n 3, 1) := by decide +kernel
theorem dX1_agreeWithout_4 : decode cX1_agreeWithout 4 = .ok (.iconst 0, 1) := by decide +kernel
theorem dX1_agreeWithout_5 : decode cX1_agreeWithout 5 = .ok (.istore 4, 2) := by decide +kernel
theorem dX1_agreeWithout_7 : decode cX1_agreeWithout 7 = .ok (.iload 4, 2) := by decide +kernel
theorem dX1_agreeWithout_9 : decode cX1_agreeWithout 9 = .ok (.aload_n 0, 1) := by decide +kernel
theorem dX1_agreeWithout_10 : decode cX1_agreeWithout 10 = .ok (.getfield 119, 3) := by decide +kernel
theorem dX1_agreeWithout_13 : decode cX1_agreeWithout 13 = .ok (.if_icmp .ge 61, 3) := by decide +kernel
theorem dX1_agreeWithout_16 : decode cX1_agreeWithout 16 = .ok (.iload_n 1, 1) := by decide +kernel
theorem dX1_agreeWithout_17 : decode cX1_agreeWithout 17 = .ok (.aload_n 0, 1) := by decide +kernel
theorem dX1_agreeWithout_18 : decode cX1_agreeWithout 18 = .ok (.getfield 18, 3) := by decide +kernel
theorem dX1_agreeWithout_21 : decode cX1_agreeWithout 21 = .ok (.iload 4, 2) := by decide +kernel
theorem dX1_agreeWithout_23 : decode cX1_agreeWithout 23 = .ok (.iaload, 1) := by decide +kernel
theorem dX1_agreeWithout_24 : decode cX1_agreeWithout 24 = .ok (.ishr, 1) := by decide +kernel
theorem dX1_agreeWithout_25 : decode cX1_agreeWithout 25 = .ok (.iconst 1, 1) := by decide +kernel
theorem dX1_agreeWithout_26 : decode cX1_agreeWithout 26 = .ok (.iand, 1) := by decide +kernel
theorem dX1_agreeWithout_27 : decode cX1_agreeWithout 27 = .ok (.ifCond .ne 41, 3) := by decide +kernel
theorem dX1_agreeWithout_30 : decode cX1_agreeWithout 30 = .ok (.iload_n 2, 1) := by decide +kernel
theorem dX1_agreeWithout_31 : decode cX1_agreeWithout 31 = .ok (.aload_n 0, 1) := by decide +kernel
theorem dX1_agreeWithout_32 : decode cX1_agreeWithout 32 = .ok (.getfield 24, 3) := by decide +kernel
theorem dX1_agreeWithout_35 : decode cX1_agreeWithout 35 = .ok (.iload 4, 2) := by decide +kernel
theorem dX1_agreeWithout_37 : decode cX1_agreeWithout 37 = .ok (.iaload, 1) := by decide +kernel
theorem dX1_agreeWithout_38 : decode cX1_agreeWithout 38 = .ok (.aload_n 0, 1) := by decide +kernel
theorem dX1_agreeWithout_39 : decode cX1_agreeWithout 39 = .ok (.getfield 21, 3) := by decide +kernel
theorem dX1_agreeWithout_42 : decode cX1_agreeWithout 42 = .ok (.iload 4, 2) := by decide +kernel
theorem dX1_agreeWithout_44 : decode cX1_agreeWithout 44 = .ok (.iaload, 1) := by decide +kernel
theorem dX1_agreeWithout_45 : decode cX1_agreeWithout 45 = .ok (.ishl, 1) := by decide +kernel
theorem dX1_agreeWithout_46 : decode cX1_agreeWithout 46 = .ok (.ior, 1) := by decide +kernel
theorem dX1_agreeWithout_47 : decode cX1_agreeWithout 47 = .ok (.istore_n 2, 1) := by decide +kernel
theorem dX1_agreeWithout_48 : decode cX1_agreeWithout 48 = .ok (.iload_n 3, 1) := by decide +kernel
theorem dX1_agreeWithout_49 : decode cX1_agreeWithout 49 = .ok (.iconst 1, 1) := by decide +kernel
theorem dX1_agreeWithout_50 : decode cX1_agreeWithout 50 = .ok (.aload_n 0, 1) := by decide +kernel
theorem dX1_agreeWithout_51 : decode cX1_agreeWithout 51 = .ok (.getfield 24, 3) := by decide +kernel
theorem dX1_agreeWithout_54 : decode cX1_agreeWithout 54 = .ok (.iload 4, 2) := by decide +kernel
theorem dX1_agreeWithout_56 : decode cX1_agreeWithout 56 = .ok (.iaload, 1) := by decide +kernel
theorem dX1_agreeWithout_57 : decode cX1_agreeWithout 57 = .ok (.isub, 1) := by decide +kernel
theorem dX1_agreeWithout_58 : decode cX1_agreeWithout 58 = .ok (.aload_n 0, 1) := by decide +kernel
theorem dX1_agreeWithout_59 : decode cX1_agreeWithout 59 = .ok (.getfield 21, 3) := by decide +kernel
theorem dX1_agreeWithout_62 : decode cX1_agreeWithout 62 = .ok (.iload 4, 2) := by decide +kernel
theorem dX1_agreeWithout_64 : decode cX1_agreeWithout 64 = .ok (.iaload, 1) := by decide +kernel
theorem dX1_agreeWithout_65 : decode cX1_agreeWithout 65 = .ok (.ishl, 1) := by decide +kernel
theorem dX1_agreeWithout_66 : decode cX1_agreeWithout 66 = .ok (.ior, 1) := by decide +kernel
theorem dX1_agreeWithout_67 : decode cX1_agreeWithout 67 = .ok (.istore_n 3, 1) := by decide +kernel
theorem dX1_agreeWithout_68 : decode cX1_agreeWithout 68 = .ok (.iinc 4 1, 3) := by decide +kernel
theorem dX1_agreeWithout_71 : decode cX1_agreeWithout 71 = .ok (.goto (-64), 3) := by decide +kernel
theorem dX1_agreeWithout_74 : decode cX1_agreeWithout 74 = .ok (.iload_n 2, 1) := by decide +kernel
theorem dX1_agreeWithout_75 : decode cX1_agreeWithout 75 = .ok (.iload_n 3, 1) := by decide +kernel
theorem dX1_agreeWithout_76 : decode cX1_agreeWithout 76 = .ok (.iand, 1) := by decide +kernel
theorem dX1_agreeWithout_77 : decode cX1_agreeWithout 77 = .ok (.ifCond .ne 7, 3) := by decide +kernel
theorem dX1_agreeWithout_80 : decode cX1_agreeWithout 80 = .ok (.iconst 1, 1) := by decide +kernel
theorem dX1_agreeWithout_81 : decode cX1_agreeWithout 81 = .ok (.goto 4, 3) := by decide +kernel
theorem dX1_agreeWithout_84 : decode cX1_agreeWithout 84 = .ok (.iconst 0, 1) := by decide +kernel
theorem dX1_agreeWithout_85 : decode cX1_agreeWithout 85 = .ok (.ireturn, 1) := by decide +kernel
theorem dX2_init_0 : decode cX2_init 0 = .ok (.aload_n 0, 1) := by decide +kernel
theorem dX2_init_1 : decode cX2_init 1 = .ok (.invokespecial 3, 3) := by decide +kernel
theorem dX2_init_4 : decode cX2_init 4 = .ok (.aload_n 0, 1) := by decide +kernel
theorem dX2_init_5 : decode cX2_init 5 = .ok (.bipush 12, 2) := by decide +kernel
theorem dX2_init_7 : decode cX2_init 7 = .ok (.anewarray 11, 3) := by decide +kernel
theorem dX2_init_10 : decode cX2_init 10 = .ok (.putfield 13, 3) := by decide +kernel
theorem dX2_init_13 : decode cX2_init 13 = .ok (.aload_n 0, 1) := by decide +kernel
theorem dX2_init_14 : decode cX2_init 14 = .ok (.iconst 2, 1) := by decide +kernel
theorem dX2_init_15 : decode cX2_init 15 = .ok (.anewarray 11, 3) := by decide +kernel
theorem dX2_init_18 : decode cX2_init 18 = .ok (.putfield 17, 3) := by decide +kernel
theorem dX2_init_21 : decode cX2_init 21 = .ok (.aload_n 0, 1) := by decide +kernel
theorem dX2_init_22 : decode cX2_init 22 = .ok (.new 11, 3) := by decide +kernel
theorem dX2_init_25 : decode cX2_init 25 = .ok (.dup, 1) := by decide +kernel
theorem dX2_init_26 : decode cX2_init 26 = .ok (.invokespecial 20, 3) := by decide +kernel
theorem dX2_init_29 : decode cX2_init 29 = .ok (.putfield 21, 3) := by decide +kernel
theorem dX2_init_32 : decode cX2_init 32 = .ok (.iconst 0, 1) := by decide +kernel
theorem dX2_init_33 : decode cX2_init 33 = .ok (.istore_n 1, 1) := by decide +kernel
theorem dX2_init_34 : decode cX2_init 34 = .ok (.iload_n 1, 1) := by decide +kernel
theorem dX2_init_35 : decode cX2_init 35 = .ok (.bipush 12, 2) := by decide +kernel
theorem dX2_init_37 : decode cX2_init 37 = .ok (.if_icmp .ge 22, 3) := by decide +kernel
theorem dX2_init_40 : decode cX2_init 40 = .ok (.aload_n 0, 1) := by decide +kernel
theorem dX2_init_41 : decode cX2_init 41 = .ok (.getfield 13, 3) := by decide +kernel
theorem dX2_init_44 : decode cX2_init 44 = .ok (.iload_n 1, 1) := by decide +kernel
theorem dX2_init_45 : decode cX2_init 45 = .ok (.new 11, 3) := by decide +kernel
theorem dX2_init_48 : decode cX2_init 48 = .ok (.dup, 1) := by decide +kernel
theorem dX2_init_49 : decode cX2_init 49 = .ok (.invokespecial 20, 3) := by decide +kernel
theorem dX2_init_52 : decode cX2_init 52 = .ok (.aastore, 1) := by decide +kernel
theorem dX2_init_53 : decode cX2_init 53 = .ok (.iinc 1 1, 3) := by decide +kernel
theorem dX2_init_56 : decode cX2_init 56 = .ok (.goto (-22), 3) := by decide +kernel
theorem dX2_init_59 : decode cX2_init 59 = .ok (.iconst 0, 1) := by decide +kernel
theorem dX2_init_60 : decode cX2_init 60 = .ok (.istore_n 1, 1) := by decide +kernel
theorem dX2_init_61 : decode cX2_init 61 = .ok (.iload_n 1, 1) := by decide +kernel
theorem dX2_init_62 : decode cX2_init 62 = .ok (.iconst 2, 1) := by decide +kernel
theorem dX2_init_63 : decode cX2_init 63 = .ok (.if_icmp .ge 22, 3) := by decide +kernel
theorem dX2_init_66 : decode cX2_init 66 = .ok (.aload_n 0, 1) := by decide +kernel
theorem dX2_init_67 : decode cX2_init 67 = .ok (.getfield 17, 3) := by decide +kernel
theorem dX2_init_70 : decode cX2_init 70 = .ok (.iload_n 1, 1) := by decide +kernel
theorem dX2_init_71 : decode cX2_init 71 = .ok (.new 11, 3) := by decide +kernel
theorem dX2_init_74 : decode cX2_init 74 = .ok (.dup, 1) := by decide +kernel
theorem dX2_init_75 : decode cX2_init 75 = .ok (.invokespecial 20, 3) := by decide +kernel
theorem dX2_init_78 : decode cX2_init 78 = .ok (.aastore, 1) := by decide +kernel
theorem dX2_init_79 : decode cX2_init 79 = .ok (.iinc 1 1, 3) := by decide +kernel
theorem dX2_init_82 : decode cX2_init 82 = .ok (.goto (-21), 3) := by decide +kernel
theorem dX2_init_85 : decode cX2_init 85 = .ok (.return_, 1) := by decide +kernel
theorem dX2_forgetAll_0 : decode cX2_forgetAll 0 = .ok (.aload_n 0, 1) := by decide +kernel
theorem dX2_forgetAll_1 : decode cX2_forgetAll 1 = .ok (.iconst 0, 1) := by decide +kernel
theorem dX2_forgetAll_2 : decode cX2_forgetAll 2 = .ok (.putfield 25, 3) := by decide +kernel
theorem dX2_forgetAll_5 : decode cX2_forgetAll 5 = .ok (.aload_n 0, 1) := by decide +kernel
theorem dX2_forgetAll_6 : decode cX2_forgetAll 6 = .ok (.iconst 0, 1) := by decide +kernel
theorem dX2_forgetAll_7 : decode cX2_forgetAll 7 = .ok (.putfield 29, 3) := by decide +kernel
theorem dX2_forgetAll_10 : decode cX2_forgetAll 10 = .ok (.return_, 1) := by decide +kernel
theorem dX2_mark_0 : decode cX2_mark 0 = .ok (.aload_n 0, 1) := by decide +kernel
theorem dX2_mark_1 : decode cX2_mark 1 = .ok (.getfield 21, 3) := by decide +kernel
theorem dX2_mark_4 : decode cX2_mark 4 = .ok (.aload_n 1, 1) := by decide +kernel
theorem dX2_mark_5 : decode cX2_mark 5 = .ok (.invokevirtual 32, 3) := by decide +kernel
theorem dX2_mark_8 : decode cX2_mark 8 = .ok (.return_, 1) := by decide +kernel
theorem dX2_settle_0 : decode cX2_settle 0 = .ok (.iload_n 1, 1) := by decide +kernel
theorem dX2_settle_1 : decode cX2_settle 1 = .ok (.ifCond .lt 47, 3) := by decide +kernel
theorem dX2_settle_4 : decode cX2_settle 4 = .ok (.aload_n 0, 1) := by decide +kernel
theorem dX2_settle_5 : decode cX2_settle 5 = .ok (.getfield 13, 3) := by decide +kernel
theorem dX2_settle_8 : decode cX2_settle 8 = .ok (.aload_n 0, 1) := by decide +kernel
theorem dX2_settle_9 : decode cX2_settle 9 = .ok (.getfield 36, 3) := by decide +kernel
theorem dX2_settle_12 : decode cX2_settle 12 = .ok (.aaload, 1) := by decide +kernel
theorem dX2_settle_13 : decode cX2_settle 13 = .ok (.aload_n 0, 1) := by decide +kernel
theorem dX2_settle_14 : decode cX2_settle 14 = .ok (.getfield 21, 3) := by decide +kernel
theorem dX2_settle_17 : decode cX2_settle 17 = .ok (.invokevirtual 32, 3) := by decide +kernel
theorem dX2_settle_20 : decode cX2_settle 20 = .ok (.aload_n 0, 1) := by decide +kernel
theorem dX2_settle_21 : decode cX2_settle 21 = .ok (.aload_n 0, 1) := by decide +kernel
theorem dX2_settle_22 : decode cX2_settle 22 = .ok (.getfield 36, 3) := by decide +kernel
theorem dX2_settle_25 : decode cX2_settle 25 = .ok (.iconst 1, 1) := by decide +kernel
theorem dX2_settle_26 : decode cX2_settle 26 = .ok (.iadd, 1) := by decide +kernel
theorem dX2_settle_27 : decode cX2_settle 27 = .ok (.bipush 12, 2) := by decide +kernel
theorem dX2_settle_29 : decode cX2_settle 29 = .ok (.irem, 1) := by decide +kernel
theorem dX2_settle_30 : decode cX2_settle 30 = .ok (.putfield 36, 3) := by decide +kernel
theorem dX2_settle_33 : decode cX2_settle 33 = .ok (.aload_n 0, 1) := by decide +kernel
theorem dX2_settle_34 : decode cX2_settle 34 = .ok (.aload_n 0, 1) := by decide +kernel
theorem dX2_settle_35 : decode cX2_settle 35 = .ok (.getfield 25, 3) := by decide +kernel
theorem dX2_settle_38 : decode cX2_settle 38 = .ok (.iconst 1, 1) := by decide +kernel
theorem dX2_settle_39 : decode cX2_settle 39 = .ok (.iadd, 1) := by decide +kernel
theorem dX2_settle_40 : decode cX2_settle 40 = .ok (.bipush 12, 2) := by decide +kernel
theorem dX2_settle_42 : decode cX2_settle 42 = .ok (.invokestatic 39, 3) := by decide +kernel
theorem dX2_settle_45 : decode cX2_settle 45 = .ok (.putfield 25, 3) := by decide +kernel
theorem dX2_settle_48 : decode cX2_settle 48 = .ok (.iload_n 1, 1) := by decide +kernel
theorem dX2_settle_49 : decode cX2_settle 49 = .ok (.ireturn, 1) := by decide +kernel
theorem dX2_bringBack_0 : decode cX2_bringBack 0 = .ok (.aload_n 0, 1) := by decide +kernel
theorem dX2_bringBack_1 : decode cX2_bringBack 1 = .ok (.getfield 25, 3) := by decide +kernel
theorem dX2_bringBack_4 : decode cX2_bringBack 4 = .ok (.ifCond .ne 5, 3) := by decide +kernel
theorem dX2_bringBack_7 : decode cX2_bringBack 7 = .ok (.iconst (-1), 1) := by decide +kernel
theorem dX2_bringBack_8 : decode cX2_bringBack 8 = .ok (.ireturn, 1) := by decide +kernel
theorem dX2_bringBack_9 : decode cX2_bringBack 9 = .ok (.aload_n 0, 1) := by decide +kernel
theorem dX2_bringBack_10 : decode cX2_bringBack 10 = .ok (.aload_n 0, 1) := by decide +kernel
theorem dX2_bringBack_11 : decode cX2_bringBack 11 = .ok (.getfield 36, 3) := by decide +kernel
theorem dX2_bringBack_14 : decode cX2_bringBack 14 = .ok (.bipush 12, 2) := by decide +kernel
theorem dX2_bringBack_16 : decode cX2_bringBack 16 = .ok (.iadd, 1) := by decide +kernel
theorem dX2_bringBack_17 : decode cX2_bringBack 17 = .ok (.iconst 1, 1) := by decide +kernel
theorem dX2_bringBack_18 : decode cX2_bringBack 18 = .ok (.isub, 1) := by decide +kernel
theorem dX2_bringBack_19 : decode cX2_bringBack 19 = .ok (.bipush 12, 2) := by decide +kernel
theorem dX2_bringBack_21 : decode cX2_bringBack 21 = .ok (.irem, 1) := by decide +kernel
theorem dX2_bringBack_22 : decode cX2_bringBack 22 = .ok (.putfield 36, 3) := by decide +kernel
theorem dX2_bringBack_25 : decode cX2_bringBack 25 = .ok (.aload_n 1, 1) := by decide +kernel
theorem dX2_bringBack_26 : decode cX2_bringBack 26 = .ok (.aload_n 0, 1) := by decide +kernel
theorem dX2_bringBack_27 : decode cX2_bringBack 27 = .ok (.getfield 13, 3) := by decide +kernel
theorem dX2_bringBack_30 : decode cX2_bringBack 30 = .ok (.aload_n 0, 1) := by decide +kernel
theorem dX2_bringBack_31 : decode cX2_bringBack 31 = .ok (.getfield 36, 3) := by decide +kernel
theorem dX2_bringBack_34 : decode cX2_bringBack 34 = .ok (.aaload, 1) := by decide +kernel
theorem dX2_bringBack_35 : decode cX2_bringBack 35 = .ok (.invokevirtual 32, 3) := by decide +kernel
theorem dX2_bringBack_38 : decode cX2_bringBack 38 = .ok (.aload_n 0, 1) := by decide +kernel
theorem dX2_bringBack_39 : decode cX2_bringBack 39 = .ok (.dup, 1) := by decide +kernel
theorem dX2_bringBack_40 : decode cX2_bringBack 40 = .ok (.getfield 25, 3) := by decide +kernel
theorem dX2_bringBack_43 : decode cX2_bringBack 43 = .ok (.iconst 1, 1) := by decide +kernel
theorem dX2_bringBack_44 : decode cX2_bringBack 44 = .ok (.isub, 1) := by decide +kernel
theorem dX2_bringBack_45 : decode cX2_bringBack 45 = .ok (.putfield 25, 3) := by decide +kernel
theorem dX2_bringBack_48 : decode cX2_bringBack 48 = .ok (.aload_n 0, 1) := by decide +kernel
theorem dX2_bringBack_49 : decode cX2_bringBack 49 = .ok (.getfield 25, 3) := by decide +kernel
theorem dX2_bringBack_52 : decode cX2_bringBack 52 = .ok (.ireturn, 1) := by decide +kernel
theorem dX2_keepUnder_0 : decode cX2_keepUnder 0 = .ok (.iload_n 1, 1) := by decide +kernel
theorem dX2_keepUnder_1 : decode cX2_keepUnder 1 = .ok (.ifCond .lt 8, 3) := by decide +kernel
theorem dX2_keepUnder_4 : decode cX2_keepUnder 4 = .ok (.iload_n 1, 1) := by decide +kernel
theorem dX2_keepUnder_5 : decode cX2_keepUnder 5 = .ok (.iconst 2, 1) := by decide +kernel
theorem dX2_keepUnder_6 : decode cX2_keepUnder 6 = .ok (.if_icmp .lt 5, 3) := by decide +kernel
theorem dX2_keepUnder_9 : decode cX2_keepUnder 9 = .ok (.iconst 0, 1) := by decide +kernel
theorem dX2_keepUnder_10 : decode cX2_keepUnder 10 = .ok (.ireturn, 1) := by decide +kernel
theorem dX2_keepUnder_11 : decode cX2_keepUnder 11 = .ok (.aload_n 0, 1) := by decide +kernel
theorem dX2_keepUnder_12 : decode cX2_keepUnder 12 = .ok (.getfield 17, 3) := by decide +kernel
theorem dX2_keepUnder_15 : decode cX2_keepUnder 15 = .ok (.iload_n 1, 1) := by decide +kernel
theorem dX2_keepUnder_16 : decode cX2_keepUnder 16 = .ok (.aaload, 1) := by decide +kernel
theorem dX2_keepUnder_17 : decode cX2_keepUnder 17 = .ok (.aload_n 2, 1) := by decide +kernel
theorem dX2_keepUnder_18 : decode cX2_keepUnder 18 = .ok (.invokevirtual 32, 3) := by decide +kernel
theorem dX2_keepUnder_21 : decode cX2_keepUnder 21 = .ok (.aload_n 0, 1) := by decide +kernel
theorem dX2_keepUnder_22 : decode cX2_keepUnder 22 = .ok (.dup, 1) := by decide +kernel
theorem dX2_keepUnder_23 : decode cX2_keepUnder 23 = .ok (.getfield 29, 3) := by decide +kernel
theorem dX2_keepUnder_26 : decode cX2_keepUnder 26 = .ok (.iconst 1, 1) := by decide +kernel
theorem dX2_keepUnder_27 : decode cX2_keepUnder 27 = .ok (.iload_n 1, 1) := by decide +kernel
theorem dX2_keepUnder_28 : decode cX2_keepUnder 28 = .ok (.ishl, 1) := by decide +kernel
theorem dX2_keepUnder_29 : decode cX2_keepUnder 29 = .ok (.ior, 1) := by decide +kernel
theorem dX2_keepUnder_30 : decode cX2_keepUnder 30 = .ok (.putfield 29, 3) := by decide +kernel
theorem dX2_keepUnder_33 : decode cX2_keepUnder 33 = .ok (.iconst 1, 1) := by decide +kernel
theorem dX2_keepUnder_34 : decode cX2_keepUnder 34 = .ok (.ireturn, 1) := by decide +kernel
theorem dX2_bringBackKept_0 : decode cX2_bringBackKept 0 = .ok (.iload_n 1, 1) := by decide +kernel
theorem dX2_bringBackKept_1 : decode cX2_bringBackKept 1 = .ok (.ifCond .lt 19, 3) := by decide +kernel
theorem dX2_bringBackKept_4 : decode cX2_bringBackKept 4 = .ok (.iload_n 1, 1) := by decide +kernel
theorem dX2_bringBackKept_5 : decode cX2_bringBackKept 5 = .ok (.iconst 2, 1) := by decide +kernel
theorem dX2_bringBackKept_6 : decode cX2_bringBackKept 6 = .ok (.if_icmp .ge 14, 3) := by decide +kernel
theorem dX2_bringBackKept_9 : decode cX2_bringBackKept 9 = .ok (.aload_n 0, 1) := by decide +kernel
theorem dX2_bringBackKept_10 : decode cX2_bringBackKept 10 = .ok (.getfield 29, 3) := by decide +kernel
theorem dX2_bringBackKept_13 : decode cX2_bringBackKept 13 = .ok (.iload_n 1, 1) := by decide +kernel
theorem dX2_bringBackKept_14 : decode cX2_bringBackKept 14 = .ok (.ishr, 1) := by decide +kernel
theorem dX2_bringBackKept_15 : decode cX2_bringBackKept 15 = .ok (.iconst 1, 1) := by decide +kernel
theorem dX2_bringBackKept_16 : decode cX2_bringBackKept 16 = .ok (.iand, 1) := by decide +kernel
theorem dX2_bringBackKept_17 : decode cX2_bringBackKept 17 = .ok (.ifCond .ne 5, 3) := by decide +kernel
theorem dX2_bringBackKept_20 : decode cX2_bringBackKept 20 = .ok (.iconst 0, 1) := by decide +kernel
theorem dX2_bringBackKept_21 : decode cX2_bringBackKept 21 = .ok (.ireturn, 1) := by decide +kernel
theorem dX2_bringBackKept_22 : decode cX2_bringBackKept 22 = .ok (.aload_n 2, 1) := by decide +kernel
theorem dX2_bringBackKept_23 : decode cX2_bringBackKept 23 = .ok (.aload_n 0, 1) := by decide +kernel
theorem dX2_bringBackKept_24 : decode cX2_bringBackKept 24 = .ok (.getfield 17, 3) := by decide +kernel
theorem dX2_bringBackKept_27 : decode cX2_bringBackKept 27 = .ok (.iload_n 1, 1) := by decide +kernel
theorem dX2_bringBackKept_28 : decode cX2_bringBackKept 28 = .ok (.aaload, 1) := by decide +kernel
theorem dX2_bringBackKept_29 : decode cX2_bringBackKept 29 = .ok (.invokevirtual 32, 3) := by decide +kernel
theorem dX2_bringBackKept_32 : decode cX2_bringBackKept 32 = .ok (.aload_n 0, 1) := by decide +kernel
theorem dX2_bringBackKept_33 : decode cX2_bringBackKept 33 = .ok (.iconst 0, 1) := by decide +kernel
theorem dX2_bringBackKept_34 : decode cX2_bringBackKept 34 = .ok (.putfield 25, 3) := by decide +kernel
theorem dX2_bringBackKept_37 : decode cX2_bringBackKept 37 = .ok (.iconst 1, 1) := by decide +kernel
theorem dX2_bringBackKept_38 : decode cX2_bringBackKept 38 = .ok (.ireturn, 1) := by decide +kernel
theorem dX3_init_0 : decode cX3_init 0 = .ok (.aload_n 0, 1) := by decide +kernel
theorem dX3_init_1 : decode cX3_init 1 = .ok (.invokespecial 3, 3) := by decide +kernel
theorem dX3_init_4 : decode cX3_init 4 = .ok (.aload_n 0, 1) := by decide +kernel
theorem dX3_init_5 : decode cX3_init 5 = .ok (.new 9, 3) := by decide +kernel
theorem dX3_init_8 : decode cX3_init 8 = .ok (.dup, 1) := by decide +kernel
theorem dX3_init_9 : decode cX3_init 9 = .ok (.invokespecial 11, 3) := by decide +kernel
theorem dX3_init_12 : decode cX3_init 12 = .ok (.putfield 12, 3) := by decide +kernel
theorem dX3_init_15 : decode cX3_init 15 = .ok (.aload_n 0, 1) := by decide +kernel
theorem dX3_init_16 : decode cX3_init 16 = .ok (.bipush 13, 2) := by decide +kernel
theorem dX3_init_18 : decode cX3_init 18 = .ok (.newarray .int, 2) := by decide +kernel
theorem dX3_init_20 : decode cX3_init 20 = .ok (.putfield 18, 3) := by decide +kernel
theorem dX3_init_23 : decode cX3_init 23 = .ok (.aload_n 0, 1) := by decide +kernel
theorem dX3_init_24 : decode cX3_init 24 = .ok (.bipush 13, 2) := by decide +kernel
theorem dX3_init_26 : decode cX3_init 26 = .ok (.newarray .int, 2) := by decide +kernel
theorem dX3_init_28 : decode cX3_init 28 = .ok (.putfield 22, 3) := by decide +kernel
theorem dX3_init_31 : decode cX3_init 31 = .ok (.aload_n 0, 1) := by decide +kernel
theorem dX3_init_32 : decode cX3_init 32 = .ok (.iconst 3, 1) := by decide +kernel
theorem dX3_init_33 : decode cX3_init 33 = .ok (.newarray .int, 2) := by decide +kernel
theorem dX3_init_35 : decode cX3_init 35 = .ok (.putfield 25, 3) := by decide +kernel
theorem dX3_init_38 : decode cX3_init 38 = .ok (.aload_n 0, 1) := by decide +kernel
theorem dX3_init_39 : decode cX3_init 39 = .ok (.aload_n 1, 1) := by decide +kernel
theorem dX3_init_40 : decode cX3_init 40 = .ok (.putfield 28, 3) := by decide +kernel
theorem dX3_init_43 : decode cX3_init 43 = .ok (.aload_n 0, 1) := by decide +kernel
theorem dX3_init_44 : decode cX3_init 44 = .ok (.aload_n 2, 1) := by decide +kernel
theorem dX3_init_45 : decode cX3_init 45 = .ok (.putfield 32, 3) := by decide +kernel
theorem dX3_init_48 : decode cX3_init 48 = .ok (.aload_n 0, 1) := by decide +kernel
theorem dX3_init_49 : decode cX3_init 49 = .ok (.aload_n 3, 1) := by decide +kernel
theorem dX3_init_50 : decode cX3_init 50 = .ok (.putfield 36, 3) := by decide +kernel
theorem dX3_init_53 : decode cX3_init 53 = .ok (.aload_n 0, 1) := by decide +kernel
theorem dX3_init_54 : decode cX3_init 54 = .ok (.aload 4, 2) := by decide +kernel
theorem dX3_init_56 : decode cX3_init 56 = .ok (.putfield 40, 3) := by decide +kernel
theorem dX3_init_59 : decode cX3_init 59 = .ok (.return_, 1) := by decide +kernel
theorem dX3_staggersAhead_0 : decode cX3_staggersAhead 0 = .ok (.aload_n 0, 1) := by decide +kernel
theorem dX3_staggersAhead_1 : decode cX3_staggersAhead 1 = .ok (.getfield 12, 3) := by decide +kernel
theorem dX3_staggersAhead_4 : decode cX3_staggersAhead 4 = .ok (.aload_n 1, 1) := by decide +kernel
theorem dX3_staggersAhead_5 : decode cX3_staggersAhead 5 = .ok (.invokevirtual 44, 3) := by decide +kernel
theorem dX3_staggersAhead_8 : decode cX3_staggersAhead 8 = .ok (.iconst 0, 1) := by decide +kernel
theorem dX3_staggersAhead_9 : decode cX3_staggersAhead 9 = .ok (.istore 4, 2) := by decide +kernel
theorem dX3_staggersAhead_11 : decode cX3_staggersAhead 11 = .ok (.iload 4, 2) := by decide +kernel
theorem dX3_staggersAhead_13 : decode cX3_staggersAhead 13 = .ok (.iload_n 3, 1) := by decide +kernel
theorem dX3_staggersAhead_14 : decode cX3_staggersAhead 14 = .ok (.if_icmp .ge 43, 3) := by decide +kernel
theorem dX3_staggersAhead_17 : decode cX3_staggersAhead 17 = .ok (.aload_n 0, 1) := by decide +kernel
theorem dX3_staggersAhead_18 : decode cX3_staggersAhead 18 = .ok (.getfield 12, 3) := by decide +kernel
theorem dX3_staggersAhead_21 : decode cX3_staggersAhead 21 = .ok (.getfield 48, 3) := by decide +kernel
theorem dX3_staggersAhead_24 : decode cX3_staggersAhead 24 = .ok (.aload_n 0, 1) := by decide +kernel
theorem dX3_staggersAhead_25 : decode cX3_staggersAhead 25 = .ok (.getfield 28, 3) := by decide +kernel
theorem dX3_staggersAhead_28 : decode cX3_staggersAhead 28 = .ok (.getfield 52, 3) := by decide +kernel
theorem dX3_staggersAhead_31 : decode cX3_staggersAhead 31 = .ok (.if_icmp .ge 26, 3) := by decide +kernel
theorem dX3_staggersAhead_34 : decode cX3_staggersAhead 34 = .ok (.aload_n 0, 1) := by decide +kernel
theorem dX3_staggersAhead_35 : decode cX3_staggersAhead 35 = .ok (.getfield 12, 3) := by decide +kernel
theorem dX3_staggersAhead_38 : decode cX3_staggersAhead 38 = .ok (.aload_n 0, 1) := by decide +kernel
theorem dX3_staggersAhead_39 : decode cX3_staggersAhead 39 = .ok (.getfield 28, 3) := by decide +kernel
theorem dX3_staggersAhead_42 : decode cX3_staggersAhead 42 = .ok (.aload_n 0, 1) := by decide +kernel
theorem dX3_staggersAhead_43 : decode cX3_staggersAhead 43 = .ok (.getfield 32, 3) := by decide +kernel
theorem dX3_staggersAhead_46 : decode cX3_staggersAhead 46 = .ok (.aload_n 2, 1) := by decide +kernel
theorem dX3_staggersAhead_47 : decode cX3_staggersAhead 47 = .ok (.invokevirtual 57, 3) := by decide +kernel
theorem dX3_staggersAhead_50 : decode cX3_staggersAhead 50 = .ok (.pop, 1) := by decide +kernel
theorem dX3_staggersAhead_51 : decode cX3_staggersAhead 51 = .ok (.iinc 4 1, 3) := by decide +kernel
theorem dX3_staggersAhead_54 : decode cX3_staggersAhead 54 = .ok (.goto (-43), 3) := by decide +kernel
theorem dX3_staggersAhead_57 : decode cX3_staggersAhead 57 = .ok (.iconst 0, 1) := by decide +kernel
theorem dX3_staggersAhead_58 : decode cX3_staggersAhead 58 = .ok (.istore 4, 2) := by decide +kernel
theorem dX3_staggersAhead_60 : decode cX3_staggersAhead 60 = .ok (.iconst 0, 1) := by decide +kernel
theorem dX3_staggersAhead_61 : decode cX3_staggersAhead 61 = .ok (.istore 5, 2) := by decide +kernel
theorem dX3_staggersAhead_63 : decode cX3_staggersAhead 63 = .ok (.iload 5, 2) := by decide +kernel
theorem dX3_staggersAhead_65 : decode cX3_staggersAhead 65 = .ok (.aload_n 0, 1) := by decide +kernel
theorem dX3_staggersAhead_66 : decode cX3_staggersAhead 66 = .ok (.getfield 32, 3) := by decide +kernel
theorem dX3_staggersAhead_69 : decode cX3_staggersAhead 69 = .ok (.getfield 61, 3) := by decide +kernel
theorem dX3_staggersAhead_72 : decode cX3_staggersAhead 72 = .ok (.if_icmp .ge 24, 3) := by decide +kernel
theorem dX3_staggersAhead_75 : decode cX3_staggersAhead 75 = .ok (.iload 4, 2) := by decide +kernel
theorem dX3_staggersAhead_77 : decode cX3_staggersAhead 77 = .ok (.aload_n 0, 1) := by decide +kernel
theorem dX3_staggersAhead_78 : decode cX3_staggersAhead 78 = .ok (.getfield 12, 3) := by decide +kernel
theorem dX3_staggersAhead_81 : decode cX3_staggersAhead 81 = .ok (.getfield 66, 3) := by decide +kernel
theorem dX3_staggersAhead_84 : decode cX3_staggersAhead 84 = .ok (.iload 5, 2) := by decide +kernel
theorem dX3_staggersAhead_86 : decode cX3_staggersAhead 86 = .ok (.iaload, 1) := by decide +kernel
theorem dX3_staggersAhead_87 : decode cX3_staggersAhead 87 = .ok (.iadd, 1) := by decide +kernel
theorem dX3_staggersAhead_88 : decode cX3_staggersAhead 88 = .ok (.istore 4, 2) := by decide +kernel
theorem dX3_staggersAhead_90 : decode cX3_staggersAhead 90 = .ok (.iinc 5 1, 3) := by decide +kernel
theorem dX3_staggersAhead_93 : decode cX3_staggersAhead 93 = .ok (.goto (-30), 3) := by decide +kernel
theorem dX3_staggersAhead_96 : decode cX3_staggersAhead 96 = .ok (.aload_n 0, 1) := by decide +kernel
theorem dX3_staggersAhead_97 : decode cX3_staggersAhead 97 = .ok (.getfield 40, 3) := by decide +kernel
theorem dX3_staggersAhead_100 : decode cX3_staggersAhead 100 = .ok (.aload_n 0, 1) := by decide +kernel
theorem dX3_staggersAhead_101 : decode cX3_staggersAhead 101 = .ok (.getfield 12, 3) := by decide +kernel
theorem dX3_staggersAhead_104 : decode cX3_staggersAhead 104 = .ok (.getfield 48, 3) := by decide +kernel
theorem dX3_staggersAhead_107 : decode cX3_staggersAhead 107 = .ok (.i2l, 1) := by decide +kernel
theorem dX3_staggersAhead_108 : decode cX3_staggersAhead 108 = .ok (.iload 4, 2) := by decide +kernel
theorem dX3_staggersAhead_110 : decode cX3_staggersAhead 110 = .ok (.i2l, 1) := by decide +kernel
theorem dX3_staggersAhead_111 : decode cX3_staggersAhead 111 = .ok (.invokevirtual 69, 3) := by decide +kernel
theorem dX3_staggersAhead_114 : decode cX3_staggersAhead 114 = .ok (.aload_n 0, 1) := by decide +kernel
theorem dX3_staggersAhead_115 : decode cX3_staggersAhead 115 = .ok (.getfield 12, 3) := by decide +kernel
theorem dX3_staggersAhead_118 : decode cX3_staggersAhead 118 = .ok (.getfield 75, 3) := by decide +kernel
theorem dX3_staggersAhead_121 : decode cX3_staggersAhead 121 = .ok (.aload_n 1, 1) := by decide +kernel
theorem dX3_staggersAhead_122 : decode cX3_staggersAhead 122 = .ok (.getfield 75, 3) := by decide +kernel
theorem dX3_staggersAhead_125 : decode cX3_staggersAhead 125 = .ok (.isub, 1) := by decide +kernel
theorem dX3_staggersAhead_126 : decode cX3_staggersAhead 126 = .ok (.ireturn, 1) := by decide +kernel
theorem dX3_firstStagger_0 : decode cX3_firstStagger 0 = .ok (.aload_n 0, 1) := by decide +kernel
theorem dX3_firstStagger_1 : decode cX3_firstStagger 1 = .ok (.getfield 12, 3) := by decide +kernel
theorem dX3_firstStagger_4 : decode cX3_firstStagger 4 = .ok (.aload_n 1, 1) := by decide +kernel
theorem dX3_firstStagger_5 : decode cX3_firstStagger 5 = .ok (.invokevirtual 44, 3) := by decide +kernel
theorem dX3_firstStagger_8 : decode cX3_firstStagger 8 = .ok (.aload_n 1, 1) := by decide +kernel
theorem dX3_firstStagger_9 : decode cX3_firstStagger 9 = .ok (.getfield 48, 3) := by decide +kernel
theorem dX3_firstStagger_12 : decode cX3_firstStagger 12 = .ok (.istore_n 3, 1) := by decide +kernel
theorem dX3_firstStagger_13 : decode cX3_firstStagger 13 = .ok (.iload_n 3, 1) := by decide +kernel
theorem dX3_firstStagger_14 : decode cX3_firstStagger 14 = .ok (.aload_n 0, 1) := by decide +kernel
theorem dX3_firstStagger_15 : decode cX3_firstStagger 15 = .ok (.getfield 28, 3) := by decide +kernel
theorem dX3_firstStagger_18 : decode cX3_firstStagger 18 = .ok (.getfield 52, 3) := by decide +kernel
theorem dX3_firstStagger_21 : decode cX3_firstStagger 21 = .ok (.if_icmp .ge 31, 3) := by decide +kernel
theorem dX3_firstStagger_24 : decode cX3_firstStagger 24 = .ok (.aload_n 0, 1) := by decide +kernel
theorem dX3_firstStagger_25 : decode cX3_firstStagger 25 = .ok (.getfield 12, 3) := by decide +kernel
theorem dX3_firstStagger_28 : decode cX3_firstStagger 28 = .ok (.aload_n 0, 1) := by decide +kernel
theorem dX3_firstStagger_29 : decode cX3_firstStagger 29 = .ok (.getfield 28, 3) := by decide +kernel
theorem dX3_firstStagger_32 : decode cX3_firstStagger 32 = .ok (.aload_n 0, 1) := by decide +kernel
theorem dX3_firstStagger_33 : decode cX3_firstStagger 33 = .ok (.getfield 32, 3) := by decide +kernel
theorem dX3_firstStagger_36 : decode cX3_firstStagger 36 = .ok (.aload_n 2, 1) := by decide +kernel
theorem dX3_firstStagger_37 : decode cX3_firstStagger 37 = .ok (.invokevirtual 57, 3) := by decide +kernel
theorem dX3_firstStagger_40 : decode cX3_firstStagger 40 = .ok (.iconst 1, 1) := by decide +kernel
theorem dX3_firstStagger_41 : decode cX3_firstStagger 41 = .ok (.if_icmp .ne 5, 3) := by decide +kernel
theorem dX3_firstStagger_44 : decode cX3_firstStagger 44 = .ok (.iload_n 3, 1) := by decide +kernel
theorem dX3_firstStagger_45 : decode cX3_firstStagger 45 = .ok (.ireturn, 1) := by decide +kernel
theorem dX3_firstStagger_46 : decode cX3_firstStagger 46 = .ok (.iinc 3 1, 3) := by decide +kernel
theorem dX3_firstStagger_49 : decode cX3_firstStagger 49 = .ok (.goto (-36), 3) := by decide +kernel
theorem dX3_firstStagger_52 : decode cX3_firstStagger 52 = .ok (.bipush (-2), 2) := by decide +kernel
theorem dX3_firstStagger_54 : decode cX3_firstStagger 54 = .ok (.ireturn, 1) := by decide +kernel
theorem dX3_mostLoad_0 : decode cX3_mostLoad 0 = .ok (.aload_n 0, 1) := by decide +kernel
theorem dX3_mostLoad_1 : decode cX3_mostLoad 1 = .ok (.aload_n 1, 1) := by decide +kernel
theorem dX3_mostLoad_2 : decode cX3_mostLoad 2 = .ok (.aload_n 2, 1) := by decide +kernel
theorem dX3_mostLoad_3 : decode cX3_mostLoad 3 = .ok (.invokevirtual 78, 3) := by decide +kernel
theorem dX3_mostLoad_6 : decode cX3_mostLoad 6 = .ok (.aload_n 0, 1) := by decide +kernel
theorem dX3_mostLoad_7 : decode cX3_mostLoad 7 = .ok (.getfield 22, 3) := by decide +kernel
theorem dX3_mostLoad_10 : decode cX3_mostLoad 10 = .ok (.aload_n 1, 1) := by decide +kernel
theorem dX3_mostLoad_11 : decode cX3_mostLoad 11 = .ok (.getfield 48, 3) := by decide +kernel
theorem dX3_mostLoad_14 : decode cX3_mostLoad 14 = .ok (.iaload, 1) := by decide +kernel
theorem dX3_mostLoad_15 : decode cX3_mostLoad 15 = .ok (.ifCond .ge 8, 3) := by decide +kernel
theorem dX3_mostLoad_18 : decode cX3_mostLoad 18 = .ok (.bipush (-2), 2) := by decide +kernel
theorem dX3_mostLoad_20 : decode cX3_mostLoad 20 = .ok (.goto 12, 3) := by decide +kernel
theorem dX3_mostLoad_23 : decode cX3_mostLoad 23 = .ok (.aload_n 0, 1) := by decide +kernel
theorem dX3_mostLoad_24 : decode cX3_mostLoad 24 = .ok (.getfield 22, 3) := by decide +kernel
theorem dX3_mostLoad_27 : decode cX3_mostLoad 27 = .ok (.aload_n 1, 1) := by decide +kernel
theorem dX3_mostLoad_28 : decode cX3_mostLoad 28 = .ok (.getfield 48, 3) := by decide +kernel
theorem dX3_mostLoad_31 : decode cX3_mostLoad 31 = .ok (.iaload, 1) := by decide +kernel
theorem dX3_mostLoad_32 : decode cX3_mostLoad 32 = .ok (.ireturn, 1) := by decide +kernel
theorem dX3_findBorne_0 : decode cX3_findBorne 0 = .ok (.aload_n 0, 1) := by decide +kernel
theorem dX3_findBorne_1 : decode cX3_findBorne 1 = .ok (.getfield 12, 3) := by decide +kernel
theorem dX3_findBorne_4 : decode cX3_findBorne 4 = .ok (.aload_n 1, 1) := by decide +kernel
theorem dX3_findBorne_5 : decode cX3_findBorne 5 = .ok (.invokevirtual 44, 3) := by decide +kernel
theorem dX3_findBorne_8 : decode cX3_findBorne 8 = .ok (.aload_n 1, 1) := by decide +kernel
theorem dX3_findBorne_9 : decode cX3_findBorne 9 = .ok (.getfield 48, 3) := by decide +kernel
theorem dX3_findBorne_12 : decode cX3_findBorne 12 = .ok (.istore_n 3, 1) := by decide +kernel
theorem dX3_findBorne_13 : decode cX3_findBorne 13 = .ok (.iload_n 3, 1) := by decide +kernel
theorem dX3_findBorne_14 : decode cX3_findBorne 14 = .ok (.aload_n 0, 1) := by decide +kernel
theorem dX3_findBorne_15 : decode cX3_findBorne 15 = .ok (.getfield 28, 3) := by decide +kernel
theorem dX3_findBorne_18 : decode cX3_findBorne 18 = .ok (.getfield 52, 3) := by decide +kernel
theorem dX3_findBorne_21 : decode cX3_findBorne 21 = .ok (.if_icmp .ge 58, 3) := by decide +kernel
theorem dX3_findBorne_24 : decode cX3_findBorne 24 = .ok (.aload_n 0, 1) := by decide +kernel
theorem dX3_findBorne_25 : decode cX3_findBorne 25 = .ok (.getfield 18, 3) := by decide +kernel
theorem dX3_findBorne_28 : decode cX3_findBorne 28 = .ok (.iload_n 3, 1) := by decide +kernel
theorem dX3_findBorne_29 : decode cX3_findBorne 29 = .ok (.aload_n 0, 1) := by decide +kernel
theorem dX3_findBorne_30 : decode cX3_findBorne 30 = .ok (.getfield 32, 3) := by decide +kernel
theorem dX3_findBorne_33 : decode cX3_findBorne 33 = .ok (.aload_n 2, 1) := by decide +kernel
theorem dX3_findBorne_34 : decode cX3_findBorne 34 = .ok (.aload_n 0, 1) := by decide +kernel
theorem dX3_findBorne_35 : decode cX3_findBorne 35 = .ok (.getfield 12, 3) := by decide +kernel
theorem dX3_findBorne_38 : decode cX3_findBorne 38 = .ok (.getfield 82, 3) := by decide +kernel
theorem dX3_findBorne_41 : decode cX3_findBorne 41 = .ok (.aload_n 0, 1) := by decide +kernel
theorem dX3_findBorne_42 : decode cX3_findBorne 42 = .ok (.getfield 12, 3) := by decide +kernel
theorem dX3_findBorne_45 : decode cX3_findBorne 45 = .ok (.invokevirtual 85, 3) := by decide +kernel
theorem dX3_findBorne_48 : decode cX3_findBorne 48 = .ok (.aload_n 0, 1) := by decide +kernel
theorem dX3_findBorne_49 : decode cX3_findBorne 49 = .ok (.getfield 28, 3) := by decide +kernel
theorem dX3_findBorne_52 : decode cX3_findBorne 52 = .ok (.iload_n 3, 1) := by decide +kernel
theorem dX3_findBorne_53 : decode cX3_findBorne 53 = .ok (.invokevirtual 89, 3) := by decide +kernel
theorem dX3_findBorne_56 : decode cX3_findBorne 56 = .ok (.isub, 1) := by decide +kernel
theorem dX3_findBorne_57 : decode cX3_findBorne 57 = .ok (.iastore, 1) := by decide +kernel
theorem dX3_findBorne_58 : decode cX3_findBorne 58 = .ok (.aload_n 0, 1) := by decide +kernel
theorem dX3_findBorne_59 : decode cX3_findBorne 59 = .ok (.getfield 12, 3) := by decide +kernel
theorem dX3_findBorne_62 : decode cX3_findBorne 62 = .ok (.aload_n 0, 1) := by decide +kernel
theorem dX3_findBorne_63 : decode cX3_findBorne 63 = .ok (.getfield 32, 3) := by decide +kernel
theorem dX3_findBorne_66 : decode cX3_findBorne 66 = .ok (.getfield 61, 3) := by decide +kernel
theorem dX3_findBorne_69 : decode cX3_findBorne 69 = .ok (.iconst 1, 1) := by decide +kernel
theorem dX3_findBorne_70 : decode cX3_findBorne 70 = .ok (.invokevirtual 93, 3) := by decide +kernel
theorem dX3_findBorne_73 : decode cX3_findBorne 73 = .ok (.iinc 3 1, 3) := by decide +kernel
theorem dX3_findBorne_76 : decode cX3_findBorne 76 = .ok (.goto (-63), 3) := by decide +kernel
theorem dX3_findBorne_79 : decode cX3_findBorne 79 = .ok (.aload_n 0, 1) := by decide +kernel
theorem dX3_findBorne_80 : decode cX3_findBorne 80 = .ok (.getfield 22, 3) := by decide +kernel
theorem dX3_findBorne_83 : decode cX3_findBorne 83 = .ok (.aload_n 0, 1) := by decide +kernel
theorem dX3_findBorne_84 : decode cX3_findBorne 84 = .ok (.getfield 28, 3) := by decide +kernel
theorem dX3_findBorne_87 : decode cX3_findBorne 87 = .ok (.getfield 52, 3) := by decide +kernel
theorem dX3_findBorne_90 : decode cX3_findBorne 90 = .ok (.sipush 999, 3) := by decide +kernel
theorem dX3_findBorne_93 : decode cX3_findBorne 93 = .ok (.iastore, 1) := by decide +kernel
theorem dX3_findBorne_94 : decode cX3_findBorne 94 = .ok (.aload_n 0, 1) := by decide +kernel
theorem dX3_findBorne_95 : decode cX3_findBorne 95 = .ok (.getfield 28, 3) := by decide +kernel
theorem dX3_findBorne_98 : decode cX3_findBorne 98 = .ok (.getfield 52, 3) := by decide +kernel
theorem dX3_findBorne_101 : decode cX3_findBorne 101 = .ok (.iconst 1, 1) := by decide +kernel
theorem dX3_findBorne_102 : decode cX3_findBorne 102 = .ok (.isub, 1) := by decide +kernel
theorem dX3_findBorne_103 : decode cX3_findBorne 103 = .ok (.istore_n 3, 1) := by decide +kernel
theorem dX3_findBorne_104 : decode cX3_findBorne 104 = .ok (.iload_n 3, 1) := by decide +kernel
theorem dX3_findBorne_105 : decode cX3_findBorne 105 = .ok (.aload_n 1, 1) := by decide +kernel
theorem dX3_findBorne_106 : decode cX3_findBorne 106 = .ok (.getfield 48, 3) := by decide +kernel
theorem dX3_findBorne_109 : decode cX3_findBorne 109 = .ok (.if_icmp .lt 32, 3) := by decide +kernel
theorem dX3_findBorne_112 : decode cX3_findBorne 112 = .ok (.aload_n 0, 1) := by decide +kernel
theorem dX3_findBorne_113 : decode cX3_findBorne 113 = .ok (.getfield 22, 3) := by decide +kernel
theorem dX3_findBorne_116 : decode cX3_findBorne 116 = .ok (.iload_n 3, 1) := by decide +kernel
theorem dX3_findBorne_117 : decode cX3_findBorne 117 = .ok (.aload_n 0, 1) := by decide +kernel
theorem dX3_findBorne_118 : decode cX3_findBorne 118 = .ok (.getfield 18, 3) := by decide +kernel
theorem dX3_findBorne_121 : decode cX3_findBorne 121 = .ok (.iload_n 3, 1) := by decide +kernel
theorem dX3_findBorne_122 : decode cX3_findBorne 122 = .ok (.iaload, 1) := by decide +kernel
theorem dX3_findBorne_123 : decode cX3_findBorne 123 = .ok (.aload_n 0, 1) := by decide +kernel
theorem dX3_findBorne_124 : decode cX3_findBorne 124 = .ok (.getfield 22, 3) := by decide +kernel
theorem dX3_findBorne_127 : decode cX3_findBorne 127 = .ok (.iload_n 3, 1) := by decide +kernel
theorem dX3_findBorne_128 : decode cX3_findBorne 128 = .ok (.iconst 1, 1) := by decide +kernel
theorem dX3_findBorne_129 : decode cX3_findBorne 129 = .ok (.iadd, 1) := by decide +kernel
theorem dX3_findBorne_130 : decode cX3_findBorne 130 = .ok (.iaload, 1) := by decide +kernel
theorem dX3_findBorne_131 : decode cX3_findBorne 131 = .ok (.invokestatic 97, 3) := by decide +kernel
theorem dX3_findBorne_134 : decode cX3_findBorne 134 = .ok (.iastore, 1) := by decide +kernel
theorem dX3_findBorne_135 : decode cX3_findBorne 135 = .ok (.iinc 3 (-1), 3) := by decide +kernel
theorem dX3_findBorne_138 : decode cX3_findBorne 138 = .ok (.goto (-34), 3) := by decide +kernel
theorem dX3_findBorne_141 : decode cX3_findBorne 141 = .ok (.return_, 1) := by decide +kernel
theorem dX3_fewestSayings_0 : decode cX3_fewestSayings 0 = .ok (.aload_n 0, 1) := by decide +kernel
theorem dX3_fewestSayings_1 : decode cX3_fewestSayings 1 = .ok (.aload_n 1, 1) := by decide +kernel
theorem dX3_fewestSayings_2 : decode cX3_fewestSayings 2 = .ok (.aload_n 2, 1) := by decide +kernel
theorem dX3_fewestSayings_3 : decode cX3_fewestSayings 3 = .ok (.invokevirtual 78, 3) := by decide +kernel
theorem dX3_fewestSayings_6 : decode cX3_fewestSayings 6 = .ok (.aload_n 0, 1) := by decide +kernel
theorem dX3_fewestSayings_7 : decode cX3_fewestSayings 7 = .ok (.aload_n 1, 1) := by decide +kernel
theorem dX3_fewestSayings_8 : decode cX3_fewestSayings 8 = .ok (.aload_n 1, 1) := by decide +kernel
theorem dX3_fewestSayings_9 : decode cX3_fewestSayings 9 = .ok (.getfield 103, 3) := by decide +kernel
theorem dX3_fewestSayings_12 : decode cX3_fewestSayings 12 = .ok (.invokevirtual 106, 3) := by decide +kernel
theorem dX3_fewestSayings_15 : decode cX3_fewestSayings 15 = .ok (.istore_n 3, 1) := by decide +kernel
theorem dX3_fewestSayings_16 : decode cX3_fewestSayings 16 = .ok (.iload_n 3, 1) := by decide +kernel
theorem dX3_fewestSayings_17 : decode cX3_fewestSayings 17 = .ok (.ifCond .lt 55, 3) := by decide +kernel
theorem dX3_fewestSayings_20 : decode cX3_fewestSayings 20 = .ok (.aload_n 0, 1) := by decide +kernel
theorem dX3_fewestSayings_21 : decode cX3_fewestSayings 21 = .ok (.getfield 40, 3) := by decide +kernel
theorem dX3_fewestSayings_24 : decode cX3_fewestSayings 24 = .ok (.invokevirtual 110, 3) := by decide +kernel
theorem dX3_fewestSayings_27 : decode cX3_fewestSayings 27 = .ok (.iconst 0, 1) := by decide +kernel
theorem dX3_fewestSayings_28 : decode cX3_fewestSayings 28 = .ok (.istore 4, 2) := by decide +kernel
theorem dX3_fewestSayings_30 : decode cX3_fewestSayings 30 = .ok (.iload 4, 2) := by decide +kernel
theorem dX3_fewestSayings_32 : decode cX3_fewestSayings 32 = .ok (.iload_n 3, 1) := by decide +kernel
theorem dX3_fewestSayings_33 : decode cX3_fewestSayings 33 = .ok (.if_icmp .ge 39, 3) := by decide +kernel
theorem dX3_fewestSayings_36 : decode cX3_fewestSayings 36 = .ok (.aload_n 0, 1) := by decide +kernel
theorem dX3_fewestSayings_37 : decode cX3_fewestSayings 37 = .ok (.getfield 40, 3) := by decide +kernel
theorem dX3_fewestSayings_40 : decode cX3_fewestSayings 40 = .ok (.aload_n 1, 1) := by decide +kernel
theorem dX3_fewestSayings_41 : decode cX3_fewestSayings 41 = .ok (.invokestatic 113, 3) := by decide +kernel
theorem dX3_fewestSayings_44 : decode cX3_fewestSayings 44 = .ok (.iload 4, 2) := by decide +kernel
theorem dX3_fewestSayings_46 : decode cX3_fewestSayings 46 = .ok (.iadd, 1) := by decide +kernel
theorem dX3_fewestSayings_47 : decode cX3_fewestSayings 47 = .ok (.i2l, 1) := by decide +kernel
theorem dX3_fewestSayings_48 : decode cX3_fewestSayings 48 = .ok (.invokevirtual 117, 3) := by decide +kernel
theorem dX3_fewestSayings_51 : decode cX3_fewestSayings 51 = .ok (.aload_n 0, 1) := by decide +kernel
theorem dX3_fewestSayings_52 : decode cX3_fewestSayings 52 = .ok (.getfield 40, 3) := by decide +kernel
theorem dX3_fewestSayings_55 : decode cX3_fewestSayings 55 = .ok (.aload_n 0, 1) := by decide +kernel
theorem dX3_fewestSayings_56 : decode cX3_fewestSayings 56 = .ok (.getfield 25, 3) := by decide +kernel
theorem dX3_fewestSayings_59 : decode cX3_fewestSayings 59 = .ok (.iload 4, 2) := by decide +kernel
theorem dX3_fewestSayings_61 : decode cX3_fewestSayings 61 = .ok (.iaload, 1) := by decide +kernel
theorem dX3_fewestSayings_62 : decode cX3_fewestSayings 62 = .ok (.i2l, 1) := by decide +kernel
theorem dX3_fewestSayings_63 : decode cX3_fewestSayings 63 = .ok (.invokevirtual 117, 3) := by decide +kernel
theorem dX3_fewestSayings_66 : decode cX3_fewestSayings 66 = .ok (.iinc 4 1, 3) := by decide +kernel
theorem dX3_fewestSayings_69 : decode cX3_fewestSayings 69 = .ok (.goto (-39), 3) := by decide +kernel
theorem dX3_fewestSayings_72 : decode cX3_fewestSayings 72 = .ok (.iload_n 3, 1) := by decide +kernel
theorem dX3_fewestSayings_73 : decode cX3_fewestSayings 73 = .ok (.ireturn, 1) := by decide +kernel
theorem dX3_bestSeventh_0 : decode cX3_bestSeventh 0 = .ok (.aload_n 0, 1) := by decide +kernel
theorem dX3_bestSeventh_1 : decode cX3_bestSeventh 1 = .ok (.aload_n 1, 1) := by decide +kernel
theorem dX3_bestSeventh_2 : decode cX3_bestSeventh 2 = .ok (.aload_n 2, 1) := by decide +kernel
theorem dX3_bestSeventh_3 : decode cX3_bestSeventh 3 = .ok (.invokevirtual 78, 3) := by decide +kernel
theorem dX3_bestSeventh_6 : decode cX3_bestSeventh 6 = .ok (.bipush (-2), 2) := by decide +kernel
theorem dX3_bestSeventh_8 : decode cX3_bestSeventh 8 = .ok (.istore_n 3, 1) := by decide +kernel
theorem dX3_bestSeventh_9 : decode cX3_bestSeventh 9 = .ok (.iconst 4, 1) := by decide +kernel
theorem dX3_bestSeventh_10 : decode cX3_bestSeventh 10 = .ok (.istore 4, 2) := by decide +kernel
theorem dX3_bestSeventh_12 : decode cX3_bestSeventh 12 = .ok (.iconst 0, 1) := by decide +kernel
theorem dX3_bestSeventh_13 : decode cX3_bestSeventh 13 = .ok (.istore 5, 2) := by decide +kernel
theorem dX3_bestSeventh_15 : decode cX3_bestSeventh 15 = .ok (.iload 5, 2) := by decide +kernel
theorem dX3_bestSeventh_17 : decode cX3_bestSeventh 17 = .ok (.iconst 4, 1) := by decide +kernel
theorem dX3_bestSeventh_18 : decode cX3_bestSeventh 18 = .ok (.if_icmp .ge 37, 3) := by decide +kernel
theorem dX3_bestSeventh_21 : decode cX3_bestSeventh 21 = .ok (.aload_n 0, 1) := by decide +kernel
theorem dX3_bestSeventh_22 : decode cX3_bestSeventh 22 = .ok (.aload_n 1, 1) := by decide +kernel
theorem dX3_bestSeventh_23 : decode cX3_bestSeventh 23 = .ok (.iload 5, 2) := by decide +kernel
theorem dX3_bestSeventh_25 : decode cX3_bestSeventh 25 = .ok (.invokevirtual 106, 3) := by decide +kernel
theorem dX3_bestSeventh_28 : decode cX3_bestSeventh 28 = .ok (.istore 6, 2) := by decide +kernel
theorem dX3_bestSeventh_30 : decode cX3_bestSeventh 30 = .ok (.iload 6, 2) := by decide +kernel
theorem dX3_bestSeventh_32 : decode cX3_bestSeventh 32 = .ok (.ifCond .lt 17, 3) := by decide +kernel
theorem dX3_bestSeventh_35 : decode cX3_bestSeventh 35 = .ok (.iload 6, 2) := by decide +kernel
theorem dX3_bestSeventh_37 : decode cX3_bestSeventh 37 = .ok (.iload 4, 2) := by decide +kernel
theorem dX3_bestSeventh_39 : decode cX3_bestSeventh 39 = .ok (.if_icmp .ge 10, 3) := by decide +kernel
theorem dX3_bestSeventh_42 : decode cX3_bestSeventh 42 = .ok (.iload 5, 2) := by decide +kernel
theorem dX3_bestSeventh_44 : decode cX3_bestSeventh 44 = .ok (.istore_n 3, 1) := by decide +kernel
theorem dX3_bestSeventh_45 : decode cX3_bestSeventh 45 = .ok (.iload 6, 2) := by decide +kernel
theorem dX3_bestSeventh_47 : decode cX3_bestSeventh 47 = .ok (.istore 4, 2) := by decide +kernel
theorem dX3_bestSeventh_49 : decode cX3_bestSeventh 49 = .ok (.iinc 5 1, 3) := by decide +kernel
theorem dX3_bestSeventh_52 : decode cX3_bestSeventh 52 = .ok (.goto (-37), 3) := by decide +kernel
theorem dX3_bestSeventh_55 : decode cX3_bestSeventh 55 = .ok (.iload_n 3, 1) := by decide +kernel
theorem dX3_bestSeventh_56 : decode cX3_bestSeventh 56 = .ok (.ifCond .lt 40, 3) := by decide +kernel
theorem dX3_bestSeventh_59 : decode cX3_bestSeventh 59 = .ok (.aload_n 0, 1) := by decide +kernel
theorem dX3_bestSeventh_60 : decode cX3_bestSeventh 60 = .ok (.getfield 40, 3) := by decide +kernel
theorem dX3_bestSeventh_63 : decode cX3_bestSeventh 63 = .ok (.invokevirtual 110, 3) := by decide +kernel
theorem dX3_bestSeventh_66 : decode cX3_bestSeventh 66 = .ok (.iconst 0, 1) := by decide +kernel
theorem dX3_bestSeventh_67 : decode cX3_bestSeventh 67 = .ok (.istore 5, 2) := by decide +kernel
theorem dX3_bestSeventh_69 : decode cX3_bestSeventh 69 = .ok (.iload 5, 2) := by decide +kernel
theorem dX3_bestSeventh_71 : decode cX3_bestSeventh 71 = .ok (.iconst 4, 1) := by decide +kernel
theorem dX3_bestSeventh_72 : decode cX3_bestSeventh 72 = .ok (.if_icmp .ge 24, 3) := by decide +kernel
theorem dX3_bestSeventh_75 : decode cX3_bestSeventh 75 = .ok (.aload_n 0, 1) := by decide +kernel
theorem dX3_bestSeventh_76 : decode cX3_bestSeventh 76 = .ok (.getfield 40, 3) := by decide +kernel
theorem dX3_bestSeventh_79 : decode cX3_bestSeventh 79 = .ok (.aload_n 0, 1) := by decide +kernel
theorem dX3_bestSeventh_80 : decode cX3_bestSeventh 80 = .ok (.aload_n 1, 1) := by decide +kernel
theorem dX3_bestSeventh_81 : decode cX3_bestSeventh 81 = .ok (.iload 5, 2) := by decide +kernel
theorem dX3_bestSeventh_83 : decode cX3_bestSeventh 83 = .ok (.invokevirtual 106, 3) := by decide +kernel
theorem dX3_bestSeventh_86 : decode cX3_bestSeventh 86 = .ok (.i2l, 1) := by decide +kernel
theorem dX3_bestSeventh_87 : decode cX3_bestSeventh 87 = .ok (.invokevirtual 117, 3) := by decide +kernel
theorem dX3_bestSeventh_90 : decode cX3_bestSeventh 90 = .ok (.iinc 5 1, 3) := by decide +kernel
theorem dX3_bestSeventh_93 : decode cX3_bestSeventh 93 = .ok (.goto (-24), 3) := by decide +kernel
theorem dX3_bestSeventh_96 : decode cX3_bestSeventh 96 = .ok (.iload_n 3, 1) := by decide +kernel
theorem dX3_bestSeventh_97 : decode cX3_bestSeventh 97 = .ok (.ireturn, 1) := by decide +kernel
theorem dX3_firstToSpeak_0 : decode cX3_firstToSpeak 0 = .ok (.aload_n 0, 1) := by decide +kernel
theorem dX3_firstToSpeak_1 : decode cX3_firstToSpeak 1 = .ok (.getfield 121, 3) := by decide +kernel
theorem dX3_firstToSpeak_4 : decode cX3_firstToSpeak 4 = .ok (.ifCond .eq 12, 3) := by decide +kernel
theorem dX3_firstToSpeak_7 : decode cX3_firstToSpeak 7 = .ok (.aload_n 0, 1) := by decide +kernel
theorem dX3_firstToSpeak_8 : decode cX3_firstToSpeak 8 = .ok (.getfield 48, 3) := by decide +kernel
theorem dX3_firstToSpeak_11 : decode cX3_firstToSpeak 11 = .ok (.iconst 1, 1) := by decide +kernel
theorem dX3_firstToSpeak_12 : decode cX3_firstToSpeak 12 = .ok (.iadd, 1) := by decide +kernel
theorem dX3_firstToSpeak_13 : decode cX3_firstToSpeak 13 = .ok (.goto 7, 3) := by decide +kernel
theorem dX3_firstToSpeak_16 : decode cX3_firstToSpeak 16 = .ok (.aload_n 0, 1) := by decide +kernel
theorem dX3_firstToSpeak_17 : decode cX3_firstToSpeak 17 = .ok (.getfield 48, 3) := by decide +kernel
theorem dX3_firstToSpeak_20 : decode cX3_firstToSpeak 20 = .ok (.ireturn, 1) := by decide +kernel
theorem dX3_fewestBy_0 : decode cX3_fewestBy 0 = .ok (.aload_n 1, 1) := by decide +kernel
theorem dX3_fewestBy_1 : decode cX3_fewestBy 1 = .ok (.getfield 125, 3) := by decide +kernel
theorem dX3_fewestBy_4 : decode cX3_fewestBy 4 = .ok (.aload_n 0, 1) := by decide +kernel
theorem dX3_fewestBy_5 : decode cX3_fewestBy 5 = .ok (.getfield 22, 3) := by decide +kernel
theorem dX3_fewestBy_8 : decode cX3_fewestBy 8 = .ok (.aload_n 1, 1) := by decide +kernel
theorem dX3_fewestBy_9 : decode cX3_fewestBy 9 = .ok (.getfield 48, 3) := by decide +kernel
theorem dX3_fewestBy_12 : decode cX3_fewestBy 12 = .ok (.iaload, 1) := by decide +kernel
theorem dX3_fewestBy_13 : decode cX3_fewestBy 13 = .ok (.if_icmp .gt 5, 3) := by decide +kernel
theorem dX3_fewestBy_16 : decode cX3_fewestBy 16 = .ok (.iconst 0, 1) := by decide +kernel
theorem dX3_fewestBy_17 : decode cX3_fewestBy 17 = .ok (.ireturn, 1) := by decide +kernel
theorem dX3_fewestBy_18 : decode cX3_fewestBy 18 = .ok (.aload_n 1, 1) := by decide +kernel
theorem dX3_fewestBy_19 : decode cX3_fewestBy 19 = .ok (.getfield 121, 3) := by decide +kernel
theorem dX3_fewestBy_22 : decode cX3_fewestBy 22 = .ok (.ifCond .eq 22, 3) := by decide +kernel
theorem dX3_fewestBy_25 : decode cX3_fewestBy 25 = .ok (.aload_n 1, 1) := by decide +kernel
theorem dX3_fewestBy_26 : decode cX3_fewestBy 26 = .ok (.getfield 125, 3) := by decide +kernel
theorem dX3_fewestBy_29 : decode cX3_fewestBy 29 = .ok (.aload_n 0, 1) := by decide +kernel
theorem dX3_fewestBy_30 : decode cX3_fewestBy 30 = .ok (.getfield 18, 3) := by decide +kernel
theorem dX3_fewestBy_33 : decode cX3_fewestBy 33 = .ok (.aload_n 1, 1) := by decide +kernel
theorem dX3_fewestBy_34 : decode cX3_fewestBy 34 = .ok (.getfield 48, 3) := by decide +kernel
theorem dX3_fewestBy_37 : decode cX3_fewestBy 37 = .ok (.iaload, 1) := by decide +kernel
theorem dX3_fewestBy_38 : decode cX3_fewestBy 38 = .ok (.if_icmp .le 6, 3) := by decide +kernel
theorem dX3_fewestBy_41 : decode cX3_fewestBy 41 = .ok (.bipush (-2), 2) := by decide +kernel
theorem dX3_fewestBy_43 : decode cX3_fewestBy 43 = .ok (.ireturn, 1) := by decide +kernel
theorem dX3_fewestBy_44 : decode cX3_fewestBy 44 = .ok (.aload_n 0, 1) := by decide +kernel
theorem dX3_fewestBy_45 : decode cX3_fewestBy 45 = .ok (.getfield 36, 3) := by decide +kernel
theorem dX3_fewestBy_48 : decode cX3_fewestBy 48 = .ok (.getfield 128, 3) := by decide +kernel
theorem dX3_fewestBy_51 : decode cX3_fewestBy 51 = .ok (.aload_n 0, 1) := by decide +kernel
theorem dX3_fewestBy_52 : decode cX3_fewestBy 52 = .ok (.getfield 36, 3) := by decide +kernel
theorem dX3_fewestBy_55 : decode cX3_fewestBy 55 = .ok (.iload_n 2, 1) := by decide +kernel
theorem dX3_fewestBy_56 : decode cX3_fewestBy 56 = .ok (.invokevirtual 133, 3) := by decide +kernel
theorem dX3_fewestBy_59 : decode cX3_fewestBy 59 = .ok (.iand, 1) := by decide +kernel
theorem dX3_fewestBy_60 : decode cX3_fewestBy 60 = .ok (.aload_n 1, 1) := by decide +kernel
theorem dX3_fewestBy_61 : decode cX3_fewestBy 61 = .ok (.getfield 136, 3) := by decide +kernel
theorem dX3_fewestBy_64 : decode cX3_fewestBy 64 = .ok (.iconst (-1), 1) := by decide +kernel
theorem dX3_fewestBy_65 : decode cX3_fewestBy 65 = .ok (.ixor, 1) := by decide +kernel
theorem dX3_fewestBy_66 : decode cX3_fewestBy 66 = .ok (.iand, 1) := by decide +kernel
theorem dX3_fewestBy_67 : decode cX3_fewestBy 67 = .ok (.istore_n 3, 1) := by decide +kernel
theorem dX3_fewestBy_68 : decode cX3_fewestBy 68 = .ok (.iconst 1, 1) := by decide +kernel
theorem dX3_fewestBy_69 : decode cX3_fewestBy 69 = .ok (.istore 4, 2) := by decide +kernel
theorem dX3_fewestBy_71 : decode cX3_fewestBy 71 = .ok (.iload 4, 2) := by decide +kernel
theorem dX3_fewestBy_73 : decode cX3_fewestBy 73 = .ok (.iconst 3, 1) := by decide +kernel
theorem dX3_fewestBy_74 : decode cX3_fewestBy 74 = .ok (.if_icmp .gt 31, 3) := by decide +kernel
theorem dX3_fewestBy_77 : decode cX3_fewestBy 77 = .ok (.aload_n 0, 1) := by decide +kernel
theorem dX3_fewestBy_78 : decode cX3_fewestBy 78 = .ok (.iload_n 3, 1) := by decide +kernel
theorem dX3_fewestBy_79 : decode cX3_fewestBy 79 = .ok (.aload_n 1, 1) := by decide +kernel
theorem dX3_fewestBy_80 : decode cX3_fewestBy 80 = .ok (.invokestatic 113, 3) := by decide +kernel
theorem dX3_fewestBy_83 : decode cX3_fewestBy 83 = .ok (.aload_n 1, 1) := by decide +kernel
theorem dX3_fewestBy_84 : decode cX3_fewestBy 84 = .ok (.getfield 125, 3) := by decide +kernel
theorem dX3_fewestBy_87 : decode cX3_fewestBy 87 = .ok (.iconst 0, 1) := by decide +kernel
theorem dX3_fewestBy_88 : decode cX3_fewestBy 88 = .ok (.iload 4, 2) := by decide +kernel
theorem dX3_fewestBy_90 : decode cX3_fewestBy 90 = .ok (.invokevirtual 139, 3) := by decide +kernel
theorem dX3_fewestBy_93 : decode cX3_fewestBy 93 = .ok (.ifCond .eq 6, 3) := by decide +kernel
theorem dX3_fewestBy_96 : decode cX3_fewestBy 96 = .ok (.iload 4, 2) := by decide +kernel
theorem dX3_fewestBy_98 : decode cX3_fewestBy 98 = .ok (.ireturn, 1) := by decide +kernel
theorem dX3_fewestBy_99 : decode cX3_fewestBy 99 = .ok (.iinc 4 1, 3) := by decide +kernel
theorem dX3_fewestBy_102 : decode cX3_fewestBy 102 = .ok (.goto (-31), 3) := by decide +kernel
theorem dX3_fewestBy_105 : decode cX3_fewestBy 105 = .ok (.bipush (-2), 2) := by decide +kernel
theorem dX3_fewestBy_107 : decode cX3_fewestBy 107 = .ok (.ireturn, 1) := by decide +kernel
theorem dX3_hushes_0 : decode cX3_hushes 0 = .ok (.iload 4, 2) := by decide +kernel
theorem dX3_hushes_2 : decode cX3_hushes 2 = .ok (.iload 5, 2) := by decide +kernel
theorem dX3_hushes_4 : decode cX3_hushes 4 = .ok (.if_icmp .ge 20, 3) := by decide +kernel
theorem dX3_hushes_7 : decode cX3_hushes 7 = .ok (.iload 4, 2) := by decide +kernel
theorem dX3_hushes_9 : decode cX3_hushes 9 = .ok (.iconst 3, 1) := by decide +kernel
theorem dX3_hushes_10 : decode cX3_hushes 10 = .ok (.if_icmp .ge 14, 3) := by decide +kernel
theorem dX3_hushes_13 : decode cX3_hushes 13 = .ok (.iload_n 2, 1) := by decide +kernel
theorem dX3_hushes_14 : decode cX3_hushes 14 = .ok (.aload_n 0, 1) := by decide +kernel
theorem dX3_hushes_15 : decode cX3_hushes 15 = .ok (.getfield 28, 3) := by decide +kernel
theorem dX3_hushes_18 : decode cX3_hushes 18 = .ok (.getfield 52, 3) := by decide +kernel
theorem dX3_hushes_21 : decode cX3_hushes 21 = .ok (.if_icmp .lt 5, 3) := by decide +kernel
theorem dX3_hushes_24 : decode cX3_hushes 24 = .ok (.iconst 0, 1) := by decide +kernel
theorem dX3_hushes_25 : decode cX3_hushes 25 = .ok (.ireturn, 1) := by decide +kernel
theorem dX3_hushes_26 : decode cX3_hushes 26 = .ok (.iconst 0, 1) := by decide +kernel
theorem dX3_hushes_27 : decode cX3_hushes 27 = .ok (.istore 6, 2) := by decide +kernel
theorem dX3_hushes_29 : decode cX3_hushes 29 = .ok (.iload 6, 2) := by decide +kernel
theorem dX3_hushes_31 : decode cX3_hushes 31 = .ok (.aload_n 0, 1) := by decide +kernel
theorem dX3_hushes_32 : decode cX3_hushes 32 = .ok (.getfield 36, 3) := by decide +kernel
theorem dX3_hushes_35 : decode cX3_hushes 35 = .ok (.getfield 143, 3) := by decide +kernel
theorem dX3_hushes_38 : decode cX3_hushes 38 = .ok (.if_icmp .ge 118, 3) := by decide +kernel
theorem dX3_hushes_41 : decode cX3_hushes 41 = .ok (.iload_n 1, 1) := by decide +kernel
theorem dX3_hushes_42 : decode cX3_hushes 42 = .ok (.iload 6, 2) := by decide +kernel
theorem dX3_hushes_44 : decode cX3_hushes 44 = .ok (.ishr, 1) := by decide +kernel
theorem dX3_hushes_45 : decode cX3_hushes 45 = .ok (.iconst 1, 1) := by decide +kernel
theorem dX3_hushes_46 : decode cX3_hushes 46 = .ok (.iand, 1) := by decide +kernel
theorem dX3_hushes_47 : decode cX3_hushes 47 = .ok (.ifCond .eq 103, 3) := by decide +kernel
theorem dX3_hushes_50 : decode cX3_hushes 50 = .ok (.aload_n 0, 1) := by decide +kernel
theorem dX3_hushes_51 : decode cX3_hushes 51 = .ok (.getfield 36, 3) := by decide +kernel
theorem dX3_hushes_54 : decode cX3_hushes 54 = .ok (.iload_n 3, 1) := by decide +kernel
theorem dX3_hushes_55 : decode cX3_hushes 55 = .ok (.iload 6, 2) := by decide +kernel
theorem dX3_hushes_57 : decode cX3_hushes 57 = .ok (.invokevirtual 144, 3) := by decide +kernel
theorem dX3_hushes_60 : decode cX3_hushes 60 = .ok (.istore 7, 2) := by decide +kernel
theorem dX3_hushes_62 : decode cX3_hushes 62 = .ok (.aload_n 0, 1) := by decide +kernel
theorem dX3_hushes_63 : decode cX3_hushes 63 = .ok (.getfield 25, 3) := by decide +kernel
theorem dX3_hushes_66 : decode cX3_hushes 66 = .ok (.iload 4, 2) := by decide +kernel
theorem dX3_hushes_68 : decode cX3_hushes 68 = .ok (.iload 6, 2) := by decide +kernel
theorem dX3_hushes_70 : decode cX3_hushes 70 = .ok (.iastore, 1) := by decide +kernel
theorem dX3_hushes_71 : decode cX3_hushes 71 = .ok (.iload 4, 2) := by decide +kernel
theorem dX3_hushes_73 : decode cX3_hushes 73 = .ok (.iconst 1, 1) := by decide +kernel
theorem dX3_hushes_74 : decode cX3_hushes 74 = .ok (.iadd, 1) := by decide +kernel
theorem dX3_hushes_75 : decode cX3_hushes 75 = .ok (.iload 5, 2) := by decide +kernel
theorem dX3_hushes_77 : decode cX3_hushes 77 = .ok (.if_icmp .ne 22, 3) := by decide +kernel
theorem dX3_hushes_80 : decode cX3_hushes 80 = .ok (.iload 7, 2) := by decide +kernel
theorem dX3_hushes_82 : decode cX3_hushes 82 = .ok (.aload_n 0, 1) := by decide +kernel
theorem dX3_hushes_83 : decode cX3_hushes 83 = .ok (.getfield 22, 3) := by decide +kernel
theorem dX3_hushes_86 : decode cX3_hushes 86 = .ok (.iload_n 2, 1) := by decide +kernel
theorem dX3_hushes_87 : decode cX3_hushes 87 = .ok (.iaload, 1) := by decide +kernel
theorem dX3_hushes_88 : decode cX3_hushes 88 = .ok (.if_icmp .gt 7, 3) := by decide +kernel
theorem dX3_hushes_91 : decode cX3_hushes 91 = .ok (.iconst 1, 1) := by decide +kernel
theorem dX3_hushes_92 : decode cX3_hushes 92 = .ok (.goto 49, 3) := by decide +kernel
theorem dX3_hushes_95 : decode cX3_hushes 95 = .ok (.iconst 0, 1) := by decide +kernel
theorem dX3_hushes_96 : decode cX3_hushes 96 = .ok (.goto 45, 3) := by decide +kernel
theorem dX3_hushes_99 : decode cX3_hushes 99 = .ok (.iload 7, 2) := by decide +kernel
theorem dX3_hushes_101 : decode cX3_hushes 101 = .ok (.aload_n 0, 1) := by decide +kernel
theorem dX3_hushes_102 : decode cX3_hushes 102 = .ok (.getfield 18, 3) := by decide +kernel
theorem dX3_hushes_105 : decode cX3_hushes 105 = .ok (.iload_n 2, 1) := by decide +kernel
theorem dX3_hushes_106 : decode cX3_hushes 106 = .ok (.iaload, 1) := by decide +kernel
theorem dX3_hushes_107 : decode cX3_hushes 107 = .ok (.if_icmp .gt 33, 3) := by decide +kernel
theorem dX3_hushes_110 : decode cX3_hushes 110 = .ok (.aload_n 0, 1) := by decide +kernel
theorem dX3_hushes_111 : decode cX3_hushes 111 = .ok (.iload_n 1, 1) := by decide +kernel
theorem dX3_hushes_112 : decode cX3_hushes 112 = .ok (.iconst 1, 1) := by decide +kernel
theorem dX3_hushes_113 : decode cX3_hushes 113 = .ok (.iload 6, 2) := by decide +kernel
theorem dX3_hushes_115 : decode cX3_hushes 115 = .ok (.ishl, 1) := by decide +kernel
theorem dX3_hushes_116 : decode cX3_hushes 116 = .ok (.iconst (-1), 1) := by decide +kernel
theorem dX3_hushes_117 : decode cX3_hushes 117 = .ok (.ixor, 1) := by decide +kernel
theorem dX3_hushes_118 : decode cX3_hushes 118 = .ok (.iand, 1) := by decide +kernel
theorem dX3_hushes_119 : decode cX3_hushes 119 = .ok (.iload_n 2, 1) := by decide +kernel
theorem dX3_hushes_120 : decode cX3_hushes 120 = .ok (.iconst 1, 1) := by decide +kernel
theorem dX3_hushes_121 : decode cX3_hushes 121 = .ok (.iadd, 1) := by decide +kernel
theorem dX3_hushes_122 : decode cX3_hushes 122 = .ok (.iload 7, 2) := by decide +kernel
theorem dX3_hushes_124 : decode cX3_hushes 124 = .ok (.iload 4, 2) := by decide +kernel
theorem dX3_hushes_126 : decode cX3_hushes 126 = .ok (.iconst 1, 1) := by decide +kernel
theorem dX3_hushes_127 : decode cX3_hushes 127 = .ok (.iadd, 1) := by decide +kernel
theorem dX3_hushes_128 : decode cX3_hushes 128 = .ok (.iload 5, 2) := by decide +kernel
theorem dX3_hushes_130 : decode cX3_hushes 130 = .ok (.invokevirtual 139, 3) := by decide +kernel
theorem dX3_hushes_133 : decode cX3_hushes 133 = .ok (.ifCond .eq 7, 3) := by decide +kernel
theorem dX3_hushes_136 : decode cX3_hushes 136 = .ok (.iconst 1, 1) := by decide +kernel
theorem dX3_hushes_137 : decode cX3_hushes 137 = .ok (.goto 4, 3) := by decide +kernel
theorem dX3_hushes_140 : decode cX3_hushes 140 = .ok (.iconst 0, 1) := by decide +kernel
theorem dX3_hushes_141 : decode cX3_hushes 141 = .ok (.istore 8, 2) := by decide +kernel
theorem dX3_hushes_143 : decode cX3_hushes 143 = .ok (.iload 8, 2) := by decide +kernel
theorem dX3_hushes_145 : decode cX3_hushes 145 = .ok (.ifCond .eq 5, 3) := by decide +kernel
theorem dX3_hushes_148 : decode cX3_hushes 148 = .ok (.iconst 1, 1) := by decide +kernel
theorem dX3_hushes_149 : decode cX3_hushes 149 = .ok (.ireturn, 1) := by decide +kernel
theorem dX3_hushes_150 : decode cX3_hushes 150 = .ok (.iinc 6 1, 3) := by decide +kernel
theorem dX3_hushes_153 : decode cX3_hushes 153 = .ok (.goto (-124), 3) := by decide +kernel
theorem dX3_hushes_156 : decode cX3_hushes 156 = .ok (.iconst 0, 1) := by decide +kernel
theorem dX3_hushes_157 : decode cX3_hushes 157 = .ok (.ireturn, 1) := by decide +kernel
theorem dX3_sayable_0 : decode cX3_sayable 0 = .ok (.iconst 0, 1) := by decide +kernel
theorem dX3_sayable_1 : decode cX3_sayable 1 = .ok (.istore_n 2, 1) := by decide +kernel
theorem dX3_sayable_2 : decode cX3_sayable 2 = .ok (.iconst (-1), 1) := by decide +kernel
theorem dX3_sayable_3 : decode cX3_sayable 3 = .ok (.istore_n 3, 1) := by decide +kernel
theorem dX3_sayable_4 : decode cX3_sayable 4 = .ok (.aload_n 1, 1) := by decide +kernel
theorem dX3_sayable_5 : decode cX3_sayable 5 = .ok (.getfield 125, 3) := by decide +kernel
theorem dX3_sayable_8 : decode cX3_sayable 8 = .ok (.istore 4, 2) := by decide +kernel
theorem dX3_sayable_10 : decode cX3_sayable 10 = .ok (.iconst 0, 1) := by decide +kernel
theorem dX3_sayable_11 : decode cX3_sayable 11 = .ok (.istore 5, 2) := by decide +kernel
theorem dX3_sayable_13 : decode cX3_sayable 13 = .ok (.iload 5, 2) := by decide +kernel
theorem dX3_sayable_15 : decode cX3_sayable 15 = .ok (.aload_n 0, 1) := by decide +kernel
theorem dX3_sayable_16 : decode cX3_sayable 16 = .ok (.getfield 36, 3) := by decide +kernel
theorem dX3_sayable_19 : decode cX3_sayable 19 = .ok (.getfield 143, 3) := by decide +kernel
theorem dX3_sayable_22 : decode cX3_sayable 22 = .ok (.if_icmp .ge 66, 3) := by decide +kernel
theorem dX3_sayable_25 : decode cX3_sayable 25 = .ok (.aload_n 1, 1) := by decide +kernel
theorem dX3_sayable_26 : decode cX3_sayable 26 = .ok (.aload_n 0, 1) := by decide +kernel
theorem dX3_sayable_27 : decode cX3_sayable 27 = .ok (.getfield 28, 3) := by decide +kernel
theorem dX3_sayable_30 : decode cX3_sayable 30 = .ok (.aload_n 0, 1) := by decide +kernel
theorem dX3_sayable_31 : decode cX3_sayable 31 = .ok (.getfield 36, 3) := by decide +kernel
theorem dX3_sayable_34 : decode cX3_sayable 34 = .ok (.iload 5, 2) := by decide +kernel
theorem dX3_sayable_36 : decode cX3_sayable 36 = .ok (.invokevirtual 147, 3) := by decide +kernel
theorem dX3_sayable_39 : decode cX3_sayable 39 = .ok (.ifCond .ne 43, 3) := by decide +kernel
theorem dX3_sayable_42 : decode cX3_sayable 42 = .ok (.aload_n 0, 1) := by decide +kernel
theorem dX3_sayable_43 : decode cX3_sayable 43 = .ok (.getfield 36, 3) := by decide +kernel
theorem dX3_sayable_46 : decode cX3_sayable 46 = .ok (.aload_n 1, 1) := by decide +kernel
theorem dX3_sayable_47 : decode cX3_sayable 47 = .ok (.getfield 125, 3) := by decide +kernel
theorem dX3_sayable_50 : decode cX3_sayable 50 = .ok (.iload 5, 2) := by decide +kernel
theorem dX3_sayable_52 : decode cX3_sayable 52 = .ok (.invokevirtual 144, 3) := by decide +kernel
theorem dX3_sayable_55 : decode cX3_sayable 55 = .ok (.istore 6, 2) := by decide +kernel
theorem dX3_sayable_57 : decode cX3_sayable 57 = .ok (.iload_n 3, 1) := by decide +kernel
theorem dX3_sayable_58 : decode cX3_sayable 58 = .ok (.ifCond .lt 10, 3) := by decide +kernel
theorem dX3_sayable_61 : decode cX3_sayable 61 = .ok (.iload 6, 2) := by decide +kernel
theorem dX3_sayable_63 : decode cX3_sayable 63 = .ok (.iload 4, 2) := by decide +kernel
theorem dX3_sayable_65 : decode cX3_sayable 65 = .ok (.if_icmp .ge 10, 3) := by decide +kernel
theorem dX3_sayable_68 : decode cX3_sayable 68 = .ok (.iload 5, 2) := by decide +kernel
theorem dX3_sayable_70 : decode cX3_sayable 70 = .ok (.istore_n 3, 1) := by decide +kernel
theorem dX3_sayable_71 : decode cX3_sayable 71 = .ok (.iload 6, 2) := by decide +kernel
theorem dX3_sayable_73 : decode cX3_sayable 73 = .ok (.istore 4, 2) := by decide +kernel
theorem dX3_sayable_75 : decode cX3_sayable 75 = .ok (.iload_n 2, 1) := by decide +kernel
theorem dX3_sayable_76 : decode cX3_sayable 76 = .ok (.iconst 1, 1) := by decide +kernel
theorem dX3_sayable_77 : decode cX3_sayable 77 = .ok (.iload 5, 2) := by decide +kernel
theorem dX3_sayable_79 : decode cX3_sayable 79 = .ok (.ishl, 1) := by decide +kernel
theorem dX3_sayable_80 : decode cX3_sayable 80 = .ok (.ior, 1) := by decide +kernel
theorem dX3_sayable_81 : decode cX3_sayable 81 = .ok (.istore_n 2, 1) := by decide +kernel
theorem dX3_sayable_82 : decode cX3_sayable 82 = .ok (.iinc 5 1, 3) := by decide +kernel
theorem dX3_sayable_85 : decode cX3_sayable 85 = .ok (.goto (-72), 3) := by decide +kernel
theorem dX3_sayable_88 : decode cX3_sayable 88 = .ok (.aload_n 0, 1) := by decide +kernel
theorem dX3_sayable_89 : decode cX3_sayable 89 = .ok (.getfield 40, 3) := by decide +kernel
theorem dX3_sayable_92 : decode cX3_sayable 92 = .ok (.iload_n 3, 1) := by decide +kernel
theorem dX3_sayable_93 : decode cX3_sayable 93 = .ok (.i2l, 1) := by decide +kernel
theorem dX3_sayable_94 : decode cX3_sayable 94 = .ok (.iload 4, 2) := by decide +kernel
theorem dX3_sayable_96 : decode cX3_sayable 96 = .ok (.i2l, 1) := by decide +kernel
theorem dX3_sayable_97 : decode cX3_sayable 97 = .ok (.invokevirtual 69, 3) := by decide +kernel
theorem dX3_sayable_100 : decode cX3_sayable 100 = .ok (.iload_n 2, 1) := by decide +kernel
theorem dX3_sayable_101 : decode cX3_sayable 101 = .ok (.ireturn, 1) := by decide +kernel
theorem dX3_staggersDrawn_0 : decode cX3_staggersDrawn 0 = .ok (.aload_n 0, 1) := by decide +kernel
theorem dX3_staggersDrawn_1 : decode cX3_staggersDrawn 1 = .ok (.getfield 12, 3) := by decide +kernel
theorem dX3_staggersDrawn_4 : decode cX3_staggersDrawn 4 = .ok (.aload_n 1, 1) := by decide +kernel
theorem dX3_staggersDrawn_5 : decode cX3_staggersDrawn 5 = .ok (.invokevirtual 44, 3) := by decide +kernel
theorem dX3_staggersDrawn_8 : decode cX3_staggersDrawn 8 = .ok (.aload_n 0, 1) := by decide +kernel
theorem dX3_staggersDrawn_9 : decode cX3_staggersDrawn 9 = .ok (.iload_n 3, 1) := by decide +kernel
theorem dX3_staggersDrawn_10 : decode cX3_staggersDrawn 10 = .ok (.putfield 151, 3) := by decide +kernel
theorem dX3_staggersDrawn_13 : decode cX3_staggersDrawn 13 = .ok (.iconst 0, 1) := by decide +kernel
theorem dX3_staggersDrawn_14 : decode cX3_staggersDrawn 14 = .ok (.istore 5, 2) := by decide +kernel
theorem dX3_staggersDrawn_16 : decode cX3_staggersDrawn 16 = .ok (.iload 5, 2) := by decide +kernel
theorem dX3_staggersDrawn_18 : decode cX3_staggersDrawn 18 = .ok (.iload 4, 2) := by decide +kernel
theorem dX3_staggersDrawn_20 : decode cX3_staggersDrawn 20 = .ok (.if_icmp .ge 14, 3) := by decide +kernel
theorem dX3_staggersDrawn_23 : decode cX3_staggersDrawn 23 = .ok (.aload_n 0, 1) := by decide +kernel
theorem dX3_staggersDrawn_24 : decode cX3_staggersDrawn 24 = .ok (.aload_n 2, 1) := by decide +kernel
theorem dX3_staggersDrawn_25 : decode cX3_staggersDrawn 25 = .ok (.invokevirtual 154, 3) := by decide +kernel
theorem dX3_staggersDrawn_28 : decode cX3_staggersDrawn 28 = .ok (.iinc 5 1, 3) := by decide +kernel
theorem dX3_staggersDrawn_31 : decode cX3_staggersDrawn 31 = .ok (.goto (-15), 3) := by decide +kernel
theorem dX3_staggersDrawn_34 : decode cX3_staggersDrawn 34 = .ok (.aload_n 0, 1) := by decide +kernel
theorem dX3_staggersDrawn_35 : decode cX3_staggersDrawn 35 = .ok (.getfield 40, 3) := by decide +kernel
theorem dX3_staggersDrawn_38 : decode cX3_staggersDrawn 38 = .ok (.aload_n 0, 1) := by decide +kernel
theorem dX3_staggersDrawn_39 : decode cX3_staggersDrawn 39 = .ok (.getfield 12, 3) := by decide +kernel
theorem dX3_staggersDrawn_42 : decode cX3_staggersDrawn 42 = .ok (.getfield 48, 3) := by decide +kernel
theorem dX3_staggersDrawn_45 : decode cX3_staggersDrawn 45 = .ok (.i2l, 1) := by decide +kernel
theorem dX3_staggersDrawn_46 : decode cX3_staggersDrawn 46 = .ok (.aload_n 0, 1) := by decide +kernel
theorem dX3_staggersDrawn_47 : decode cX3_staggersDrawn 47 = .ok (.getfield 12, 3) := by decide +kernel
theorem dX3_staggersDrawn_50 : decode cX3_staggersDrawn 50 = .ok (.getfield 125, 3) := by decide +kernel
theorem dX3_staggersDrawn_53 : decode cX3_staggersDrawn 53 = .ok (.i2l, 1) := by decide +kernel
theorem dX3_staggersDrawn_54 : decode cX3_staggersDrawn 54 = .ok (.invokevirtual 69, 3) := by decide +kernel
theorem dX3_staggersDrawn_57 : decode cX3_staggersDrawn 57 = .ok (.aload_n 0, 1) := by decide +kernel
theorem dX3_staggersDrawn_58 : decode cX3_staggersDrawn 58 = .ok (.getfield 12, 3) := by decide +kernel
theorem dX3_staggersDrawn_61 : decode cX3_staggersDrawn 61 = .ok (.getfield 75, 3) := by decide +kernel
theorem dX3_staggersDrawn_64 : decode cX3_staggersDrawn 64 = .ok (.aload_n 1, 1) := by decide +kernel
theorem dX3_staggersDrawn_65 : decode cX3_staggersDrawn 65 = .ok (.getfield 75, 3) := by decide +kernel
theorem dX3_staggersDrawn_68 : decode cX3_staggersDrawn 68 = .ok (.isub, 1) := by decide +kernel
theorem dX3_staggersDrawn_69 : decode cX3_staggersDrawn 69 = .ok (.ireturn, 1) := by decide +kernel
theorem dX3_doDrawn_0 : decode cX3_doDrawn 0 = .ok (.aload_n 0, 1) := by decide +kernel
theorem dX3_doDrawn_1 : decode cX3_doDrawn 1 = .ok (.iconst 4, 1) := by decide +kernel
theorem dX3_doDrawn_2 : decode cX3_doDrawn 2 = .ok (.invokevirtual 158, 3) := by decide +kernel
theorem dX3_doDrawn_5 : decode cX3_doDrawn 5 = .ok (.tableswitch 109 0 2 #[27, 45, 71], 27) := by decide +kernel
theorem dX3_doDrawn_32 : decode cX3_doDrawn 32 = .ok (.aload_n 0, 1) := by decide +kernel
theorem dX3_doDrawn_33 : decode cX3_doDrawn 33 = .ok (.getfield 12, 3) := by decide +kernel
theorem dX3_doDrawn_36 : decode cX3_doDrawn 36 = .ok (.aload_n 0, 1) := by decide +kernel
theorem dX3_doDrawn_37 : decode cX3_doDrawn 37 = .ok (.getfield 28, 3) := by decide +kernel
theorem dX3_doDrawn_40 : decode cX3_doDrawn 40 = .ok (.aload_n 0, 1) := by decide +kernel
theorem dX3_doDrawn_41 : decode cX3_doDrawn 41 = .ok (.getfield 32, 3) := by decide +kernel
theorem dX3_doDrawn_44 : decode cX3_doDrawn 44 = .ok (.aload_n 1, 1) := by decide +kernel
theorem dX3_doDrawn_45 : decode cX3_doDrawn 45 = .ok (.invokevirtual 57, 3) := by decide +kernel
theorem dX3_doDrawn_48 : decode cX3_doDrawn 48 = .ok (.pop, 1) := by decide +kernel
theorem dX3_doDrawn_49 : decode cX3_doDrawn 49 = .ok (.return_, 1) := by decide +kernel
theorem dX3_doDrawn_50 : decode cX3_doDrawn 50 = .ok (.aload_n 0, 1) := by decide +kernel
theorem dX3_doDrawn_51 : decode cX3_doDrawn 51 = .ok (.getfield 32, 3) := by decide +kernel
theorem dX3_doDrawn_54 : decode cX3_doDrawn 54 = .ok (.getfield 61, 3) := by decide +kernel
theorem dX3_doDrawn_57 : decode cX3_doDrawn 57 = .ok (.ifCond .le 18, 3) := by decide +kernel
theorem dX3_doDrawn_60 : decode cX3_doDrawn 60 = .ok (.aload_n 0, 1) := by decide +kernel
theorem dX3_doDrawn_61 : decode cX3_doDrawn 61 = .ok (.aload_n 0, 1) := by decide +kernel
theorem dX3_doDrawn_62 : decode cX3_doDrawn 62 = .ok (.aload_n 0, 1) := by decide +kernel
theorem dX3_doDrawn_63 : decode cX3_doDrawn 63 = .ok (.getfield 32, 3) := by decide +kernel
theorem dX3_doDrawn_66 : decode cX3_doDrawn 66 = .ok (.getfield 61, 3) := by decide +kernel
theorem dX3_doDrawn_69 : decode cX3_doDrawn 69 = .ok (.invokevirtual 158, 3) := by decide +kernel
theorem dX3_doDrawn_72 : decode cX3_doDrawn 72 = .ok (.invokevirtual 161, 3) := by decide +kernel
theorem dX3_doDrawn_75 : decode cX3_doDrawn 75 = .ok (.return_, 1) := by decide +kernel
theorem dX3_doDrawn_76 : decode cX3_doDrawn 76 = .ok (.aload_n 0, 1) := by decide +kernel
theorem dX3_doDrawn_77 : decode cX3_doDrawn 77 = .ok (.getfield 36, 3) := by decide +kernel
theorem dX3_doDrawn_80 : decode cX3_doDrawn 80 = .ok (.getfield 143, 3) := by decide +kernel
theorem dX3_doDrawn_83 : decode cX3_doDrawn 83 = .ok (.ifCond .le 30, 3) := by decide +kernel
theorem dX3_doDrawn_86 : decode cX3_doDrawn 86 = .ok (.aload_n 0, 1) := by decide +kernel
theorem dX3_doDrawn_87 : decode cX3_doDrawn 87 = .ok (.getfield 12, 3) := by decide +kernel
theorem dX3_doDrawn_90 : decode cX3_doDrawn 90 = .ok (.aload_n 0, 1) := by decide +kernel
theorem dX3_doDrawn_91 : decode cX3_doDrawn 91 = .ok (.getfield 28, 3) := by decide +kernel
theorem dX3_doDrawn_94 : decode cX3_doDrawn 94 = .ok (.aload_n 0, 1) := by decide +kernel
theorem dX3_doDrawn_95 : decode cX3_doDrawn 95 = .ok (.getfield 36, 3) := by decide +kernel
theorem dX3_doDrawn_98 : decode cX3_doDrawn 98 = .ok (.aload_n 0, 1) := by decide +kernel
theorem dX3_doDrawn_99 : decode cX3_doDrawn 99 = .ok (.aload_n 0, 1) := by decide +kernel
theorem dX3_doDrawn_100 : decode cX3_doDrawn 100 = .ok (.getfield 36, 3) := by decide +kernel
theorem dX3_doDrawn_103 : decode cX3_doDrawn 103 = .ok (.getfield 143, 3) := by decide +kernel
theorem dX3_doDrawn_106 : decode cX3_doDrawn 106 = .ok (.invokevirtual 158, 3) := by decide +kernel
theorem dX3_doDrawn_109 : decode cX3_doDrawn 109 = .ok (.invokevirtual 165, 3) := by decide +kernel
theorem dX3_doDrawn_112 : decode cX3_doDrawn 112 = .ok (.pop, 1) := by decide +kernel
theorem dX3_doDrawn_113 : decode cX3_doDrawn 113 = .ok (.return_, 1) := by decide +kernel
theorem dX3_doDrawn_114 : decode cX3_doDrawn 114 = .ok (.aload_n 0, 1) := by decide +kernel
theorem dX3_doDrawn_115 : decode cX3_doDrawn 115 = .ok (.getfield 12, 3) := by decide +kernel
theorem dX3_doDrawn_118 : decode cX3_doDrawn 118 = .ok (.aload_n 0, 1) := by decide +kernel
theorem dX3_doDrawn_119 : decode cX3_doDrawn 119 = .ok (.getfield 12, 3) := by decide +kernel
theorem dX3_doDrawn_122 : decode cX3_doDrawn 122 = .ok (.getfield 103, 3) := by decide +kernel
theorem dX3_doDrawn_125 : decode cX3_doDrawn 125 = .ok (.iconst 1, 1) := by decide +kernel
theorem dX3_doDrawn_126 : decode cX3_doDrawn 126 = .ok (.iadd, 1) := by decide +kernel
theorem dX3_doDrawn_127 : decode cX3_doDrawn 127 = .ok (.iconst 4, 1) := by decide +kernel
theorem dX3_doDrawn_128 : decode cX3_doDrawn 128 = .ok (.irem, 1) := by decide +kernel
theorem dX3_doDrawn_129 : decode cX3_doDrawn 129 = .ok (.invokevirtual 168, 3) := by decide +kernel
theorem dX3_doDrawn_132 : decode cX3_doDrawn 132 = .ok (.pop, 1) := by decide +kernel
theorem dX3_doDrawn_133 : decode cX3_doDrawn 133 = .ok (.return_, 1) := by decide +kernel
theorem dX3_turn_0 : decode cX3_turn 0 = .ok (.aload_n 0, 1) := by decide +kernel
theorem dX3_turn_1 : decode cX3_turn 1 = .ok (.getfield 12, 3) := by decide +kernel
theorem dX3_turn_4 : decode cX3_turn 4 = .ok (.aload_n 0, 1) := by decide +kernel
theorem dX3_turn_5 : decode cX3_turn 5 = .ok (.getfield 32, 3) := by decide +kernel
theorem dX3_turn_8 : decode cX3_turn 8 = .ok (.iload_n 1, 1) := by decide +kernel
theorem dX3_turn_9 : decode cX3_turn 9 = .ok (.invokevirtual 171, 3) := by decide +kernel
theorem dX3_turn_12 : decode cX3_turn 12 = .ok (.ifCond .ge 16, 3) := by decide +kernel
theorem dX3_turn_15 : decode cX3_turn 15 = .ok (.aload_n 0, 1) := by decide +kernel
theorem dX3_turn_16 : decode cX3_turn 16 = .ok (.getfield 12, 3) := by decide +kernel
theorem dX3_turn_19 : decode cX3_turn 19 = .ok (.aload_n 0, 1) := by decide +kernel
theorem dX3_turn_20 : decode cX3_turn 20 = .ok (.getfield 32, 3) := by decide +kernel
theorem dX3_turn_23 : decode cX3_turn 23 = .ok (.iload_n 1, 1) := by decide +kernel
theorem dX3_turn_24 : decode cX3_turn 24 = .ok (.invokevirtual 175, 3) := by decide +kernel
theorem dX3_turn_27 : decode cX3_turn 27 = .ok (.pop, 1) := by decide +kernel
theorem dX3_turn_28 : decode cX3_turn 28 = .ok (.return_, 1) := by decide +kernel
theorem dX3_draw_0 : decode cX3_draw 0 = .ok (.aload_n 0, 1) := by decide +kernel
theorem dX3_draw_1 : decode cX3_draw 1 = .ok (.aload_n 0, 1) := by decide +kernel
theorem dX3_draw_2 : decode cX3_draw 2 = .ok (.getfield 151, 3) := by decide +kernel
theorem dX3_draw_5 : decode cX3_draw 5 = .ok (.ldc 178, 2) := by decide +kernel
theorem dX3_draw_7 : decode cX3_draw 7 = .ok (.imul, 1) := by decide +kernel
theorem dX3_draw_8 : decode cX3_draw 8 = .ok (.sipush 12345, 3) := by decide +kernel
theorem dX3_draw_11 : decode cX3_draw 11 = .ok (.iadd, 1) := by decide +kernel
theorem dX3_draw_12 : decode cX3_draw 12 = .ok (.putfield 151, 3) := by decide +kernel
theorem dX3_draw_15 : decode cX3_draw 15 = .ok (.iload_n 1, 1) := by decide +kernel
theorem dX3_draw_16 : decode cX3_draw 16 = .ok (.ifCond .le 15, 3) := by decide +kernel
theorem dX3_draw_19 : decode cX3_draw 19 = .ok (.aload_n 0, 1) := by decide +kernel
theorem dX3_draw_20 : decode cX3_draw 20 = .ok (.getfield 151, 3) := by decide +kernel
theorem dX3_draw_23 : decode cX3_draw 23 = .ok (.bipush 16, 2) := by decide +kernel
theorem dX3_draw_25 : decode cX3_draw 25 = .ok (.iushr, 1) := by decide +kernel
theorem dX3_draw_26 : decode cX3_draw 26 = .ok (.iload_n 1, 1) := by decide +kernel
theorem dX3_draw_27 : decode cX3_draw 27 = .ok (.irem, 1) := by decide +kernel
theorem dX3_draw_28 : decode cX3_draw 28 = .ok (.goto 4, 3) := by decide +kernel
theorem dX3_draw_31 : decode cX3_draw 31 = .ok (.iconst 0, 1) := by decide +kernel
theorem dX3_draw_32 : decode cX3_draw 32 = .ok (.ireturn, 1) := by decide +kernel
theorem dX4_init_0 : decode cX4_init 0 = .ok (.aload_n 0, 1) := by decide +kernel
theorem dX4_init_1 : decode cX4_init 1 = .ok (.invokespecial 3, 3) := by decide +kernel
theorem dX4_init_4 : decode cX4_init 4 = .ok (.aload_n 0, 1) := by decide +kernel
theorem dX4_init_5 : decode cX4_init 5 = .ok (.bipush 8, 2) := by decide +kernel
theorem dX4_init_7 : decode cX4_init 7 = .ok (.newarray .long, 2) := by decide +kernel
theorem dX4_init_9 : decode cX4_init 9 = .ok (.putfield 9, 3) := by decide +kernel
theorem dX4_init_12 : decode cX4_init 12 = .ok (.return_, 1) := by decide +kernel
theorem dX4_clear_0 : decode cX4_clear 0 = .ok (.aload_n 0, 1) := by decide +kernel
theorem dX4_clear_1 : decode cX4_clear 1 = .ok (.iconst 0, 1) := by decide +kernel
theorem dX4_clear_2 : decode cX4_clear 2 = .ok (.putfield 15, 3) := by decide +kernel
theorem dX4_clear_5 : decode cX4_clear 5 = .ok (.return_, 1) := by decide +kernel
theorem dX4_add_0 : decode cX4_add 0 = .ok (.aload_n 0, 1) := by decide +kernel
theorem dX4_add_1 : decode cX4_add 1 = .ok (.getfield 15, 3) := by decide +kernel
theorem dX4_add_4 : decode cX4_add 4 = .ok (.aload_n 0, 1) := by decide +kernel
theorem dX4_add_5 : decode cX4_add 5 = .ok (.getfield 9, 3) := by decide +kernel
theorem dX4_add_8 : decode cX4_add 8 = .ok (.arraylength, 1) := by decide +kernel
theorem dX4_add_9 : decode cX4_add 9 = .ok (.if_icmp .ge 23, 3) := by decide +kernel
theorem dX4_add_12 : decode cX4_add 12 = .ok (.aload_n 0, 1) := by decide +kernel
theorem dX4_add_13 : decode cX4_add 13 = .ok (.getfield 9, 3) := by decide +kernel
theorem dX4_add_16 : decode cX4_add 16 = .ok (.aload_n 0, 1) := by decide +kernel
theorem dX4_add_17 : decode cX4_add 17 = .ok (.getfield 15, 3) := by decide +kernel
theorem dX4_add_20 : decode cX4_add 20 = .ok (.lload_n 1, 1) := by decide +kernel
theorem dX4_add_21 : decode cX4_add 21 = .ok (.lastore, 1) := by decide +kernel
theorem dX4_add_22 : decode cX4_add 22 = .ok (.aload_n 0, 1) := by decide +kernel
theorem dX4_add_23 : decode cX4_add 23 = .ok (.dup, 1) := by decide +kernel
theorem dX4_add_24 : decode cX4_add 24 = .ok (.getfield 15, 3) := by decide +kernel
theorem dX4_add_27 : decode cX4_add 27 = .ok (.iconst 1, 1) := by decide +kernel
theorem dX4_add_28 : decode cX4_add 28 = .ok (.iadd, 1) := by decide +kernel
theorem dX4_add_29 : decode cX4_add 29 = .ok (.putfield 15, 3) := by decide +kernel
theorem dX4_add_32 : decode cX4_add 32 = .ok (.return_, 1) := by decide +kernel
theorem dX4_tell_0 : decode cX4_tell 0 = .ok (.aload_n 0, 1) := by decide +kernel
theorem dX4_tell_1 : decode cX4_tell 1 = .ok (.invokevirtual 19, 3) := by decide +kernel
theorem dX4_tell_4 : decode cX4_tell 4 = .ok (.aload_n 0, 1) := by decide +kernel
theorem dX4_tell_5 : decode cX4_tell 5 = .ok (.lload_n 1, 1) := by decide +kernel
theorem dX4_tell_6 : decode cX4_tell 6 = .ok (.invokevirtual 22, 3) := by decide +kernel
theorem dX4_tell_9 : decode cX4_tell 9 = .ok (.return_, 1) := by decide +kernel
theorem dX4_tell__0 : decode cX4_tell_ 0 = .ok (.aload_n 0, 1) := by decide +kernel
theorem dX4_tell__1 : decode cX4_tell_ 1 = .ok (.lload_n 1, 1) := by decide +kernel
theorem dX4_tell__2 : decode cX4_tell_ 2 = .ok (.invokevirtual 26, 3) := by decide +kernel
theorem dX4_tell__5 : decode cX4_tell_ 5 = .ok (.aload_n 0, 1) := by decide +kernel
theorem dX4_tell__6 : decode cX4_tell_ 6 = .ok (.lload_n 3, 1) := by decide +kernel
theorem dX4_tell__7 : decode cX4_tell_ 7 = .ok (.invokevirtual 22, 3) := by decide +kernel
theorem dX4_tell__10 : decode cX4_tell_ 10 = .ok (.return_, 1) := by decide +kernel
theorem dX4_addMembers_0 : decode cX4_addMembers 0 = .ok (.iconst 0, 1) := by decide +kernel
theorem dX4_addMembers_1 : decode cX4_addMembers 1 = .ok (.istore_n 2, 1) := by decide +kernel
theorem dX4_addMembers_2 : decode cX4_addMembers 2 = .ok (.iload_n 2, 1) := by decide +kernel
theorem dX4_addMembers_3 : decode cX4_addMembers 3 = .ok (.bipush 8, 2) := by decide +kernel
theorem dX4_addMembers_5 : decode cX4_addMembers 5 = .ok (.if_icmp .ge 23, 3) := by decide +kernel
theorem dX4_addMembers_8 : decode cX4_addMembers 8 = .ok (.iload_n 1, 1) := by decide +kernel
theorem dX4_addMembers_9 : decode cX4_addMembers 9 = .ok (.iload_n 2, 1) := by decide +kernel
theorem dX4_addMembers_10 : decode cX4_addMembers 10 = .ok (.ishr, 1) := by decide +kernel
theorem dX4_addMembers_11 : decode cX4_addMembers 11 = .ok (.iconst 1, 1) := by decide +kernel
theorem dX4_addMembers_12 : decode cX4_addMembers 12 = .ok (.iand, 1) := by decide +kernel
theorem dX4_addMembers_13 : decode cX4_addMembers 13 = .ok (.ifCond .eq 9, 3) := by decide +kernel
theorem dX4_addMembers_16 : decode cX4_addMembers 16 = .ok (.aload_n 0, 1) := by decide +kernel
theorem dX4_addMembers_17 : decode cX4_addMembers 17 = .ok (.iload_n 2, 1) := by decide +kernel
theorem dX4_addMembers_18 : decode cX4_addMembers 18 = .ok (.i2l, 1) := by decide +kernel
theorem dX4_addMembers_19 : decode cX4_addMembers 19 = .ok (.invokevirtual 22, 3) := by decide +kernel
theorem dX4_addMembers_22 : decode cX4_addMembers 22 = .ok (.iinc 2 1, 3) := by decide +kernel
theorem dX4_addMembers_25 : decode cX4_addMembers 25 = .ok (.goto (-23), 3) := by decide +kernel
theorem dX4_addMembers_28 : decode cX4_addMembers 28 = .ok (.return_, 1) := by decide +kernel
theorem dX4_size_0 : decode cX4_size 0 = .ok (.aload_n 0, 1) := by decide +kernel
theorem dX4_size_1 : decode cX4_size 1 = .ok (.getfield 15, 3) := by decide +kernel
theorem dX4_size_4 : decode cX4_size 4 = .ok (.ireturn, 1) := by decide +kernel
theorem dX4_at_0 : decode cX4_at 0 = .ok (.iload_n 1, 1) := by decide +kernel
theorem dX4_at_1 : decode cX4_at 1 = .ok (.ifCond .lt 20, 3) := by decide +kernel
theorem dX4_at_4 : decode cX4_at 4 = .ok (.iload_n 1, 1) := by decide +kernel
theorem dX4_at_5 : decode cX4_at 5 = .ok (.aload_n 0, 1) := by decide +kernel
theorem dX4_at_6 : decode cX4_at 6 = .ok (.getfield 15, 3) := by decide +kernel
theorem dX4_at_9 : decode cX4_at 9 = .ok (.if_icmp .ge 12, 3) := by decide +kernel
theorem dX4_at_12 : decode cX4_at 12 = .ok (.aload_n 0, 1) := by decide +kernel
theorem dX4_at_13 : decode cX4_at 13 = .ok (.getfield 9, 3) := by decide +kernel
theorem dX4_at_16 : decode cX4_at 16 = .ok (.iload_n 1, 1) := by decide +kernel
theorem dX4_at_17 : decode cX4_at 17 = .ok (.laload, 1) := by decide +kernel
theorem dX4_at_18 : decode cX4_at 18 = .ok (.goto 6, 3) := by decide +kernel
theorem dX4_at_21 : decode cX4_at 21 = .ok (.ldc2_w 29, 3) := by decide +kernel
theorem dX4_at_24 : decode cX4_at 24 = .ok (.lreturn, 1) := by decide +kernel
theorem dX5_init_0 : decode cX5_init 0 = .ok (.aload_n 0, 1) := by decide +kernel
theorem dX5_init_1 : decode cX5_init 1 = .ok (.invokespecial 5, 3) := by decide +kernel
theorem dX5_init_4 : decode cX5_init 4 = .ok (.aload_n 0, 1) := by decide +kernel
theorem dX5_init_5 : decode cX5_init 5 = .ok (.bipush 40, 2) := by decide +kernel
theorem dX5_init_7 : decode cX5_init 7 = .ok (.newarray .int, 2) := by decide +kernel
theorem dX5_init_9 : decode cX5_init 9 = .ok (.putfield 11, 3) := by decide +kernel
theorem dX5_init_12 : decode cX5_init 12 = .ok (.aload_n 0, 1) := by decide +kernel
theorem dX5_init_13 : decode cX5_init 13 = .ok (.bipush 40, 2) := by decide +kernel
theorem dX5_init_15 : decode cX5_init 15 = .ok (.newarray .int, 2) := by decide +kernel
theorem dX5_init_17 : decode cX5_init 17 = .ok (.putfield 15, 3) := by decide +kernel
theorem dX5_init_20 : decode cX5_init 20 = .ok (.aload_n 0, 1) := by decide +kernel
theorem dX5_init_21 : decode cX5_init 21 = .ok (.bipush 7, 2) := by decide +kernel
theorem dX5_init_23 : decode cX5_init 23 = .ok (.newarray .int, 2) := by decide +kernel
theorem dX5_init_25 : decode cX5_init 25 = .ok (.putfield 18, 3) := by decide +kernel
theorem dX5_init_28 : decode cX5_init 28 = .ok (.return_, 1) := by decide +kernel
theorem dX5_tell_0 : decode cX5_tell 0 = .ok (.aload_n 0, 1) := by decide +kernel
theorem dX5_tell_1 : decode cX5_tell 1 = .ok (.getfield 21, 3) := by decide +kernel
theorem dX5_tell_4 : decode cX5_tell 4 = .ok (.ifCond .ne 20, 3) := by decide +kernel
theorem dX5_tell_7 : decode cX5_tell 7 = .ok (.iload_n 1, 1) := by decide +kernel
theorem dX5_tell_8 : decode cX5_tell 8 = .ok (.iload_n 2, 1) := by decide +kernel
theorem dX5_tell_9 : decode cX5_tell 9 = .ok (.iconst 3, 1) := by decide +kernel
theorem dX5_tell_10 : decode cX5_tell 10 = .ok (.idiv, 1) := by decide +kernel
theorem dX5_tell_11 : decode cX5_tell 11 = .ok (.isub, 1) := by decide +kernel
theorem dX5_tell_12 : decode cX5_tell 12 = .ok (.iload 4, 2) := by decide +kernel
theorem dX5_tell_14 : decode cX5_tell 14 = .ok (.iload_n 3, 1) := by decide +kernel
theorem dX5_tell_15 : decode cX5_tell 15 = .ok (.isub, 1) := by decide +kernel
theorem dX5_tell_16 : decode cX5_tell 16 = .ok (.isub, 1) := by decide +kernel
theorem dX5_tell_17 : decode cX5_tell 17 = .ok (.iconst 0, 1) := by decide +kernel
theorem dX5_tell_18 : decode cX5_tell 18 = .ok (.bipush 99, 2) := by decide +kernel
theorem dX5_tell_20 : decode cX5_tell 20 = .ok (.invokestatic 25, 3) := by decide +kernel
theorem dX5_tell_23 : decode cX5_tell 23 = .ok (.ireturn, 1) := by decide +kernel
theorem dX5_tell_24 : decode cX5_tell 24 = .ok (.aload_n 0, 1) := by decide +kernel
theorem dX5_tell_25 : decode cX5_tell 25 = .ok (.getfield 18, 3) := by decide +kernel
theorem dX5_tell_28 : decode cX5_tell 28 = .ok (.iconst 0, 1) := by decide +kernel
theorem dX5_tell_29 : decode cX5_tell 29 = .ok (.iload_n 1, 1) := by decide +kernel
theorem dX5_tell_30 : decode cX5_tell 30 = .ok (.iastore, 1) := by decide +kernel
theorem dX5_tell_31 : decode cX5_tell 31 = .ok (.aload_n 0, 1) := by decide +kernel
theorem dX5_tell_32 : decode cX5_tell 32 = .ok (.getfield 18, 3) := by decide +kernel
theorem dX5_tell_35 : decode cX5_tell 35 = .ok (.iconst 1, 1) := by decide +kernel
theorem dX5_tell_36 : decode cX5_tell 36 = .ok (.iload_n 2, 1) := by decide +kernel
theorem dX5_tell_37 : decode cX5_tell 37 = .ok (.iastore, 1) := by decide +kernel
theorem dX5_tell_38 : decode cX5_tell 38 = .ok (.aload_n 0, 1) := by decide +kernel
theorem dX5_tell_39 : decode cX5_tell 39 = .ok (.getfield 18, 3) := by decide +kernel
theorem dX5_tell_42 : decode cX5_tell 42 = .ok (.iconst 2, 1) := by decide +kernel
theorem dX5_tell_43 : decode cX5_tell 43 = .ok (.iload_n 3, 1) := by decide +kernel
theorem dX5_tell_44 : decode cX5_tell 44 = .ok (.iastore, 1) := by decide +kernel
theorem dX5_tell_45 : decode cX5_tell 45 = .ok (.aload_n 0, 1) := by decide +kernel
theorem dX5_tell_46 : decode cX5_tell 46 = .ok (.getfield 18, 3) := by decide +kernel
theorem dX5_tell_49 : decode cX5_tell 49 = .ok (.iconst 3, 1) := by decide +kernel
theorem dX5_tell_50 : decode cX5_tell 50 = .ok (.iload 4, 2) := by decide +kernel
theorem dX5_tell_52 : decode cX5_tell 52 = .ok (.iastore, 1) := by decide +kernel
theorem dX5_tell_53 : decode cX5_tell 53 = .ok (.aload_n 0, 1) := by decide +kernel
theorem dX5_tell_54 : decode cX5_tell 54 = .ok (.getfield 18, 3) := by decide +kernel
theorem dX5_tell_57 : decode cX5_tell 57 = .ok (.iconst 4, 1) := by decide +kernel
theorem dX5_tell_58 : decode cX5_tell 58 = .ok (.iload 5, 2) := by decide +kernel
theorem dX5_tell_60 : decode cX5_tell 60 = .ok (.iastore, 1) := by decide +kernel
theorem dX5_tell_61 : decode cX5_tell 61 = .ok (.aload_n 0, 1) := by decide +kernel
theorem dX5_tell_62 : decode cX5_tell 62 = .ok (.getfield 18, 3) := by decide +kernel
theorem dX5_tell_65 : decode cX5_tell 65 = .ok (.iconst 5, 1) := by decide +kernel
theorem dX5_tell_66 : decode cX5_tell 66 = .ok (.iload 6, 2) := by decide +kernel
theorem dX5_tell_68 : decode cX5_tell 68 = .ok (.iastore, 1) := by decide +kernel
theorem dX5_tell_69 : decode cX5_tell 69 = .ok (.aload_n 0, 1) := by decide +kernel
theorem dX5_tell_70 : decode cX5_tell 70 = .ok (.getfield 18, 3) := by decide +kernel
theorem dX5_tell_73 : decode cX5_tell 73 = .ok (.bipush 6, 2) := by decide +kernel
theorem dX5_tell_75 : decode cX5_tell 75 = .ok (.iload 7, 2) := by decide +kernel
theorem dX5_tell_77 : decode cX5_tell 77 = .ok (.iastore, 1) := by decide +kernel
theorem dX5_tell_78 : decode cX5_tell 78 = .ok (.aload_n 0, 1) := by decide +kernel
theorem dX5_tell_79 : decode cX5_tell 79 = .ok (.invokevirtual 29, 3) := by decide +kernel
theorem dX5_tell_82 : decode cX5_tell 82 = .ok (.iconst 0, 1) := by decide +kernel
theorem dX5_tell_83 : decode cX5_tell 83 = .ok (.bipush 99, 2) := by decide +kernel
theorem dX5_tell_85 : decode cX5_tell 85 = .ok (.invokestatic 25, 3) := by decide +kernel
theorem dX5_tell_88 : decode cX5_tell 88 = .ok (.ireturn, 1) := by decide +kernel
theorem dX5_compute_0 : decode cX5_compute 0 = .ok (.iconst 0, 1) := by decide +kernel
theorem dX5_compute_1 : decode cX5_compute 1 = .ok (.istore_n 1, 1) := by decide +kernel
theorem dX5_compute_2 : decode cX5_compute 2 = .ok (.iconst 0, 1) := by decide +kernel
theorem dX5_compute_3 : decode cX5_compute 3 = .ok (.istore_n 2, 1) := by decide +kernel
theorem dX5_compute_4 : decode cX5_compute 4 = .ok (.iload_n 2, 1) := by decide +kernel
theorem dX5_compute_5 : decode cX5_compute 5 = .ok (.aload_n 0, 1) := by decide +kernel
theorem dX5_compute_6 : decode cX5_compute 6 = .ok (.getfield 21, 3) := by decide +kernel
theorem dX5_compute_9 : decode cX5_compute 9 = .ok (.if_icmp .ge 133, 3) := by decide +kernel
theorem dX5_compute_12 : decode cX5_compute 12 = .ok (.aload_n 0, 1) := by decide +kernel
theorem dX5_compute_13 : decode cX5_compute 13 = .ok (.getfield 11, 3) := by decide +kernel
theorem dX5_compute_16 : decode cX5_compute 16 = .ok (.iload_n 2, 1) := by decide +kernel
theorem dX5_compute_17 : decode cX5_compute 17 = .ok (.iaload, 1) := by decide +kernel
theorem dX5_compute_18 : decode cX5_compute 18 = .ok (.istore_n 3, 1) := by decide +kernel
theorem dX5_compute_19 : decode cX5_compute 19 = .ok (.iload_n 3, 1) := by decide +kernel
theorem dX5_compute_20 : decode cX5_compute 20 = .ok (.sipush 2000, 3) := by decide +kernel
theorem dX5_compute_23 : decode cX5_compute 23 = .ok (.if_icmp .ne 27, 3) := by decide +kernel
theorem dX5_compute_26 : decode cX5_compute 26 = .ok (.iload_n 1, 1) := by decide +kernel
theorem dX5_compute_27 : decode cX5_compute 27 = .ok (.ifCond .le 109, 3) := by decide +kernel
theorem dX5_compute_30 : decode cX5_compute 30 = .ok (.aload_n 0, 1) := by decide +kernel
theorem dX5_compute_31 : decode cX5_compute 31 = .ok (.getfield 15, 3) := by decide +kernel
theorem dX5_compute_34 : decode cX5_compute 34 = .ok (.iload_n 1, 1) := by decide +kernel
theorem dX5_compute_35 : decode cX5_compute 35 = .ok (.iconst 1, 1) := by decide +kernel
theorem dX5_compute_36 : decode cX5_compute 36 = .ok (.isub, 1) := by decide +kernel
theorem dX5_compute_37 : decode cX5_compute 37 = .ok (.aload_n 0, 1) := by decide +kernel
theorem dX5_compute_38 : decode cX5_compute 38 = .ok (.getfield 15, 3) := by decide +kernel
theorem dX5_compute_41 : decode cX5_compute 41 = .ok (.iload_n 1, 1) := by decide +kernel
theorem dX5_compute_42 : decode cX5_compute 42 = .ok (.iconst 1, 1) := by decide +kernel
theorem dX5_compute_43 : decode cX5_compute 43 = .ok (.isub, 1) := by decide +kernel
theorem dX5_compute_44 : decode cX5_compute 44 = .ok (.iaload, 1) := by decide +kernel
theorem dX5_compute_45 : decode cX5_compute 45 = .ok (.ineg, 1) := by decide +kernel
theorem dX5_compute_46 : decode cX5_compute 46 = .ok (.iastore, 1) := by decide +kernel
theorem dX5_compute_47 : decode cX5_compute 47 = .ok (.goto 89, 3) := by decide +kernel
theorem dX5_compute_50 : decode cX5_compute 50 = .ok (.iload_n 3, 1) := by decide +kernel
theorem dX5_compute_51 : decode cX5_compute 51 = .ok (.sipush 2000, 3) := by decide +kernel
theorem dX5_compute_54 : decode cX5_compute 54 = .ok (.if_icmp .le 44, 3) := by decide +kernel
theorem dX5_compute_57 : decode cX5_compute 57 = .ok (.iload_n 1, 1) := by decide +kernel
theorem dX5_compute_58 : decode cX5_compute 58 = .ok (.iconst 1, 1) := by decide +kernel
theorem dX5_compute_59 : decode cX5_compute 59 = .ok (.if_icmp .le 77, 3) := by decide +kernel
theorem dX5_compute_62 : decode cX5_compute 62 = .ok (.iinc 1 (-1), 3) := by decide +kernel
theorem dX5_compute_65 : decode cX5_compute 65 = .ok (.aload_n 0, 1) := by decide +kernel
theorem dX5_compute_66 : decode cX5_compute 66 = .ok (.getfield 15, 3) := by decide +kernel
theorem dX5_compute_69 : decode cX5_compute 69 = .ok (.iload_n 1, 1) := by decide +kernel
theorem dX5_compute_70 : decode cX5_compute 70 = .ok (.iconst 1, 1) := by decide +kernel
theorem dX5_compute_71 : decode cX5_compute 71 = .ok (.isub, 1) := by decide +kernel
theorem dX5_compute_72 : decode cX5_compute 72 = .ok (.iload_n 3, 1) := by decide +kernel
theorem dX5_compute_73 : decode cX5_compute 73 = .ok (.sipush 2000, 3) := by decide +kernel
theorem dX5_compute_76 : decode cX5_compute 76 = .ok (.isub, 1) := by decide +kernel
theorem dX5_compute_77 : decode cX5_compute 77 = .ok (.aload_n 0, 1) := by decide +kernel
theorem dX5_compute_78 : decode cX5_compute 78 = .ok (.getfield 15, 3) := by decide +kernel
theorem dX5_compute_81 : decode cX5_compute 81 = .ok (.iload_n 1, 1) := by decide +kernel
theorem dX5_compute_82 : decode cX5_compute 82 = .ok (.iconst 1, 1) := by decide +kernel
theorem dX5_compute_83 : decode cX5_compute 83 = .ok (.isub, 1) := by decide +kernel
theorem dX5_compute_84 : decode cX5_compute 84 = .ok (.iaload, 1) := by decide +kernel
theorem dX5_compute_85 : decode cX5_compute 85 = .ok (.aload_n 0, 1) := by decide +kernel
theorem dX5_compute_86 : decode cX5_compute 86 = .ok (.getfield 15, 3) := by decide +kernel
theorem dX5_compute_89 : decode cX5_compute 89 = .ok (.iload_n 1, 1) := by decide +kernel
theorem dX5_compute_90 : decode cX5_compute 90 = .ok (.iaload, 1) := by decide +kernel
theorem dX5_compute_91 : decode cX5_compute 91 = .ok (.invokestatic 33, 3) := by decide +kernel
theorem dX5_compute_94 : decode cX5_compute 94 = .ok (.iastore, 1) := by decide +kernel
theorem dX5_compute_95 : decode cX5_compute 95 = .ok (.goto 41, 3) := by decide +kernel
theorem dX5_compute_98 : decode cX5_compute 98 = .ok (.iload_n 1, 1) := by decide +kernel
theorem dX5_compute_99 : decode cX5_compute 99 = .ok (.aload_n 0, 1) := by decide +kernel
theorem dX5_compute_100 : decode cX5_compute 100 = .ok (.getfield 15, 3) := by decide +kernel
theorem dX5_compute_103 : decode cX5_compute 103 = .ok (.arraylength, 1) := by decide +kernel
theorem dX5_compute_104 : decode cX5_compute 104 = .ok (.if_icmp .ge 32, 3) := by decide +kernel
theorem dX5_compute_107 : decode cX5_compute 107 = .ok (.aload_n 0, 1) := by decide +kernel
theorem dX5_compute_108 : decode cX5_compute 108 = .ok (.getfield 15, 3) := by decide +kernel
theorem dX5_compute_111 : decode cX5_compute 111 = .ok (.iload_n 1, 1) := by decide +kernel
theorem dX5_compute_112 : decode cX5_compute 112 = .ok (.iload_n 3, 1) := by decide +kernel
theorem dX5_compute_113 : decode cX5_compute 113 = .ok (.sipush 1000, 3) := by decide +kernel
theorem dX5_compute_116 : decode cX5_compute 116 = .ok (.if_icmp .ge 7, 3) := by decide +kernel
theorem dX5_compute_119 : decode cX5_compute 119 = .ok (.iload_n 3, 1) := by decide +kernel
theorem dX5_compute_120 : decode cX5_compute 120 = .ok (.goto 12, 3) := by decide +kernel
theorem dX5_compute_123 : decode cX5_compute 123 = .ok (.aload_n 0, 1) := by decide +kernel
theorem dX5_compute_124 : decode cX5_compute 124 = .ok (.iload_n 3, 1) := by decide +kernel
theorem dX5_compute_125 : decode cX5_compute 125 = .ok (.sipush 1000, 3) := by decide +kernel
theorem dX5_compute_128 : decode cX5_compute 128 = .ok (.isub, 1) := by decide +kernel
theorem dX5_compute_129 : decode cX5_compute 129 = .ok (.invokevirtual 36, 3) := by decide +kernel
theorem dX5_compute_132 : decode cX5_compute 132 = .ok (.iastore, 1) := by decide +kernel
theorem dX5_compute_133 : decode cX5_compute 133 = .ok (.iinc 1 1, 3) := by decide +kernel
theorem dX5_compute_136 : decode cX5_compute 136 = .ok (.iinc 2 1, 3) := by decide +kernel
theorem dX5_compute_139 : decode cX5_compute 139 = .ok (.goto (-135), 3) := by decide +kernel
theorem dX5_compute_142 : decode cX5_compute 142 = .ok (.aload_n 0, 1) := by decide +kernel
theorem dX5_compute_143 : decode cX5_compute 143 = .ok (.getfield 15, 3) := by decide +kernel
theorem dX5_compute_146 : decode cX5_compute 146 = .ok (.iconst 0, 1) := by decide +kernel
theorem dX5_compute_147 : decode cX5_compute 147 = .ok (.iaload, 1) := by decide +kernel
theorem dX5_compute_148 : decode cX5_compute 148 = .ok (.ireturn, 1) := by decide +kernel
theorem dX5_valueOf_0 : decode cX5_valueOf 0 = .ok (.iload_n 1, 1) := by decide +kernel
theorem dX5_valueOf_1 : decode cX5_valueOf 1 = .ok (.ifCond .lt 21, 3) := by decide +kernel
theorem dX5_valueOf_4 : decode cX5_valueOf 4 = .ok (.iload_n 1, 1) := by decide +kernel
theorem dX5_valueOf_5 : decode cX5_valueOf 5 = .ok (.aload_n 0, 1) := by decide +kernel
theorem dX5_valueOf_6 : decode cX5_valueOf 6 = .ok (.getfield 18, 3) := by decide +kernel
theorem dX5_valueOf_9 : decode cX5_valueOf 9 = .ok (.arraylength, 1) := by decide +kernel
theorem dX5_valueOf_10 : decode cX5_valueOf 10 = .ok (.if_icmp .ge 12, 3) := by decide +kernel
theorem dX5_valueOf_13 : decode cX5_valueOf 13 = .ok (.aload_n 0, 1) := by decide +kernel
theorem dX5_valueOf_14 : decode cX5_valueOf 14 = .ok (.getfield 18, 3) := by decide +kernel
theorem dX5_valueOf_17 : decode cX5_valueOf 17 = .ok (.iload_n 1, 1) := by decide +kernel
theorem dX5_valueOf_18 : decode cX5_valueOf 18 = .ok (.iaload, 1) := by decide +kernel
theorem dX5_valueOf_19 : decode cX5_valueOf 19 = .ok (.goto 4, 3) := by decide +kernel
theorem dX5_valueOf_22 : decode cX5_valueOf 22 = .ok (.iconst 0, 1) := by decide +kernel
theorem dX5_valueOf_23 : decode cX5_valueOf 23 = .ok (.ireturn, 1) := by decide +kernel
theorem dX5_joined_0 : decode cX5_joined 0 = .ok (.iload_n 0, 1) := by decide +kernel
theorem dX5_joined_1 : decode cX5_joined 1 = .ok (.lookupswitch 104 #[(42, 100), (43, 92), (45, 96), (60, 59), (61, 81), (62, 70)], 59) := by decide +kernel
theorem dX5_joined_60 : decode cX5_joined 60 = .ok (.iload_n 1, 1) := by decide +kernel
theorem dX5_joined_61 : decode cX5_joined 61 = .ok (.iload_n 2, 1) := by decide +kernel
theorem dX5_joined_62 : decode cX5_joined 62 = .ok (.if_icmp .ge 7, 3) := by decide +kernel
theorem dX5_joined_65 : decode cX5_joined 65 = .ok (.iconst 1, 1) := by decide +kernel
theorem dX5_joined_66 : decode cX5_joined 66 = .ok (.goto 4, 3) := by decide +kernel
theorem dX5_joined_69 : decode cX5_joined 69 = .ok (.iconst 0, 1) := by decide +kernel
theorem dX5_joined_70 : decode cX5_joined 70 = .ok (.ireturn, 1) := by decide +kernel
theorem dX5_joined_71 : decode cX5_joined 71 = .ok (.iload_n 1, 1) := by decide +kernel
theorem dX5_joined_72 : decode cX5_joined 72 = .ok (.iload_n 2, 1) := by decide +kernel
theorem dX5_joined_73 : decode cX5_joined 73 = .ok (.if_icmp .le 7, 3) := by decide +kernel
theorem dX5_joined_76 : decode cX5_joined 76 = .ok (.iconst 1, 1) := by decide +kernel
theorem dX5_joined_77 : decode cX5_joined 77 = .ok (.goto 4, 3) := by decide +kernel
theorem dX5_joined_80 : decode cX5_joined 80 = .ok (.iconst 0, 1) := by decide +kernel
theorem dX5_joined_81 : decode cX5_joined 81 = .ok (.ireturn, 1) := by decide +kernel
theorem dX5_joined_82 : decode cX5_joined 82 = .ok (.iload_n 1, 1) := by decide +kernel
theorem dX5_joined_83 : decode cX5_joined 83 = .ok (.iload_n 2, 1) := by decide +kernel
theorem dX5_joined_84 : decode cX5_joined 84 = .ok (.if_icmp .ne 7, 3) := by decide +kernel
theorem dX5_joined_87 : decode cX5_joined 87 = .ok (.iconst 1, 1) := by decide +kernel
theorem dX5_joined_88 : decode cX5_joined 88 = .ok (.goto 4, 3) := by decide +kernel
theorem dX5_joined_91 : decode cX5_joined 91 = .ok (.iconst 0, 1) := by decide +kernel
theorem dX5_joined_92 : decode cX5_joined 92 = .ok (.ireturn, 1) := by decide +kernel
theorem dX5_joined_93 : decode cX5_joined 93 = .ok (.iload_n 1, 1) := by decide +kernel
theorem dX5_joined_94 : decode cX5_joined 94 = .ok (.iload_n 2, 1) := by decide +kernel
theorem dX5_joined_95 : decode cX5_joined 95 = .ok (.iadd, 1) := by decide +kernel
theorem dX5_joined_96 : decode cX5_joined 96 = .ok (.ireturn, 1) := by decide +kernel
theorem dX5_joined_97 : decode cX5_joined 97 = .ok (.iload_n 1, 1) := by decide +kernel
theorem dX5_joined_98 : decode cX5_joined 98 = .ok (.iload_n 2, 1) := by decide +kernel
theorem dX5_joined_99 : decode cX5_joined 99 = .ok (.isub, 1) := by decide +kernel
theorem dX5_joined_100 : decode cX5_joined 100 = .ok (.ireturn, 1) := by decide +kernel
theorem dX5_joined_101 : decode cX5_joined 101 = .ok (.iload_n 1, 1) := by decide +kernel
theorem dX5_joined_102 : decode cX5_joined 102 = .ok (.iload_n 2, 1) := by decide +kernel
theorem dX5_joined_103 : decode cX5_joined 103 = .ok (.imul, 1) := by decide +kernel
theorem dX5_joined_104 : decode cX5_joined 104 = .ok (.ireturn, 1) := by decide +kernel
theorem dX5_joined_105 : decode cX5_joined 105 = .ok (.iload_n 2, 1) := by decide +kernel
theorem dX5_joined_106 : decode cX5_joined 106 = .ok (.ifCond .ne 7, 3) := by decide +kernel
theorem dX5_joined_109 : decode cX5_joined 109 = .ok (.iconst 0, 1) := by decide +kernel
theorem dX5_joined_110 : decode cX5_joined 110 = .ok (.goto 6, 3) := by decide +kernel
theorem dX5_joined_113 : decode cX5_joined 113 = .ok (.iload_n 1, 1) := by decide +kernel
theorem dX5_joined_114 : decode cX5_joined 114 = .ok (.iload_n 2, 1) := by decide +kernel
theorem dX5_joined_115 : decode cX5_joined 115 = .ok (.idiv, 1) := by decide +kernel
theorem dX5_joined_116 : decode cX5_joined 116 = .ok (.ireturn, 1) := by decide +kernel
theorem dX5_read_0 : decode cX5_read 0 = .ok (.aload_n 0, 1) := by decide +kernel
theorem dX5_read_1 : decode cX5_read 1 = .ok (.iconst 0, 1) := by decide +kernel
theorem dX5_read_2 : decode cX5_read 2 = .ok (.putfield 21, 3) := by decide +kernel
theorem dX5_read_5 : decode cX5_read 5 = .ok (.aload_n 1, 1) := by decide +kernel
theorem dX5_read_6 : decode cX5_read 6 = .ok (.bipush 40, 2) := by decide +kernel
theorem dX5_read_8 : decode cX5_read 8 = .ok (.invokevirtual 40, 3) := by decide +kernel
theorem dX5_read_11 : decode cX5_read 11 = .ok (.aload_n 1, 1) := by decide +kernel
theorem dX5_read_12 : decode cX5_read 12 = .ok (.invokevirtual 46, 3) := by decide +kernel
theorem dX5_read_15 : decode cX5_read 15 = .ok (.ifCond .le 10, 3) := by decide +kernel
theorem dX5_read_18 : decode cX5_read 18 = .ok (.aload_n 0, 1) := by decide +kernel
theorem dX5_read_19 : decode cX5_read 19 = .ok (.aload_n 1, 1) := by decide +kernel
theorem dX5_read_20 : decode cX5_read 20 = .ok (.iconst 0, 1) := by decide +kernel
theorem dX5_read_21 : decode cX5_read 21 = .ok (.iconst 0, 1) := by decide +kernel
theorem dX5_read_22 : decode cX5_read 22 = .ok (.invokevirtual 48, 3) := by decide +kernel
theorem dX5_read_25 : decode cX5_read 25 = .ok (.aload_n 1, 1) := by decide +kernel
theorem dX5_read_26 : decode cX5_read 26 = .ok (.invokevirtual 52, 3) := by decide +kernel
theorem dX5_read_29 : decode cX5_read 29 = .ok (.ireturn, 1) := by decide +kernel
theorem dX5_readJoined_0 : decode cX5_readJoined 0 = .ok (.iload_n 2, 1) := by decide +kernel
theorem dX5_readJoined_1 : decode cX5_readJoined 1 = .ok (.iconst 3, 1) := by decide +kernel
theorem dX5_readJoined_2 : decode cX5_readJoined 2 = .ok (.if_icmp .lt 10, 3) := by decide +kernel
theorem dX5_readJoined_5 : decode cX5_readJoined 5 = .ok (.aload_n 0, 1) := by decide +kernel
theorem dX5_readJoined_6 : decode cX5_readJoined 6 = .ok (.aload_n 1, 1) := by decide +kernel
theorem dX5_readJoined_7 : decode cX5_readJoined 7 = .ok (.iload_n 3, 1) := by decide +kernel
theorem dX5_readJoined_8 : decode cX5_readJoined 8 = .ok (.invokevirtual 55, 3) := by decide +kernel
theorem dX5_readJoined_11 : decode cX5_readJoined 11 = .ok (.return_, 1) := by decide +kernel
theorem dX5_readJoined_12 : decode cX5_readJoined 12 = .ok (.aload_n 0, 1) := by decide +kernel
theorem dX5_readJoined_13 : decode cX5_readJoined 13 = .ok (.aload_n 1, 1) := by decide +kernel
theorem dX5_readJoined_14 : decode cX5_readJoined 14 = .ok (.iload_n 2, 1) := by decide +kernel
theorem dX5_readJoined_15 : decode cX5_readJoined 15 = .ok (.iconst 1, 1) := by decide +kernel
theorem dX5_readJoined_16 : decode cX5_readJoined 16 = .ok (.iadd, 1) := by decide +kernel
theorem dX5_readJoined_17 : decode cX5_readJoined 17 = .ok (.iload_n 3, 1) := by decide +kernel
theorem dX5_readJoined_18 : decode cX5_readJoined 18 = .ok (.invokevirtual 48, 3) := by decide +kernel
theorem dX5_readJoined_21 : decode cX5_readJoined 21 = .ok (.iload_n 2, 1) := by decide +kernel
theorem dX5_readJoined_22 : decode cX5_readJoined 22 = .ok (.ifCond .ne 7, 3) := by decide +kernel
theorem dX5_readJoined_25 : decode cX5_readJoined 25 = .ok (.iconst 1, 1) := by decide +kernel
theorem dX5_readJoined_26 : decode cX5_readJoined 26 = .ok (.goto 5, 3) := by decide +kernel
theorem dX5_readJoined_29 : decode cX5_readJoined 29 = .ok (.bipush 40, 2) := by decide +kernel
theorem dX5_readJoined_31 : decode cX5_readJoined 31 = .ok (.istore 4, 2) := by decide +kernel
theorem dX5_readJoined_33 : decode cX5_readJoined 33 = .ok (.iconst 0, 1) := by decide +kernel
theorem dX5_readJoined_34 : decode cX5_readJoined 34 = .ok (.istore 5, 2) := by decide +kernel
theorem dX5_readJoined_36 : decode cX5_readJoined 36 = .ok (.iload 5, 2) := by decide +kernel
theorem dX5_readJoined_38 : decode cX5_readJoined 38 = .ok (.iload 4, 2) := by decide +kernel
theorem dX5_readJoined_40 : decode cX5_readJoined 40 = .ok (.if_icmp .ge 49, 3) := by decide +kernel
theorem dX5_readJoined_43 : decode cX5_readJoined 43 = .ok (.aload_n 1, 1) := by decide +kernel
theorem dX5_readJoined_44 : decode cX5_readJoined 44 = .ok (.invokevirtual 59, 3) := by decide +kernel
theorem dX5_readJoined_47 : decode cX5_readJoined 47 = .ok (.invokestatic 62, 3) := by decide +kernel
theorem dX5_readJoined_50 : decode cX5_readJoined 50 = .ok (.iload_n 2, 1) := by decide +kernel
theorem dX5_readJoined_51 : decode cX5_readJoined 51 = .ok (.if_icmp .ne 38, 3) := by decide +kernel
theorem dX5_readJoined_54 : decode cX5_readJoined 54 = .ok (.aload_n 1, 1) := by decide +kernel
theorem dX5_readJoined_55 : decode cX5_readJoined 55 = .ok (.invokevirtual 59, 3) := by decide +kernel
theorem dX5_readJoined_58 : decode cX5_readJoined 58 = .ok (.istore 6, 2) := by decide +kernel
theorem dX5_readJoined_60 : decode cX5_readJoined 60 = .ok (.aload_n 1, 1) := by decide +kernel
theorem dX5_readJoined_61 : decode cX5_readJoined 61 = .ok (.invokevirtual 65, 3) := by decide +kernel
theorem dX5_readJoined_64 : decode cX5_readJoined 64 = .ok (.aload_n 0, 1) := by decide +kernel
theorem dX5_readJoined_65 : decode cX5_readJoined 65 = .ok (.aload_n 1, 1) := by decide +kernel
theorem dX5_readJoined_66 : decode cX5_readJoined 66 = .ok (.iload_n 2, 1) := by decide +kernel
theorem dX5_readJoined_67 : decode cX5_readJoined 67 = .ok (.iconst 1, 1) := by decide +kernel
theorem dX5_readJoined_68 : decode cX5_readJoined 68 = .ok (.iadd, 1) := by decide +kernel
theorem dX5_readJoined_69 : decode cX5_readJoined 69 = .ok (.iload_n 3, 1) := by decide +kernel
theorem dX5_readJoined_70 : decode cX5_readJoined 70 = .ok (.invokevirtual 48, 3) := by decide +kernel
theorem dX5_readJoined_73 : decode cX5_readJoined 73 = .ok (.aload_n 0, 1) := by decide +kernel
theorem dX5_readJoined_74 : decode cX5_readJoined 74 = .ok (.sipush 2000, 3) := by decide +kernel
theorem dX5_readJoined_77 : decode cX5_readJoined 77 = .ok (.iload 6, 2) := by decide +kernel
theorem dX5_readJoined_79 : decode cX5_readJoined 79 = .ok (.iadd, 1) := by decide +kernel
theorem dX5_readJoined_80 : decode cX5_readJoined 80 = .ok (.invokevirtual 68, 3) := by decide +kernel
theorem dX5_readJoined_83 : decode cX5_readJoined 83 = .ok (.iinc 5 1, 3) := by decide +kernel
theorem dX5_readJoined_86 : decode cX5_readJoined 86 = .ok (.goto (-50), 3) := by decide +kernel
theorem dX5_readJoined_89 : decode cX5_readJoined 89 = .ok (.return_, 1) := by decide +kernel
theorem dX5_levelOf_0 : decode cX5_levelOf 0 = .ok (.iload_n 0, 1) := by decide +kernel
theorem dX5_levelOf_1 : decode cX5_levelOf 1 = .ok (.tableswitch 105 42 62 #[103, 101, 105, 101, 105, 103, 105, 105, 105, 105, 105, 105, 105, 105, 105, 105, 105, 105, 99, 99, 99], 99) := by decide +kernel
theorem dX5_levelOf_100 : decode cX5_levelOf 100 = .ok (.iconst 0, 1) := by decide +kernel
theorem dX5_levelOf_101 : decode cX5_levelOf 101 = .ok (.ireturn, 1) := by decide +kernel
theorem dX5_levelOf_102 : decode cX5_levelOf 102 = .ok (.iconst 1, 1) := by decide +kernel
theorem dX5_levelOf_103 : decode cX5_levelOf 103 = .ok (.ireturn, 1) := by decide +kernel
theorem dX5_levelOf_104 : decode cX5_levelOf 104 = .ok (.iconst 2, 1) := by decide +kernel
theorem dX5_levelOf_105 : decode cX5_levelOf 105 = .ok (.ireturn, 1) := by decide +kernel
theorem dX5_levelOf_106 : decode cX5_levelOf 106 = .ok (.iconst 3, 1) := by decide +kernel
theorem dX5_levelOf_107 : decode cX5_levelOf 107 = .ok (.ireturn, 1) := by decide +kernel
theorem dX5_readThing_0 : decode cX5_readThing 0 = .ok (.iconst 0, 1) := by decide +kernel
theorem dX5_readThing_1 : decode cX5_readThing 1 = .ok (.istore_n 3, 1) := by decide +kernel
theorem dX5_readThing_2 : decode cX5_readThing 2 = .ok (.iconst 0, 1) := by decide +kernel
theorem dX5_readThing_3 : decode cX5_readThing 3 = .ok (.istore 4, 2) := by decide +kernel
theorem dX5_readThing_5 : decode cX5_readThing 5 = .ok (.iload 4, 2) := by decide +kernel
theorem dX5_readThing_7 : decode cX5_readThing 7 = .ok (.bipush 40, 2) := by decide +kernel
theorem dX5_readThing_9 : decode cX5_readThing 9 = .ok (.if_icmp .ge 28, 3) := by decide +kernel
theorem dX5_readThing_12 : decode cX5_readThing 12 = .ok (.aload_n 1, 1) := by decide +kernel
theorem dX5_readThing_13 : decode cX5_readThing 13 = .ok (.bipush 45, 2) := by decide +kernel
theorem dX5_readThing_15 : decode cX5_readThing 15 = .ok (.invokevirtual 71, 3) := by decide +kernel
theorem dX5_readThing_18 : decode cX5_readThing 18 = .ok (.ifCond .eq 19, 3) := by decide +kernel
theorem dX5_readThing_21 : decode cX5_readThing 21 = .ok (.iload_n 3, 1) := by decide +kernel
theorem dX5_readThing_22 : decode cX5_readThing 22 = .ok (.ifCond .ne 7, 3) := by decide +kernel
theorem dX5_readThing_25 : decode cX5_readThing 25 = .ok (.iconst 1, 1) := by decide +kernel
theorem dX5_readThing_26 : decode cX5_readThing 26 = .ok (.goto 4, 3) := by decide +kernel
theorem dX5_readThing_29 : decode cX5_readThing 29 = .ok (.iconst 0, 1) := by decide +kernel
theorem dX5_readThing_30 : decode cX5_readThing 30 = .ok (.istore_n 3, 1) := by decide +kernel
theorem dX5_readThing_31 : decode cX5_readThing 31 = .ok (.iinc 4 1, 3) := by decide +kernel
theorem dX5_readThing_34 : decode cX5_readThing 34 = .ok (.goto (-29), 3) := by decide +kernel
theorem dX5_readThing_37 : decode cX5_readThing 37 = .ok (.aload_n 1, 1) := by decide +kernel
theorem dX5_readThing_38 : decode cX5_readThing 38 = .ok (.invokevirtual 59, 3) := by decide +kernel
theorem dX5_readThing_41 : decode cX5_readThing 41 = .ok (.istore 4, 2) := by decide +kernel
theorem dX5_readThing_43 : decode cX5_readThing 43 = .ok (.iload 4, 2) := by decide +kernel
theorem dX5_readThing_45 : decode cX5_readThing 45 = .ok (.bipush 48, 2) := by decide +kernel
theorem dX5_readThing_47 : decode cX5_readThing 47 = .ok (.if_icmp .lt 26, 3) := by decide +kernel
theorem dX5_readThing_50 : decode cX5_readThing 50 = .ok (.iload 4, 2) := by decide +kernel
theorem dX5_readThing_52 : decode cX5_readThing 52 = .ok (.bipush 57, 2) := by decide +kernel
theorem dX5_readThing_54 : decode cX5_readThing 54 = .ok (.if_icmp .gt 19, 3) := by decide +kernel
theorem dX5_readThing_57 : decode cX5_readThing 57 = .ok (.aload_n 0, 1) := by decide +kernel
theorem dX5_readThing_58 : decode cX5_readThing 58 = .ok (.aload_n 1, 1) := by decide +kernel
theorem dX5_readThing_59 : decode cX5_readThing 59 = .ok (.iconst 3, 1) := by decide +kernel
theorem dX5_readThing_60 : decode cX5_readThing 60 = .ok (.iconst 0, 1) := by decide +kernel
theorem dX5_readThing_61 : decode cX5_readThing 61 = .ok (.sipush 999, 3) := by decide +kernel
theorem dX5_readThing_64 : decode cX5_readThing 64 = .ok (.invokevirtual 75, 3) := by decide +kernel
theorem dX5_readThing_67 : decode cX5_readThing 67 = .ok (.invokevirtual 68, 3) := by decide +kernel
theorem dX5_readThing_70 : decode cX5_readThing 70 = .ok (.goto 44, 3) := by decide +kernel
theorem dX5_readThing_73 : decode cX5_readThing 73 = .ok (.iload 4, 2) := by decide +kernel
theorem dX5_readThing_75 : decode cX5_readThing 75 = .ok (.bipush 40, 2) := by decide +kernel
theorem dX5_readThing_77 : decode cX5_readThing 77 = .ok (.if_icmp .ne 30, 3) := by decide +kernel
theorem dX5_readThing_80 : decode cX5_readThing 80 = .ok (.iload_n 2, 1) := by decide +kernel
theorem dX5_readThing_81 : decode cX5_readThing 81 = .ok (.iconst 4, 1) := by decide +kernel
theorem dX5_readThing_82 : decode cX5_readThing 82 = .ok (.if_icmp .ge 25, 3) := by decide +kernel
theorem dX5_readThing_85 : decode cX5_readThing 85 = .ok (.aload_n 1, 1) := by decide +kernel
theorem dX5_readThing_86 : decode cX5_readThing 86 = .ok (.invokevirtual 65, 3) := by decide +kernel
theorem dX5_readThing_89 : decode cX5_readThing 89 = .ok (.aload_n 0, 1) := by decide +kernel
theorem dX5_readThing_90 : decode cX5_readThing 90 = .ok (.aload_n 1, 1) := by decide +kernel
theorem dX5_readThing_91 : decode cX5_readThing 91 = .ok (.iconst 0, 1) := by decide +kernel
theorem dX5_readThing_92 : decode cX5_readThing 92 = .ok (.iload_n 2, 1) := by decide +kernel
theorem dX5_readThing_93 : decode cX5_readThing 93 = .ok (.iconst 1, 1) := by decide +kernel
theorem dX5_readThing_94 : decode cX5_readThing 94 = .ok (.iadd, 1) := by decide +kernel
theorem dX5_readThing_95 : decode cX5_readThing 95 = .ok (.invokevirtual 48, 3) := by decide +kernel
theorem dX5_readThing_98 : decode cX5_readThing 98 = .ok (.aload_n 1, 1) := by decide +kernel
theorem dX5_readThing_99 : decode cX5_readThing 99 = .ok (.bipush 41, 2) := by decide +kernel
theorem dX5_readThing_101 : decode cX5_readThing 101 = .ok (.invokevirtual 78, 3) := by decide +kernel
theorem dX5_readThing_104 : decode cX5_readThing 104 = .ok (.goto 10, 3) := by decide +kernel
theorem dX5_readThing_107 : decode cX5_readThing 107 = .ok (.aload_n 0, 1) := by decide +kernel
theorem dX5_readThing_108 : decode cX5_readThing 108 = .ok (.aload_n 1, 1) := by decide +kernel
theorem dX5_readThing_109 : decode cX5_readThing 109 = .ok (.iload 4, 2) := by decide +kernel
theorem dX5_readThing_111 : decode cX5_readThing 111 = .ok (.invokevirtual 81, 3) := by decide +kernel
theorem dX5_readThing_114 : decode cX5_readThing 114 = .ok (.iload_n 3, 1) := by decide +kernel
theorem dX5_readThing_115 : decode cX5_readThing 115 = .ok (.ifCond .eq 10, 3) := by decide +kernel
theorem dX5_readThing_118 : decode cX5_readThing 118 = .ok (.aload_n 0, 1) := by decide +kernel
theorem dX5_readThing_119 : decode cX5_readThing 119 = .ok (.sipush 2000, 3) := by decide +kernel
theorem dX5_readThing_122 : decode cX5_readThing 122 = .ok (.invokevirtual 68, 3) := by decide +kernel
theorem dX5_readThing_125 : decode cX5_readThing 125 = .ok (.return_, 1) := by decide +kernel
theorem dX5_readName_0 : decode cX5_readName 0 = .ok (.iload_n 2, 1) := by decide +kernel
theorem dX5_readName_1 : decode cX5_readName 1 = .ok (.ifCond .ge 7, 3) := by decide +kernel
theorem dX5_readName_4 : decode cX5_readName 4 = .ok (.iconst (-1), 1) := by decide +kernel
theorem dX5_readName_5 : decode cX5_readName 5 = .ok (.goto 10, 3) := by decide +kernel
theorem dX5_readName_8 : decode cX5_readName 8 = .ok (.ldc 84, 2) := by decide +kernel
theorem dX5_readName_10 : decode cX5_readName 10 = .ok (.iload_n 2, 1) := by decide +kernel
theorem dX5_readName_11 : decode cX5_readName 11 = .ok (.i2c, 1) := by decide +kernel
theorem dX5_readName_12 : decode cX5_readName 12 = .ok (.invokevirtual 86, 3) := by decide +kernel
theorem dX5_readName_15 : decode cX5_readName 15 = .ok (.istore_n 3, 1) := by decide +kernel
theorem dX5_readName_16 : decode cX5_readName 16 = .ok (.iload_n 3, 1) := by decide +kernel
theorem dX5_readName_17 : decode cX5_readName 17 = .ok (.ifCond .ge 8, 3) := by decide +kernel
theorem dX5_readName_20 : decode cX5_readName 20 = .ok (.aload_n 1, 1) := by decide +kernel
theorem dX5_readName_21 : decode cX5_readName 21 = .ok (.invokevirtual 91, 3) := by decide +kernel
theorem dX5_readName_24 : decode cX5_readName 24 = .ok (.return_, 1) := by decide +kernel
theorem dX5_readName_25 : decode cX5_readName 25 = .ok (.aload_n 1, 1) := by decide +kernel
theorem dX5_readName_26 : decode cX5_readName 26 = .ok (.invokevirtual 65, 3) := by decide +kernel
theorem dX5_readName_29 : decode cX5_readName 29 = .ok (.aload_n 0, 1) := by decide +kernel
theorem dX5_readName_30 : decode cX5_readName 30 = .ok (.sipush 1000, 3) := by decide +kernel
theorem dX5_readName_33 : decode cX5_readName 33 = .ok (.iload_n 3, 1) := by decide +kernel
theorem dX5_readName_34 : decode cX5_readName 34 = .ok (.iadd, 1) := by decide +kernel
theorem dX5_readName_35 : decode cX5_readName 35 = .ok (.invokevirtual 68, 3) := by decide +kernel
theorem dX5_readName_38 : decode cX5_readName 38 = .ok (.return_, 1) := by decide +kernel
theorem dX5_add_0 : decode cX5_add 0 = .ok (.aload_n 0, 1) := by decide +kernel
theorem dX5_add_1 : decode cX5_add 1 = .ok (.getfield 21, 3) := by decide +kernel
theorem dX5_add_4 : decode cX5_add 4 = .ok (.aload_n 0, 1) := by decide +kernel
theorem dX5_add_5 : decode cX5_add 5 = .ok (.getfield 11, 3) := by decide +kernel
theorem dX5_add_8 : decode cX5_add 8 = .ok (.arraylength, 1) := by decide +kernel
theorem dX5_add_9 : decode cX5_add 9 = .ok (.if_icmp .ge 23, 3) := by decide +kernel
theorem dX5_add_12 : decode cX5_add 12 = .ok (.aload_n 0, 1) := by decide +kernel
theorem dX5_add_13 : decode cX5_add 13 = .ok (.getfield 11, 3) := by decide +kernel
theorem dX5_add_16 : decode cX5_add 16 = .ok (.aload_n 0, 1) := by decide +kernel
theorem dX5_add_17 : decode cX5_add 17 = .ok (.getfield 21, 3) := by decide +kernel
theorem dX5_add_20 : decode cX5_add 20 = .ok (.iload_n 1, 1) := by decide +kernel
theorem dX5_add_21 : decode cX5_add 21 = .ok (.iastore, 1) := by decide +kernel
theorem dX5_add_22 : decode cX5_add 22 = .ok (.aload_n 0, 1) := by decide +kernel
theorem dX5_add_23 : decode cX5_add 23 = .ok (.dup, 1) := by decide +kernel
theorem dX5_add_24 : decode cX5_add 24 = .ok (.getfield 21, 3) := by decide +kernel
theorem dX5_add_27 : decode cX5_add 27 = .ok (.iconst 1, 1) := by decide +kernel
theorem dX5_add_28 : decode cX5_add 28 = .ok (.iadd, 1) := by decide +kernel
theorem dX5_add_29 : decode cX5_add 29 = .ok (.putfield 21, 3) := by decide +kernel
theorem dX5_add_32 : decode cX5_add 32 = .ok (.return_, 1) := by decide +kernel
theorem dX6_init_0 : decode cX6_init 0 = .ok (.aload_n 0, 1) := by decide +kernel
theorem dX6_init_1 : decode cX6_init 1 = .ok (.invokespecial 3, 3) := by decide +kernel
theorem dX6_init_4 : decode cX6_init 4 = .ok (.aload_n 0, 1) := by decide +kernel
theorem dX6_init_5 : decode cX6_init 5 = .ok (.bipush 8, 2) := by decide +kernel
theorem dX6_init_7 : decode cX6_init 7 = .ok (.newarray .int, 2) := by decide +kernel
theorem dX6_init_9 : decode cX6_init 9 = .ok (.putfield 9, 3) := by decide +kernel
theorem dX6_init_12 : decode cX6_init 12 = .ok (.aload_n 0, 1) := by decide +kernel
theorem dX6_init_13 : decode cX6_init 13 = .ok (.bipush 8, 2) := by decide +kernel
theorem dX6_init_15 : decode cX6_init 15 = .ok (.newarray .int, 2) := by decide +kernel
theorem dX6_init_17 : decode cX6_init 17 = .ok (.putfield 15, 3) := by decide +kernel
theorem dX6_init_20 : decode cX6_init 20 = .ok (.aload_n 0, 1) := by decide +kernel
theorem dX6_init_21 : decode cX6_init 21 = .ok (.bipush 8, 2) := by decide +kernel
theorem dX6_init_23 : decode cX6_init 23 = .ok (.newarray .int, 2) := by decide +kernel
theorem dX6_init_25 : decode cX6_init 25 = .ok (.putfield 18, 3) := by decide +kernel
theorem dX6_init_28 : decode cX6_init 28 = .ok (.return_, 1) := by decide +kernel
theorem dX6_has_0 : decode cX6_has 0 = .ok (.iload_n 1, 1) := by decide +kernel
theorem dX6_has_1 : decode cX6_has 1 = .ok (.ifCond .lt 15, 3) := by decide +kernel
theorem dX6_has_4 : decode cX6_has 4 = .ok (.iload_n 1, 1) := by decide +kernel
theorem dX6_has_5 : decode cX6_has 5 = .ok (.aload_n 0, 1) := by decide +kernel
theorem dX6_has_6 : decode cX6_has 6 = .ok (.getfield 21, 3) := by decide +kernel
theorem dX6_has_9 : decode cX6_has 9 = .ok (.if_icmp .ge 7, 3) := by decide +kernel
theorem dX6_has_12 : decode cX6_has 12 = .ok (.iconst 1, 1) := by decide +kernel
theorem dX6_has_13 : decode cX6_has 13 = .ok (.goto 4, 3) := by decide +kernel
theorem dX6_has_16 : decode cX6_has 16 = .ok (.iconst 0, 1) := by decide +kernel
theorem dX6_has_17 : decode cX6_has 17 = .ok (.ireturn, 1) := by decide +kernel
theorem dX6_holds_0 : decode cX6_holds 0 = .ok (.iload_n 1, 1) := by decide +kernel
theorem dX6_holds_1 : decode cX6_holds 1 = .ok (.ifCond .lt 17, 3) := by decide +kernel
theorem dX6_holds_4 : decode cX6_holds 4 = .ok (.iload_n 1, 1) := by decide +kernel
theorem dX6_holds_5 : decode cX6_holds 5 = .ok (.iconst 1, 1) := by decide +kernel
theorem dX6_holds_6 : decode cX6_holds 6 = .ok (.aload_n 0, 1) := by decide +kernel
theorem dX6_holds_7 : decode cX6_holds 7 = .ok (.getfield 21, 3) := by decide +kernel
theorem dX6_holds_10 : decode cX6_holds 10 = .ok (.ishl, 1) := by decide +kernel
theorem dX6_holds_11 : decode cX6_holds 11 = .ok (.if_icmp .ge 7, 3) := by decide +kernel
theorem dX6_holds_14 : decode cX6_holds 14 = .ok (.iconst 1, 1) := by decide +kernel
theorem dX6_holds_15 : decode cX6_holds 15 = .ok (.goto 4, 3) := by decide +kernel
theorem dX6_holds_18 : decode cX6_holds 18 = .ok (.iconst 0, 1) := by decide +kernel
theorem dX6_holds_19 : decode cX6_holds 19 = .ok (.ireturn, 1) := by decide +kernel
theorem dX6_isTrue_0 : decode cX6_isTrue 0 = .ok (.aload_n 0, 1) := by decide +kernel
theorem dX6_isTrue_1 : decode cX6_isTrue 1 = .ok (.getfield 25, 3) := by decide +kernel
theorem dX6_isTrue_4 : decode cX6_isTrue 4 = .ok (.iload_n 1, 1) := by decide +kernel
theorem dX6_isTrue_5 : decode cX6_isTrue 5 = .ok (.ishr, 1) := by decide +kernel
theorem dX6_isTrue_6 : decode cX6_isTrue 6 = .ok (.iconst 1, 1) := by decide +kernel
theorem dX6_isTrue_7 : decode cX6_isTrue 7 = .ok (.iand, 1) := by decide +kernel
theorem dX6_isTrue_8 : decode cX6_isTrue 8 = .ok (.ifCond .eq 7, 3) := by decide +kernel
theorem dX6_isTrue_11 : decode cX6_isTrue 11 = .ok (.iconst 1, 1) := by decide +kernel
theorem dX6_isTrue_12 : decode cX6_isTrue 12 = .ok (.goto 4, 3) := by decide +kernel
theorem dX6_isTrue_15 : decode cX6_isTrue 15 = .ok (.iconst 0, 1) := by decide +kernel
theorem dX6_isTrue_16 : decode cX6_isTrue 16 = .ok (.ireturn, 1) := by decide +kernel
theorem dX6_knownTo_0 : decode cX6_knownTo 0 = .ok (.iconst 0, 1) := by decide +kernel
theorem dX6_knownTo_1 : decode cX6_knownTo 1 = .ok (.istore_n 2, 1) := by decide +kernel
theorem dX6_knownTo_2 : decode cX6_knownTo 2 = .ok (.iconst 0, 1) := by decide +kernel
theorem dX6_knownTo_3 : decode cX6_knownTo 3 = .ok (.istore_n 3, 1) := by decide +kernel
theorem dX6_knownTo_4 : decode cX6_knownTo 4 = .ok (.iload_n 3, 1) := by decide +kernel
theorem dX6_knownTo_5 : decode cX6_knownTo 5 = .ok (.aload_n 0, 1) := by decide +kernel
theorem dX6_knownTo_6 : decode cX6_knownTo 6 = .ok (.getfield 21, 3) := by decide +kernel
theorem dX6_knownTo_9 : decode cX6_knownTo 9 = .ok (.if_icmp .ge 24, 3) := by decide +kernel
theorem dX6_knownTo_12 : decode cX6_knownTo 12 = .ok (.iload_n 2, 1) := by decide +kernel
theorem dX6_knownTo_13 : decode cX6_knownTo 13 = .ok (.aload_n 0, 1) := by decide +kernel
theorem dX6_knownTo_14 : decode cX6_knownTo 14 = .ok (.getfield 18, 3) := by decide +kernel
theorem dX6_knownTo_17 : decode cX6_knownTo 17 = .ok (.iload_n 3, 1) := by decide +kernel
theorem dX6_knownTo_18 : decode cX6_knownTo 18 = .ok (.iaload, 1) := by decide +kernel
theorem dX6_knownTo_19 : decode cX6_knownTo 19 = .ok (.iload_n 1, 1) := by decide +kernel
theorem dX6_knownTo_20 : decode cX6_knownTo 20 = .ok (.ishr, 1) := by decide +kernel
theorem dX6_knownTo_21 : decode cX6_knownTo 21 = .ok (.iconst 1, 1) := by decide +kernel
theorem dX6_knownTo_22 : decode cX6_knownTo 22 = .ok (.iand, 1) := by decide +kernel
theorem dX6_knownTo_23 : decode cX6_knownTo 23 = .ok (.iload_n 3, 1) := by decide +kernel
theorem dX6_knownTo_24 : decode cX6_knownTo 24 = .ok (.ishl, 1) := by decide +kernel
theorem dX6_knownTo_25 : decode cX6_knownTo 25 = .ok (.ior, 1) := by decide +kernel
theorem dX6_knownTo_26 : decode cX6_knownTo 26 = .ok (.istore_n 2, 1) := by decide +kernel
theorem dX6_knownTo_27 : decode cX6_knownTo 27 = .ok (.iinc 3 1, 3) := by decide +kernel
theorem dX6_knownTo_30 : decode cX6_knownTo 30 = .ok (.goto (-26), 3) := by decide +kernel
theorem dX6_knownTo_33 : decode cX6_knownTo 33 = .ok (.iload_n 2, 1) := by decide +kernel
theorem dX6_knownTo_34 : decode cX6_knownTo 34 = .ok (.ireturn, 1) := by decide +kernel
theorem dX6_weightOf_0 : decode cX6_weightOf 0 = .ok (.aload_n 0, 1) := by decide +kernel
theorem dX6_weightOf_1 : decode cX6_weightOf 1 = .ok (.aload_n 0, 1) := by decide +kernel
theorem dX6_weightOf_2 : decode cX6_weightOf 2 = .ok (.getfield 9, 3) := by decide +kernel
theorem dX6_weightOf_5 : decode cX6_weightOf 5 = .ok (.iload_n 1, 1) := by decide +kernel
theorem dX6_weightOf_6 : decode cX6_weightOf 6 = .ok (.invokevirtual 28, 3) := by decide +kernel
theorem dX6_weightOf_9 : decode cX6_weightOf 9 = .ok (.ireturn, 1) := by decide +kernel
theorem dX6_harmOf_0 : decode cX6_harmOf 0 = .ok (.aload_n 0, 1) := by decide +kernel
theorem dX6_harmOf_1 : decode cX6_harmOf 1 = .ok (.aload_n 0, 1) := by decide +kernel
theorem dX6_harmOf_2 : decode cX6_harmOf 2 = .ok (.getfield 15, 3) := by decide +kernel
theorem dX6_harmOf_5 : decode cX6_harmOf 5 = .ok (.iload_n 1, 1) := by decide +kernel
theorem dX6_harmOf_6 : decode cX6_harmOf 6 = .ok (.invokevirtual 28, 3) := by decide +kernel
theorem dX6_harmOf_9 : decode cX6_harmOf 9 = .ok (.ireturn, 1) := by decide +kernel
theorem dX6_sumOf_0 : decode cX6_sumOf 0 = .ok (.iconst 0, 1) := by decide +kernel
theorem dX6_sumOf_1 : decode cX6_sumOf 1 = .ok (.istore_n 3, 1) := by decide +kernel
theorem dX6_sumOf_2 : decode cX6_sumOf 2 = .ok (.iconst 0, 1) := by decide +kernel
theorem dX6_sumOf_3 : decode cX6_sumOf 3 = .ok (.istore 4, 2) := by decide +kernel
theorem dX6_sumOf_5 : decode cX6_sumOf 5 = .ok (.iload 4, 2) := by decide +kernel
theorem dX6_sumOf_7 : decode cX6_sumOf 7 = .ok (.aload_n 0, 1) := by decide +kernel
theorem dX6_sumOf_8 : decode cX6_sumOf 8 = .ok (.getfield 21, 3) := by decide +kernel
theorem dX6_sumOf_11 : decode cX6_sumOf 11 = .ok (.if_icmp .ge 30, 3) := by decide +kernel
theorem dX6_sumOf_14 : decode cX6_sumOf 14 = .ok (.iload 4, 2) := by decide +kernel
theorem dX6_sumOf_16 : decode cX6_sumOf 16 = .ok (.aload_n 1, 1) := by decide +kernel
theorem dX6_sumOf_17 : decode cX6_sumOf 17 = .ok (.arraylength, 1) := by decide +kernel
theorem dX6_sumOf_18 : decode cX6_sumOf 18 = .ok (.if_icmp .ge 23, 3) := by decide +kernel
theorem dX6_sumOf_21 : decode cX6_sumOf 21 = .ok (.iload_n 3, 1) := by decide +kernel
theorem dX6_sumOf_22 : decode cX6_sumOf 22 = .ok (.iload_n 2, 1) := by decide +kernel
theorem dX6_sumOf_23 : decode cX6_sumOf 23 = .ok (.iload 4, 2) := by decide +kernel
theorem dX6_sumOf_25 : decode cX6_sumOf 25 = .ok (.ishr, 1) := by decide +kernel
theorem dX6_sumOf_26 : decode cX6_sumOf 26 = .ok (.iconst 1, 1) := by decide +kernel
theorem dX6_sumOf_27 : decode cX6_sumOf 27 = .ok (.iand, 1) := by decide +kernel
theorem dX6_sumOf_28 : decode cX6_sumOf 28 = .ok (.aload_n 1, 1) := by decide +kernel
theorem dX6_sumOf_29 : decode cX6_sumOf 29 = .ok (.iload 4, 2) := by decide +kernel
theorem dX6_sumOf_31 : decode cX6_sumOf 31 = .ok (.iaload, 1) := by decide +kernel
theorem dX6_sumOf_32 : decode cX6_sumOf 32 = .ok (.imul, 1) := by decide +kernel
theorem dX6_sumOf_33 : decode cX6_sumOf 33 = .ok (.iadd, 1) := by decide +kernel
theorem dX6_sumOf_34 : decode cX6_sumOf 34 = .ok (.istore_n 3, 1) := by decide +kernel
theorem dX6_sumOf_35 : decode cX6_sumOf 35 = .ok (.iinc 4 1, 3) := by decide +kernel
theorem dX6_sumOf_38 : decode cX6_sumOf 38 = .ok (.goto (-33), 3) := by decide +kernel
theorem dX6_sumOf_41 : decode cX6_sumOf 41 = .ok (.iload_n 3, 1) := by decide +kernel
theorem dX6_sumOf_42 : decode cX6_sumOf 42 = .ok (.ireturn, 1) := by decide +kernel
theorem dX6_loadAfter_0 : decode cX6_loadAfter 0 = .ok (.aload_n 0, 1) := by decide +kernel
theorem dX6_loadAfter_1 : decode cX6_loadAfter 1 = .ok (.iload_n 2, 1) := by decide +kernel
theorem dX6_loadAfter_2 : decode cX6_loadAfter 2 = .ok (.invokevirtual 32, 3) := by decide +kernel
theorem dX6_loadAfter_5 : decode cX6_loadAfter 5 = .ok (.ifCond .eq 14, 3) := by decide +kernel
theorem dX6_loadAfter_8 : decode cX6_loadAfter 8 = .ok (.iload_n 1, 1) := by decide +kernel
theorem dX6_loadAfter_9 : decode cX6_loadAfter 9 = .ok (.aload_n 0, 1) := by decide +kernel
theorem dX6_loadAfter_10 : decode cX6_loadAfter 10 = .ok (.getfield 9, 3) := by decide +kernel
theorem dX6_loadAfter_13 : decode cX6_loadAfter 13 = .ok (.iload_n 2, 1) := by decide +kernel
theorem dX6_loadAfter_14 : decode cX6_loadAfter 14 = .ok (.iaload, 1) := by decide +kernel
theorem dX6_loadAfter_15 : decode cX6_loadAfter 15 = .ok (.isub, 1) := by decide +kernel
theorem dX6_loadAfter_16 : decode cX6_loadAfter 16 = .ok (.goto 11, 3) := by decide +kernel
theorem dX6_loadAfter_19 : decode cX6_loadAfter 19 = .ok (.iload_n 1, 1) := by decide +kernel
theorem dX6_loadAfter_20 : decode cX6_loadAfter 20 = .ok (.aload_n 0, 1) := by decide +kernel
theorem dX6_loadAfter_21 : decode cX6_loadAfter 21 = .ok (.getfield 9, 3) := by decide +kernel
theorem dX6_loadAfter_24 : decode cX6_loadAfter 24 = .ok (.iload_n 2, 1) := by decide +kernel
theorem dX6_loadAfter_25 : decode cX6_loadAfter 25 = .ok (.iaload, 1) := by decide +kernel
theorem dX6_loadAfter_26 : decode cX6_loadAfter 26 = .ok (.iadd, 1) := by decide +kernel
theorem dX6_loadAfter_27 : decode cX6_loadAfter 27 = .ok (.iconst 0, 1) := by decide +kernel
theorem dX6_loadAfter_28 : decode cX6_loadAfter 28 = .ok (.sipush 999, 3) := by decide +kernel
theorem dX6_loadAfter_31 : decode cX6_loadAfter 31 = .ok (.invokestatic 36, 3) := by decide +kernel
theorem dX6_loadAfter_34 : decode cX6_loadAfter 34 = .ok (.ireturn, 1) := by decide +kernel
theorem dX6_readLines_0 : decode cX6_readLines 0 = .ok (.aload_n 1, 1) := by decide +kernel
theorem dX6_readLines_1 : decode cX6_readLines 1 = .ok (.bipush 76, 2) := by decide +kernel
theorem dX6_readLines_3 : decode cX6_readLines 3 = .ok (.invokevirtual 40, 3) := by decide +kernel
theorem dX6_readLines_6 : decode cX6_readLines 6 = .ok (.iconst 0, 1) := by decide +kernel
theorem dX6_readLines_7 : decode cX6_readLines 7 = .ok (.istore_n 2, 1) := by decide +kernel
theorem dX6_readLines_8 : decode cX6_readLines 8 = .ok (.aload_n 0, 1) := by decide +kernel
theorem dX6_readLines_9 : decode cX6_readLines 9 = .ok (.aload_n 1, 1) := by decide +kernel
theorem dX6_readLines_10 : decode cX6_readLines 10 = .ok (.aload_n 0, 1) := by decide +kernel
theorem dX6_readLines_11 : decode cX6_readLines 11 = .ok (.getfield 21, 3) := by decide +kernel
theorem dX6_readLines_14 : decode cX6_readLines 14 = .ok (.iload_n 2, 1) := by decide +kernel
theorem dX6_readLines_15 : decode cX6_readLines 15 = .ok (.iadd, 1) := by decide +kernel
theorem dX6_readLines_16 : decode cX6_readLines 16 = .ok (.invokevirtual 46, 3) := by decide +kernel
theorem dX6_readLines_19 : decode cX6_readLines 19 = .ok (.iinc 2 1, 3) := by decide +kernel
theorem dX6_readLines_22 : decode cX6_readLines 22 = .ok (.iload_n 2, 1) := by decide +kernel
theorem dX6_readLines_23 : decode cX6_readLines 23 = .ok (.bipush 8, 2) := by decide +kernel
theorem dX6_readLines_25 : decode cX6_readLines 25 = .ok (.if_icmp .gt 12, 3) := by decide +kernel
theorem dX6_readLines_28 : decode cX6_readLines 28 = .ok (.aload_n 1, 1) := by decide +kernel
theorem dX6_readLines_29 : decode cX6_readLines 29 = .ok (.bipush 59, 2) := by decide +kernel
theorem dX6_readLines_31 : decode cX6_readLines 31 = .ok (.invokevirtual 50, 3) := by decide +kernel
theorem dX6_readLines_34 : decode cX6_readLines 34 = .ok (.ifCond .ne (-26), 3) := by decide +kernel
theorem dX6_readLines_37 : decode cX6_readLines 37 = .ok (.iload_n 2, 1) := by decide +kernel
theorem dX6_readLines_38 : decode cX6_readLines 38 = .ok (.ireturn, 1) := by decide +kernel
theorem dX6_readLine_0 : decode cX6_readLine 0 = .ok (.iload_n 2, 1) := by decide +kernel
theorem dX6_readLine_1 : decode cX6_readLine 1 = .ok (.bipush 8, 2) := by decide +kernel
theorem dX6_readLine_3 : decode cX6_readLine 3 = .ok (.if_icmp .lt 8, 3) := by decide +kernel
theorem dX6_readLine_6 : decode cX6_readLine 6 = .ok (.aload_n 1, 1) := by decide +kernel
theorem dX6_readLine_7 : decode cX6_readLine 7 = .ok (.invokevirtual 53, 3) := by decide +kernel
theorem dX6_readLine_10 : decode cX6_readLine 10 = .ok (.return_, 1) := by decide +kernel
theorem dX6_readLine_11 : decode cX6_readLine 11 = .ok (.aload_n 0, 1) := by decide +kernel
theorem dX6_readLine_12 : decode cX6_readLine 12 = .ok (.getfield 9, 3) := by decide +kernel
theorem dX6_readLine_15 : decode cX6_readLine 15 = .ok (.iload_n 2, 1) := by decide +kernel
theorem dX6_readLine_16 : decode cX6_readLine 16 = .ok (.aload_n 1, 1) := by decide +kernel
theorem dX6_readLine_17 : decode cX6_readLine 17 = .ok (.iconst 2, 1) := by decide +kernel
theorem dX6_readLine_18 : decode cX6_readLine 18 = .ok (.iconst 1, 1) := by decide +kernel
theorem dX6_readLine_19 : decode cX6_readLine 19 = .ok (.bipush 20, 2) := by decide +kernel
theorem dX6_readLine_21 : decode cX6_readLine 21 = .ok (.invokevirtual 56, 3) := by decide +kernel
theorem dX6_readLine_24 : decode cX6_readLine 24 = .ok (.iastore, 1) := by decide +kernel
theorem dX6_readLine_25 : decode cX6_readLine 25 = .ok (.aload_n 0, 1) := by decide +kernel
theorem dX6_readLine_26 : decode cX6_readLine 26 = .ok (.dup, 1) := by decide +kernel
theorem dX6_readLine_27 : decode cX6_readLine 27 = .ok (.getfield 25, 3) := by decide +kernel
theorem dX6_readLine_30 : decode cX6_readLine 30 = .ok (.iconst 1, 1) := by decide +kernel
theorem dX6_readLine_31 : decode cX6_readLine 31 = .ok (.iload_n 2, 1) := by decide +kernel
theorem dX6_readLine_32 : decode cX6_readLine 32 = .ok (.ishl, 1) := by decide +kernel
theorem dX6_readLine_33 : decode cX6_readLine 33 = .ok (.iconst (-1), 1) := by decide +kernel
theorem dX6_readLine_34 : decode cX6_readLine 34 = .ok (.ixor, 1) := by decide +kernel
theorem dX6_readLine_35 : decode cX6_readLine 35 = .ok (.iand, 1) := by decide +kernel
theorem dX6_readLine_36 : decode cX6_readLine 36 = .ok (.putfield 25, 3) := by decide +kernel
theorem dX6_readLine_39 : decode cX6_readLine 39 = .ok (.aload_n 1, 1) := by decide +kernel
theorem dX6_readLine_40 : decode cX6_readLine 40 = .ok (.bipush 43, 2) := by decide +kernel
theorem dX6_readLine_42 : decode cX6_readLine 42 = .ok (.invokevirtual 50, 3) := by decide +kernel
theorem dX6_readLine_45 : decode cX6_readLine 45 = .ok (.ifCond .eq 18, 3) := by decide +kernel
theorem dX6_readLine_48 : decode cX6_readLine 48 = .ok (.aload_n 0, 1) := by decide +kernel
theorem dX6_readLine_49 : decode cX6_readLine 49 = .ok (.dup, 1) := by decide +kernel
theorem dX6_readLine_50 : decode cX6_readLine 50 = .ok (.getfield 25, 3) := by decide +kernel
theorem dX6_readLine_53 : decode cX6_readLine 53 = .ok (.iconst 1, 1) := by decide +kernel
theorem dX6_readLine_54 : decode cX6_readLine 54 = .ok (.iload_n 2, 1) := by decide +kernel
theorem dX6_readLine_55 : decode cX6_readLine 55 = .ok (.ishl, 1) := by decide +kernel
theorem dX6_readLine_56 : decode cX6_readLine 56 = .ok (.ior, 1) := by decide +kernel
theorem dX6_readLine_57 : decode cX6_readLine 57 = .ok (.putfield 25, 3) := by decide +kernel
theorem dX6_readLine_60 : decode cX6_readLine 60 = .ok (.goto 9, 3) := by decide +kernel
theorem dX6_readLine_63 : decode cX6_readLine 63 = .ok (.aload_n 1, 1) := by decide +kernel
theorem dX6_readLine_64 : decode cX6_readLine 64 = .ok (.bipush 45, 2) := by decide +kernel
theorem dX6_readLine_66 : decode cX6_readLine 66 = .ok (.invokevirtual 59, 3) := by decide +kernel
theorem dX6_readLine_69 : decode cX6_readLine 69 = .ok (.aload_n 0, 1) := by decide +kernel
theorem dX6_readLine_70 : decode cX6_readLine 70 = .ok (.getfield 15, 3) := by decide +kernel
theorem dX6_readLine_73 : decode cX6_readLine 73 = .ok (.iload_n 2, 1) := by decide +kernel
theorem dX6_readLine_74 : decode cX6_readLine 74 = .ok (.aload_n 1, 1) := by decide +kernel
theorem dX6_readLine_75 : decode cX6_readLine 75 = .ok (.iconst 1, 1) := by decide +kernel
theorem dX6_readLine_76 : decode cX6_readLine 76 = .ok (.iconst 0, 1) := by decide +kernel
theorem dX6_readLine_77 : decode cX6_readLine 77 = .ok (.bipush 9, 2) := by decide +kernel
theorem dX6_readLine_79 : decode cX6_readLine 79 = .ok (.invokevirtual 56, 3) := by decide +kernel
theorem dX6_readLine_82 : decode cX6_readLine 82 = .ok (.iastore, 1) := by decide +kernel
theorem dX6_readLine_83 : decode cX6_readLine 83 = .ok (.aload_n 0, 1) := by decide +kernel
theorem dX6_readLine_84 : decode cX6_readLine 84 = .ok (.getfield 18, 3) := by decide +kernel
theorem dX6_readLine_87 : decode cX6_readLine 87 = .ok (.iload_n 2, 1) := by decide +kernel
theorem dX6_readLine_88 : decode cX6_readLine 88 = .ok (.aload_n 1, 1) := by decide +kernel
theorem dX6_readLine_89 : decode cX6_readLine 89 = .ok (.invokestatic 62, 3) := by decide +kernel
theorem dX6_readLine_92 : decode cX6_readLine 92 = .ok (.iastore, 1) := by decide +kernel
theorem dX6_readLine_93 : decode cX6_readLine 93 = .ok (.return_, 1) := by decide +kernel
theorem dX6_readKnowers_0 : decode cX6_readKnowers 0 = .ok (.iconst 0, 1) := by decide +kernel
theorem dX6_readKnowers_1 : decode cX6_readKnowers 1 = .ok (.istore_n 1, 1) := by decide +kernel
theorem dX6_readKnowers_2 : decode cX6_readKnowers 2 = .ok (.aload_n 0, 1) := by decide +kernel
theorem dX6_readKnowers_3 : decode cX6_readKnowers 3 = .ok (.iconst 0, 1) := by decide +kernel
theorem dX6_readKnowers_4 : decode cX6_readKnowers 4 = .ok (.invokevirtual 66, 3) := by decide +kernel
theorem dX6_readKnowers_7 : decode cX6_readKnowers 7 = .ok (.istore_n 2, 1) := by decide +kernel
theorem dX6_readKnowers_8 : decode cX6_readKnowers 8 = .ok (.iconst 0, 1) := by decide +kernel
theorem dX6_readKnowers_9 : decode cX6_readKnowers 9 = .ok (.istore_n 3, 1) := by decide +kernel
theorem dX6_readKnowers_10 : decode cX6_readKnowers 10 = .ok (.iload_n 3, 1) := by decide +kernel
theorem dX6_readKnowers_11 : decode cX6_readKnowers 11 = .ok (.iconst 4, 1) := by decide +kernel
theorem dX6_readKnowers_12 : decode cX6_readKnowers 12 = .ok (.if_icmp .ge 27, 3) := by decide +kernel
theorem dX6_readKnowers_15 : decode cX6_readKnowers 15 = .ok (.iload_n 2, 1) := by decide +kernel
theorem dX6_readKnowers_16 : decode cX6_readKnowers 16 = .ok (.ifCond .lt 23, 3) := by decide +kernel
theorem dX6_readKnowers_19 : decode cX6_readKnowers 19 = .ok (.iload_n 1, 1) := by decide +kernel
theorem dX6_readKnowers_20 : decode cX6_readKnowers 20 = .ok (.iconst 1, 1) := by decide +kernel
theorem dX6_readKnowers_21 : decode cX6_readKnowers 21 = .ok (.iload_n 2, 1) := by decide +kernel
theorem dX6_readKnowers_22 : decode cX6_readKnowers 22 = .ok (.ishl, 1) := by decide +kernel
theorem dX6_readKnowers_23 : decode cX6_readKnowers 23 = .ok (.ior, 1) := by decide +kernel
theorem dX6_readKnowers_24 : decode cX6_readKnowers 24 = .ok (.istore_n 1, 1) := by decide +kernel
theorem dX6_readKnowers_25 : decode cX6_readKnowers 25 = .ok (.aload_n 0, 1) := by decide +kernel
theorem dX6_readKnowers_26 : decode cX6_readKnowers 26 = .ok (.iload_n 2, 1) := by decide +kernel
theorem dX6_readKnowers_27 : decode cX6_readKnowers 27 = .ok (.iconst 1, 1) := by decide +kernel
theorem dX6_readKnowers_28 : decode cX6_readKnowers 28 = .ok (.iadd, 1) := by decide +kernel
theorem dX6_readKnowers_29 : decode cX6_readKnowers 29 = .ok (.invokevirtual 66, 3) := by decide +kernel
theorem dX6_readKnowers_32 : decode cX6_readKnowers 32 = .ok (.istore_n 2, 1) := by decide +kernel
theorem dX6_readKnowers_33 : decode cX6_readKnowers 33 = .ok (.iinc 3 1, 3) := by decide +kernel
theorem dX6_readKnowers_36 : decode cX6_readKnowers 36 = .ok (.goto (-26), 3) := by decide +kernel
theorem dX6_readKnowers_39 : decode cX6_readKnowers 39 = .ok (.iload_n 1, 1) := by decide +kernel
theorem dX6_readKnowers_40 : decode cX6_readKnowers 40 = .ok (.ireturn, 1) := by decide +kernel
theorem dX7_init_0 : decode cX7_init 0 = .ok (.aload_n 0, 1) := by decide +kernel
theorem dX7_init_1 : decode cX7_init 1 = .ok (.invokespecial 3, 3) := by decide +kernel
theorem dX7_init_4 : decode cX7_init 4 = .ok (.aload_n 0, 1) := by decide +kernel
theorem dX7_init_5 : decode cX7_init 5 = .ok (.bipush 8, 2) := by decide +kernel
theorem dX7_init_7 : decode cX7_init 7 = .ok (.newarray .int, 2) := by decide +kernel
theorem dX7_init_9 : decode cX7_init 9 = .ok (.putfield 9, 3) := by decide +kernel
theorem dX7_init_12 : decode cX7_init 12 = .ok (.aload_n 0, 1) := by decide +kernel
theorem dX7_init_13 : decode cX7_init 13 = .ok (.bipush 60, 2) := by decide +kernel
theorem dX7_init_15 : decode cX7_init 15 = .ok (.putfield 15, 3) := by decide +kernel
theorem dX7_init_18 : decode cX7_init 18 = .ok (.return_, 1) := by decide +kernel
theorem dX7_become_0 : decode cX7_become 0 = .ok (.aload_n 1, 1) := by decide +kernel
theorem dX7_become_1 : decode cX7_become 1 = .ok (.getfield 9, 3) := by decide +kernel
theorem dX7_become_4 : decode cX7_become 4 = .ok (.iconst 0, 1) := by decide +kernel
theorem dX7_become_5 : decode cX7_become 5 = .ok (.aload_n 0, 1) := by decide +kernel
theorem dX7_become_6 : decode cX7_become 6 = .ok (.getfield 9, 3) := by decide +kernel
theorem dX7_become_9 : decode cX7_become 9 = .ok (.iconst 0, 1) := by decide +kernel
theorem dX7_become_10 : decode cX7_become 10 = .ok (.bipush 8, 2) := by decide +kernel
theorem dX7_become_12 : decode cX7_become 12 = .ok (.invokestatic 19, 3) := by decide +kernel
theorem dX7_become_15 : decode cX7_become 15 = .ok (.aload_n 0, 1) := by decide +kernel
theorem dX7_become_16 : decode cX7_become 16 = .ok (.aload_n 1, 1) := by decide +kernel
theorem dX7_become_17 : decode cX7_become 17 = .ok (.getfield 25, 3) := by decide +kernel
theorem dX7_become_20 : decode cX7_become 20 = .ok (.putfield 25, 3) := by decide +kernel
theorem dX7_become_23 : decode cX7_become 23 = .ok (.aload_n 0, 1) := by decide +kernel
theorem dX7_become_24 : decode cX7_become 24 = .ok (.aload_n 1, 1) := by decide +kernel
theorem dX7_become_25 : decode cX7_become 25 = .ok (.getfield 15, 3) := by decide +kernel
theorem dX7_become_28 : decode cX7_become 28 = .ok (.putfield 15, 3) := by decide +kernel
theorem dX7_become_31 : decode cX7_become 31 = .ok (.aload_n 0, 1) := by decide +kernel
theorem dX7_become_32 : decode cX7_become 32 = .ok (.aload_n 1, 1) := by decide +kernel
theorem dX7_become_33 : decode cX7_become 33 = .ok (.getfield 28, 3) := by decide +kernel
theorem dX7_become_36 : decode cX7_become 36 = .ok (.putfield 28, 3) := by decide +kernel
theorem dX7_become_39 : decode cX7_become 39 = .ok (.aload_n 0, 1) := by decide +kernel
theorem dX7_become_40 : decode cX7_become 40 = .ok (.aload_n 1, 1) := by decide +kernel
theorem dX7_become_41 : decode cX7_become 41 = .ok (.getfield 31, 3) := by decide +kernel
theorem dX7_become_44 : decode cX7_become 44 = .ok (.putfield 31, 3) := by decide +kernel
theorem dX7_become_47 : decode cX7_become 47 = .ok (.aload_n 0, 1) := by decide +kernel
theorem dX7_become_48 : decode cX7_become 48 = .ok (.aload_n 1, 1) := by decide +kernel
theorem dX7_become_49 : decode cX7_become 49 = .ok (.getfield 34, 3) := by decide +kernel
theorem dX7_become_52 : decode cX7_become 52 = .ok (.putfield 34, 3) := by decide +kernel
theorem dX7_become_55 : decode cX7_become 55 = .ok (.aload_n 0, 1) := by decide +kernel
theorem dX7_become_56 : decode cX7_become 56 = .ok (.aload_n 1, 1) := by decide +kernel
theorem dX7_become_57 : decode cX7_become 57 = .ok (.getfield 37, 3) := by decide +kernel
theorem dX7_become_60 : decode cX7_become 60 = .ok (.putfield 37, 3) := by decide +kernel
theorem dX7_become_63 : decode cX7_become 63 = .ok (.aload_n 0, 1) := by decide +kernel
theorem dX7_become_64 : decode cX7_become 64 = .ok (.aload_n 1, 1) := by decide +kernel
theorem dX7_become_65 : decode cX7_become 65 = .ok (.getfield 41, 3) := by decide +kernel
theorem dX7_become_68 : decode cX7_become 68 = .ok (.putfield 41, 3) := by decide +kernel
theorem dX7_become_71 : decode cX7_become 71 = .ok (.return_, 1) := by decide +kernel
theorem dX7_advance_0 : decode cX7_advance 0 = .ok (.aload_n 0, 1) := by decide +kernel
theorem dX7_advance_1 : decode cX7_advance 1 = .ok (.getfield 25, 3) := by decide +kernel
theorem dX7_advance_4 : decode cX7_advance 4 = .ok (.aload_n 1, 1) := by decide +kernel
theorem dX7_advance_5 : decode cX7_advance 5 = .ok (.getfield 44, 3) := by decide +kernel
theorem dX7_advance_8 : decode cX7_advance 8 = .ok (.if_icmp .lt 6, 3) := by decide +kernel
theorem dX7_advance_11 : decode cX7_advance 11 = .ok (.bipush (-2), 2) := by decide +kernel
theorem dX7_advance_13 : decode cX7_advance 13 = .ok (.ireturn, 1) := by decide +kernel
theorem dX7_advance_14 : decode cX7_advance 14 = .ok (.aload_n 0, 1) := by decide +kernel
theorem dX7_advance_15 : decode cX7_advance 15 = .ok (.getfield 28, 3) := by decide +kernel
theorem dX7_advance_18 : decode cX7_advance 18 = .ok (.ifCond .ne 6, 3) := by decide +kernel
theorem dX7_advance_21 : decode cX7_advance 21 = .ok (.bipush (-3), 2) := by decide +kernel
theorem dX7_advance_23 : decode cX7_advance 23 = .ok (.ireturn, 1) := by decide +kernel
theorem dX7_advance_24 : decode cX7_advance 24 = .ok (.aload_n 2, 1) := by decide +kernel
theorem dX7_advance_25 : decode cX7_advance 25 = .ok (.aload_n 3, 1) := by decide +kernel
theorem dX7_advance_26 : decode cX7_advance 26 = .ok (.aload_n 0, 1) := by decide +kernel
theorem dX7_advance_27 : decode cX7_advance 27 = .ok (.getfield 28, 3) := by decide +kernel
theorem dX7_advance_30 : decode cX7_advance 30 = .ok (.aload_n 0, 1) := by decide +kernel
theorem dX7_advance_31 : decode cX7_advance 31 = .ok (.invokevirtual 49, 3) := by decide +kernel
theorem dX7_advance_34 : decode cX7_advance 34 = .ok (.aload_n 0, 1) := by decide +kernel
theorem dX7_advance_35 : decode cX7_advance 35 = .ok (.getfield 15, 3) := by decide +kernel
theorem dX7_advance_38 : decode cX7_advance 38 = .ok (.aload_n 1, 1) := by decide +kernel
theorem dX7_advance_39 : decode cX7_advance 39 = .ok (.aload_n 0, 1) := by decide +kernel
theorem dX7_advance_40 : decode cX7_advance 40 = .ok (.getfield 25, 3) := by decide +kernel
theorem dX7_advance_43 : decode cX7_advance 43 = .ok (.invokevirtual 55, 3) := by decide +kernel
theorem dX7_advance_46 : decode cX7_advance 46 = .ok (.iadd, 1) := by decide +kernel
theorem dX7_advance_47 : decode cX7_advance 47 = .ok (.if_icmp .ge 7, 3) := by decide +kernel
theorem dX7_advance_50 : decode cX7_advance 50 = .ok (.iconst 1, 1) := by decide +kernel
theorem dX7_advance_51 : decode cX7_advance 51 = .ok (.goto 4, 3) := by decide +kernel
theorem dX7_advance_54 : decode cX7_advance 54 = .ok (.iconst 0, 1) := by decide +kernel
theorem dX7_advance_55 : decode cX7_advance 55 = .ok (.istore 4, 2) := by decide +kernel
theorem dX7_advance_57 : decode cX7_advance 57 = .ok (.aload_n 0, 1) := by decide +kernel
theorem dX7_advance_58 : decode cX7_advance 58 = .ok (.dup, 1) := by decide +kernel
theorem dX7_advance_59 : decode cX7_advance 59 = .ok (.getfield 41, 3) := by decide +kernel
theorem dX7_advance_62 : decode cX7_advance 62 = .ok (.iload 4, 2) := by decide +kernel
theorem dX7_advance_64 : decode cX7_advance 64 = .ok (.iadd, 1) := by decide +kernel
theorem dX7_advance_65 : decode cX7_advance 65 = .ok (.putfield 41, 3) := by decide +kernel
theorem dX7_advance_68 : decode cX7_advance 68 = .ok (.aload_n 0, 1) := by decide +kernel
theorem dX7_advance_69 : decode cX7_advance 69 = .ok (.aload_n 2, 1) := by decide +kernel
theorem dX7_advance_70 : decode cX7_advance 70 = .ok (.getfield 59, 3) := by decide +kernel
theorem dX7_advance_73 : decode cX7_advance 73 = .ok (.iconst 1, 1) := by decide +kernel
theorem dX7_advance_74 : decode cX7_advance 74 = .ok (.iconst 2, 1) := by decide +kernel
theorem dX7_advance_75 : decode cX7_advance 75 = .ok (.iload 4, 2) := by decide +kernel
theorem dX7_advance_77 : decode cX7_advance 77 = .ok (.imul, 1) := by decide +kernel
theorem dX7_advance_78 : decode cX7_advance 78 = .ok (.iadd, 1) := by decide +kernel
theorem dX7_advance_79 : decode cX7_advance 79 = .ok (.invokevirtual 62, 3) := by decide +kernel
theorem dX7_advance_82 : decode cX7_advance 82 = .ok (.iload 4, 2) := by decide +kernel
theorem dX7_advance_84 : decode cX7_advance 84 = .ok (.ireturn, 1) := by decide +kernel
theorem dX7_moveOn_0 : decode cX7_moveOn 0 = .ok (.iconst 0, 1) := by decide +kernel
theorem dX7_moveOn_1 : decode cX7_moveOn 1 = .ok (.istore_n 3, 1) := by decide +kernel
theorem dX7_moveOn_2 : decode cX7_moveOn 2 = .ok (.iload_n 3, 1) := by decide +kernel
theorem dX7_moveOn_3 : decode cX7_moveOn 3 = .ok (.iload_n 1, 1) := by decide +kernel
theorem dX7_moveOn_4 : decode cX7_moveOn 4 = .ok (.if_icmp .ge 49, 3) := by decide +kernel
theorem dX7_moveOn_7 : decode cX7_moveOn 7 = .ok (.aload_n 0, 1) := by decide +kernel
theorem dX7_moveOn_8 : decode cX7_moveOn 8 = .ok (.getfield 28, 3) := by decide +kernel
theorem dX7_moveOn_11 : decode cX7_moveOn 11 = .ok (.iload_n 3, 1) := by decide +kernel
theorem dX7_moveOn_12 : decode cX7_moveOn 12 = .ok (.ishr, 1) := by decide +kernel
theorem dX7_moveOn_13 : decode cX7_moveOn 13 = .ok (.iconst 1, 1) := by decide +kernel
theorem dX7_moveOn_14 : decode cX7_moveOn 14 = .ok (.iand, 1) := by decide +kernel
theorem dX7_moveOn_15 : decode cX7_moveOn 15 = .ok (.ifCond .eq 7, 3) := by decide +kernel
theorem dX7_moveOn_18 : decode cX7_moveOn 18 = .ok (.iload_n 2, 1) := by decide +kernel
theorem dX7_moveOn_19 : decode cX7_moveOn 19 = .ok (.goto 5, 3) := by decide +kernel
theorem dX7_moveOn_22 : decode cX7_moveOn 22 = .ok (.bipush (-2), 2) := by decide +kernel
theorem dX7_moveOn_24 : decode cX7_moveOn 24 = .ok (.istore 4, 2) := by decide +kernel
theorem dX7_moveOn_26 : decode cX7_moveOn 26 = .ok (.aload_n 0, 1) := by decide +kernel
theorem dX7_moveOn_27 : decode cX7_moveOn 27 = .ok (.getfield 9, 3) := by decide +kernel
theorem dX7_moveOn_30 : decode cX7_moveOn 30 = .ok (.iload_n 3, 1) := by decide +kernel
theorem dX7_moveOn_31 : decode cX7_moveOn 31 = .ok (.aload_n 0, 1) := by decide +kernel
theorem dX7_moveOn_32 : decode cX7_moveOn 32 = .ok (.getfield 9, 3) := by decide +kernel
theorem dX7_moveOn_35 : decode cX7_moveOn 35 = .ok (.iload_n 3, 1) := by decide +kernel
theorem dX7_moveOn_36 : decode cX7_moveOn 36 = .ok (.iaload, 1) := by decide +kernel
theorem dX7_moveOn_37 : decode cX7_moveOn 37 = .ok (.iload 4, 2) := by decide +kernel
theorem dX7_moveOn_39 : decode cX7_moveOn 39 = .ok (.iadd, 1) := by decide +kernel
theorem dX7_moveOn_40 : decode cX7_moveOn 40 = .ok (.iconst 0, 1) := by decide +kernel
theorem dX7_moveOn_41 : decode cX7_moveOn 41 = .ok (.bipush 99, 2) := by decide +kernel
theorem dX7_moveOn_43 : decode cX7_moveOn 43 = .ok (.invokestatic 66, 3) := by decide +kernel
theorem dX7_moveOn_46 : decode cX7_moveOn 46 = .ok (.iastore, 1) := by decide +kernel
theorem dX7_moveOn_47 : decode cX7_moveOn 47 = .ok (.iinc 3 1, 3) := by decide +kernel
theorem dX7_moveOn_50 : decode cX7_moveOn 50 = .ok (.goto (-48), 3) := by decide +kernel
theorem dX7_moveOn_53 : decode cX7_moveOn 53 = .ok (.aload_n 0, 1) := by decide +kernel
theorem dX7_moveOn_54 : decode cX7_moveOn 54 = .ok (.dup, 1) := by decide +kernel
theorem dX7_moveOn_55 : decode cX7_moveOn 55 = .ok (.getfield 25, 3) := by decide +kernel
theorem dX7_moveOn_58 : decode cX7_moveOn 58 = .ok (.iconst 1, 1) := by decide +kernel
theorem dX7_moveOn_59 : decode cX7_moveOn 59 = .ok (.iadd, 1) := by decide +kernel
theorem dX7_moveOn_60 : decode cX7_moveOn 60 = .ok (.putfield 25, 3) := by decide +kernel
theorem dX7_moveOn_63 : decode cX7_moveOn 63 = .ok (.aload_n 0, 1) := by decide +kernel
theorem dX7_moveOn_64 : decode cX7_moveOn 64 = .ok (.iconst 0, 1) := by decide +kernel
theorem dX7_moveOn_65 : decode cX7_moveOn 65 = .ok (.putfield 37, 3) := by decide +kernel
theorem dX7_moveOn_68 : decode cX7_moveOn 68 = .ok (.return_, 1) := by decide +kernel
theorem dX7_takeHold_0 : decode cX7_takeHold 0 = .ok (.aload_n 1, 1) := by decide +kernel
theorem dX7_takeHold_1 : decode cX7_takeHold 1 = .ok (.iload_n 2, 1) := by decide +kernel
theorem dX7_takeHold_2 : decode cX7_takeHold 2 = .ok (.invokevirtual 70, 3) := by decide +kernel
theorem dX7_takeHold_5 : decode cX7_takeHold 5 = .ok (.ifCond .ne 5, 3) := by decide +kernel
theorem dX7_takeHold_8 : decode cX7_takeHold 8 = .ok (.iconst (-1), 1) := by decide +kernel
theorem dX7_takeHold_9 : decode cX7_takeHold 9 = .ok (.ireturn, 1) := by decide +kernel
theorem dX7_takeHold_10 : decode cX7_takeHold 10 = .ok (.aload_n 0, 1) := by decide +kernel
theorem dX7_takeHold_11 : decode cX7_takeHold 11 = .ok (.getfield 28, 3) := by decide +kernel
theorem dX7_takeHold_14 : decode cX7_takeHold 14 = .ok (.iload_n 2, 1) := by decide +kernel
theorem dX7_takeHold_15 : decode cX7_takeHold 15 = .ok (.ishr, 1) := by decide +kernel
theorem dX7_takeHold_16 : decode cX7_takeHold 16 = .ok (.iconst 1, 1) := by decide +kernel
theorem dX7_takeHold_17 : decode cX7_takeHold 17 = .ok (.iand, 1) := by decide +kernel
theorem dX7_takeHold_18 : decode cX7_takeHold 18 = .ok (.ifCond .eq 6, 3) := by decide +kernel
theorem dX7_takeHold_21 : decode cX7_takeHold 21 = .ok (.bipush (-2), 2) := by decide +kernel
theorem dX7_takeHold_23 : decode cX7_takeHold 23 = .ok (.ireturn, 1) := by decide +kernel
theorem dX7_takeHold_24 : decode cX7_takeHold 24 = .ok (.aload_n 0, 1) := by decide +kernel
theorem dX7_takeHold_25 : decode cX7_takeHold 25 = .ok (.getfield 28, 3) := by decide +kernel
theorem dX7_takeHold_28 : decode cX7_takeHold 28 = .ok (.invokestatic 74, 3) := by decide +kernel
theorem dX7_takeHold_31 : decode cX7_takeHold 31 = .ok (.bipush 6, 2) := by decide +kernel
theorem dX7_takeHold_33 : decode cX7_takeHold 33 = .ok (.if_icmp .lt 6, 3) := by decide +kernel
theorem dX7_takeHold_36 : decode cX7_takeHold 36 = .ok (.bipush (-3), 2) := by decide +kernel
theorem dX7_takeHold_38 : decode cX7_takeHold 38 = .ok (.ireturn, 1) := by decide +kernel
theorem dX7_takeHold_39 : decode cX7_takeHold 39 = .ok (.aload_n 0, 1) := by decide +kernel
theorem dX7_takeHold_40 : decode cX7_takeHold 40 = .ok (.dup, 1) := by decide +kernel
theorem dX7_takeHold_41 : decode cX7_takeHold 41 = .ok (.getfield 28, 3) := by decide +kernel
theorem dX7_takeHold_44 : decode cX7_takeHold 44 = .ok (.iconst 1, 1) := by decide +kernel
theorem dX7_takeHold_45 : decode cX7_takeHold 45 = .ok (.iload_n 2, 1) := by decide +kernel
theorem dX7_takeHold_46 : decode cX7_takeHold 46 = .ok (.ishl, 1) := by decide +kernel
theorem dX7_takeHold_47 : decode cX7_takeHold 47 = .ok (.ior, 1) := by decide +kernel
theorem dX7_takeHold_48 : decode cX7_takeHold 48 = .ok (.putfield 28, 3) := by decide +kernel
theorem dX7_takeHold_51 : decode cX7_takeHold 51 = .ok (.aload_n 0, 1) := by decide +kernel
theorem dX7_takeHold_52 : decode cX7_takeHold 52 = .ok (.getfield 28, 3) := by decide +kernel
theorem dX7_takeHold_55 : decode cX7_takeHold 55 = .ok (.invokestatic 74, 3) := by decide +kernel
theorem dX7_takeHold_58 : decode cX7_takeHold 58 = .ok (.ireturn, 1) := by decide +kernel
theorem dX7_letGo_0 : decode cX7_letGo 0 = .ok (.aload_n 1, 1) := by decide +kernel
theorem dX7_letGo_1 : decode cX7_letGo 1 = .ok (.iload_n 2, 1) := by decide +kernel
theorem dX7_letGo_2 : decode cX7_letGo 2 = .ok (.invokevirtual 70, 3) := by decide +kernel
theorem dX7_letGo_5 : decode cX7_letGo 5 = .ok (.ifCond .ne 5, 3) := by decide +kernel
theorem dX7_letGo_8 : decode cX7_letGo 8 = .ok (.iconst (-1), 1) := by decide +kernel
theorem dX7_letGo_9 : decode cX7_letGo 9 = .ok (.ireturn, 1) := by decide +kernel
theorem dX7_letGo_10 : decode cX7_letGo 10 = .ok (.aload_n 0, 1) := by decide +kernel
theorem dX7_letGo_11 : decode cX7_letGo 11 = .ok (.getfield 28, 3) := by decide +kernel
theorem dX7_letGo_14 : decode cX7_letGo 14 = .ok (.iload_n 2, 1) := by decide +kernel
theorem dX7_letGo_15 : decode cX7_letGo 15 = .ok (.ishr, 1) := by decide +kernel
theorem dX7_letGo_16 : decode cX7_letGo 16 = .ok (.iconst 1, 1) := by decide +kernel
theorem dX7_letGo_17 : decode cX7_letGo 17 = .ok (.iand, 1) := by decide +kernel
theorem dX7_letGo_18 : decode cX7_letGo 18 = .ok (.ifCond .ne 6, 3) := by decide +kernel
theorem dX7_letGo_21 : decode cX7_letGo 21 = .ok (.bipush (-2), 2) := by decide +kernel
theorem dX7_letGo_23 : decode cX7_letGo 23 = .ok (.ireturn, 1) := by decide +kernel
theorem dX7_letGo_24 : decode cX7_letGo 24 = .ok (.aload_n 0, 1) := by decide +kernel
theorem dX7_letGo_25 : decode cX7_letGo 25 = .ok (.dup, 1) := by decide +kernel
theorem dX7_letGo_26 : decode cX7_letGo 26 = .ok (.getfield 28, 3) := by decide +kernel
theorem dX7_letGo_29 : decode cX7_letGo 29 = .ok (.iconst 1, 1) := by decide +kernel
theorem dX7_letGo_30 : decode cX7_letGo 30 = .ok (.iload_n 2, 1) := by decide +kernel
theorem dX7_letGo_31 : decode cX7_letGo 31 = .ok (.ishl, 1) := by decide +kernel
theorem dX7_letGo_32 : decode cX7_letGo 32 = .ok (.iconst (-1), 1) := by decide +kernel
theorem dX7_letGo_33 : decode cX7_letGo 33 = .ok (.ixor, 1) := by decide +kernel
theorem dX7_letGo_34 : decode cX7_letGo 34 = .ok (.iand, 1) := by decide +kernel
theorem dX7_letGo_35 : decode cX7_letGo 35 = .ok (.putfield 28, 3) := by decide +kernel
theorem dX7_letGo_38 : decode cX7_letGo 38 = .ok (.aload_n 0, 1) := by decide +kernel
theorem dX7_letGo_39 : decode cX7_letGo 39 = .ok (.getfield 28, 3) := by decide +kernel
theorem dX7_letGo_42 : decode cX7_letGo 42 = .ok (.invokestatic 74, 3) := by decide +kernel
theorem dX7_letGo_45 : decode cX7_letGo 45 = .ok (.ireturn, 1) := by decide +kernel
theorem dX7_follow_0 : decode cX7_follow 0 = .ok (.iload_n 1, 1) := by decide +kernel
theorem dX7_follow_1 : decode cX7_follow 1 = .ok (.ifCond .lt 8, 3) := by decide +kernel
theorem dX7_follow_4 : decode cX7_follow 4 = .ok (.iload_n 1, 1) := by decide +kernel
theorem dX7_follow_5 : decode cX7_follow 5 = .ok (.iconst 4, 1) := by decide +kernel
theorem dX7_follow_6 : decode cX7_follow 6 = .ok (.if_icmp .lt 5, 3) := by decide +kernel
theorem dX7_follow_9 : decode cX7_follow 9 = .ok (.iconst (-1), 1) := by decide +kernel
theorem dX7_follow_10 : decode cX7_follow 10 = .ok (.ireturn, 1) := by decide +kernel
theorem dX7_follow_11 : decode cX7_follow 11 = .ok (.iload_n 1, 1) := by decide +kernel
theorem dX7_follow_12 : decode cX7_follow 12 = .ok (.aload_n 0, 1) := by decide +kernel
theorem dX7_follow_13 : decode cX7_follow 13 = .ok (.getfield 31, 3) := by decide +kernel
theorem dX7_follow_16 : decode cX7_follow 16 = .ok (.if_icmp .ne 6, 3) := by decide +kernel
theorem dX7_follow_19 : decode cX7_follow 19 = .ok (.bipush (-2), 2) := by decide +kernel
theorem dX7_follow_21 : decode cX7_follow 21 = .ok (.ireturn, 1) := by decide +kernel
theorem dX7_follow_22 : decode cX7_follow 22 = .ok (.aload_n 0, 1) := by decide +kernel
theorem dX7_follow_23 : decode cX7_follow 23 = .ok (.getfield 31, 3) := by decide +kernel
theorem dX7_follow_26 : decode cX7_follow 26 = .ok (.istore_n 2, 1) := by decide +kernel
theorem dX7_follow_27 : decode cX7_follow 27 = .ok (.aload_n 0, 1) := by decide +kernel
theorem dX7_follow_28 : decode cX7_follow 28 = .ok (.iload_n 1, 1) := by decide +kernel
theorem dX7_follow_29 : decode cX7_follow 29 = .ok (.putfield 31, 3) := by decide +kernel
theorem dX7_follow_32 : decode cX7_follow 32 = .ok (.iload_n 2, 1) := by decide +kernel
theorem dX7_follow_33 : decode cX7_follow 33 = .ok (.ireturn, 1) := by decide +kernel
theorem dX7_speak_0 : decode cX7_speak 0 = .ok (.aload_n 2, 1) := by decide +kernel
theorem dX7_speak_1 : decode cX7_speak 1 = .ok (.iload_n 3, 1) := by decide +kernel
theorem dX7_speak_2 : decode cX7_speak 2 = .ok (.invokevirtual 79, 3) := by decide +kernel
theorem dX7_speak_5 : decode cX7_speak 5 = .ok (.ifCond .ne 5, 3) := by decide +kernel
theorem dX7_speak_8 : decode cX7_speak 8 = .ok (.iconst (-1), 1) := by decide +kernel
