theorem dX7_speak_9 : decode cX7_speak 9 = .ok (.ireturn, 1) := by decide +kernel
theorem dX7_speak_10 : decode cX7_speak 10 = .ok (.aload_n 0, 1) := by decide +kernel
theorem dX7_speak_11 : decode cX7_speak 11 = .ok (.aload_n 1, 1) := by decide +kernel
theorem dX7_speak_12 : decode cX7_speak 12 = .ok (.aload_n 2, 1) := by decide +kernel
theorem dX7_speak_13 : decode cX7_speak 13 = .ok (.iload_n 3, 1) := by decide +kernel
theorem dX7_speak_14 : decode cX7_speak 14 = .ok (.invokevirtual 82, 3) := by decide +kernel
theorem dX7_speak_17 : decode cX7_speak 17 = .ok (.istore 4, 2) := by decide +kernel
theorem dX7_speak_19 : decode cX7_speak 19 = .ok (.iload 4, 2) := by decide +kernel
theorem dX7_speak_21 : decode cX7_speak 21 = .ok (.ifCond .ne 33, 3) := by decide +kernel
theorem dX7_speak_24 : decode cX7_speak 24 = .ok (.aload_n 0, 1) := by decide +kernel
theorem dX7_speak_25 : decode cX7_speak 25 = .ok (.aload_n 2, 1) := by decide +kernel
theorem dX7_speak_26 : decode cX7_speak 26 = .ok (.aload_n 0, 1) := by decide +kernel
theorem dX7_speak_27 : decode cX7_speak 27 = .ok (.getfield 15, 3) := by decide +kernel
theorem dX7_speak_30 : decode cX7_speak 30 = .ok (.iload_n 3, 1) := by decide +kernel
theorem dX7_speak_31 : decode cX7_speak 31 = .ok (.invokevirtual 86, 3) := by decide +kernel
theorem dX7_speak_34 : decode cX7_speak 34 = .ok (.putfield 15, 3) := by decide +kernel
theorem dX7_speak_37 : decode cX7_speak 37 = .ok (.aload_n 0, 1) := by decide +kernel
theorem dX7_speak_38 : decode cX7_speak 38 = .ok (.dup, 1) := by decide +kernel
theorem dX7_speak_39 : decode cX7_speak 39 = .ok (.getfield 34, 3) := by decide +kernel
theorem dX7_speak_42 : decode cX7_speak 42 = .ok (.iconst 1, 1) := by decide +kernel
theorem dX7_speak_43 : decode cX7_speak 43 = .ok (.iload_n 3, 1) := by decide +kernel
theorem dX7_speak_44 : decode cX7_speak 44 = .ok (.ishl, 1) := by decide +kernel
theorem dX7_speak_45 : decode cX7_speak 45 = .ok (.ior, 1) := by decide +kernel
theorem dX7_speak_46 : decode cX7_speak 46 = .ok (.putfield 34, 3) := by decide +kernel
theorem dX7_speak_49 : decode cX7_speak 49 = .ok (.aload_n 0, 1) := by decide +kernel
theorem dX7_speak_50 : decode cX7_speak 50 = .ok (.iconst 1, 1) := by decide +kernel
theorem dX7_speak_51 : decode cX7_speak 51 = .ok (.putfield 37, 3) := by decide +kernel
theorem dX7_speak_54 : decode cX7_speak 54 = .ok (.iload 4, 2) := by decide +kernel
theorem dX7_speak_56 : decode cX7_speak 56 = .ok (.ifCond .ne 10, 3) := by decide +kernel
theorem dX7_speak_59 : decode cX7_speak 59 = .ok (.aload_n 0, 1) := by decide +kernel
theorem dX7_speak_60 : decode cX7_speak 60 = .ok (.getfield 15, 3) := by decide +kernel
theorem dX7_speak_63 : decode cX7_speak 63 = .ok (.goto 5, 3) := by decide +kernel
theorem dX7_speak_66 : decode cX7_speak 66 = .ok (.iload 4, 2) := by decide +kernel
theorem dX7_speak_68 : decode cX7_speak 68 = .ok (.ireturn, 1) := by decide +kernel
theorem dX7_hindranceTo_0 : decode cX7_hindranceTo 0 = .ok (.aload_n 0, 1) := by decide +kernel
theorem dX7_hindranceTo_1 : decode cX7_hindranceTo 1 = .ok (.getfield 34, 3) := by decide +kernel
theorem dX7_hindranceTo_4 : decode cX7_hindranceTo 4 = .ok (.iload_n 3, 1) := by decide +kernel
theorem dX7_hindranceTo_5 : decode cX7_hindranceTo 5 = .ok (.ishr, 1) := by decide +kernel
theorem dX7_hindranceTo_6 : decode cX7_hindranceTo 6 = .ok (.iconst 1, 1) := by decide +kernel
theorem dX7_hindranceTo_7 : decode cX7_hindranceTo 7 = .ok (.iand, 1) := by decide +kernel
theorem dX7_hindranceTo_8 : decode cX7_hindranceTo 8 = .ok (.ifCond .eq 6, 3) := by decide +kernel
theorem dX7_hindranceTo_11 : decode cX7_hindranceTo 11 = .ok (.bipush (-2), 2) := by decide +kernel
theorem dX7_hindranceTo_13 : decode cX7_hindranceTo 13 = .ok (.ireturn, 1) := by decide +kernel
theorem dX7_hindranceTo_14 : decode cX7_hindranceTo 14 = .ok (.aload_n 2, 1) := by decide +kernel
theorem dX7_hindranceTo_15 : decode cX7_hindranceTo 15 = .ok (.getfield 90, 3) := by decide +kernel
theorem dX7_hindranceTo_18 : decode cX7_hindranceTo 18 = .ok (.iload_n 3, 1) := by decide +kernel
theorem dX7_hindranceTo_19 : decode cX7_hindranceTo 19 = .ok (.iaload, 1) := by decide +kernel
theorem dX7_hindranceTo_20 : decode cX7_hindranceTo 20 = .ok (.aload_n 0, 1) := by decide +kernel
theorem dX7_hindranceTo_21 : decode cX7_hindranceTo 21 = .ok (.getfield 31, 3) := by decide +kernel
theorem dX7_hindranceTo_24 : decode cX7_hindranceTo 24 = .ok (.ishr, 1) := by decide +kernel
theorem dX7_hindranceTo_25 : decode cX7_hindranceTo 25 = .ok (.iconst 1, 1) := by decide +kernel
theorem dX7_hindranceTo_26 : decode cX7_hindranceTo 26 = .ok (.iand, 1) := by decide +kernel
theorem dX7_hindranceTo_27 : decode cX7_hindranceTo 27 = .ok (.ifCond .ne 6, 3) := by decide +kernel
theorem dX7_hindranceTo_30 : decode cX7_hindranceTo 30 = .ok (.bipush (-3), 2) := by decide +kernel
theorem dX7_hindranceTo_32 : decode cX7_hindranceTo 32 = .ok (.ireturn, 1) := by decide +kernel
theorem dX7_hindranceTo_33 : decode cX7_hindranceTo 33 = .ok (.aload_n 0, 1) := by decide +kernel
theorem dX7_hindranceTo_34 : decode cX7_hindranceTo 34 = .ok (.getfield 37, 3) := by decide +kernel
theorem dX7_hindranceTo_37 : decode cX7_hindranceTo 37 = .ok (.ifCond .eq 6, 3) := by decide +kernel
theorem dX7_hindranceTo_40 : decode cX7_hindranceTo 40 = .ok (.bipush (-4), 2) := by decide +kernel
theorem dX7_hindranceTo_42 : decode cX7_hindranceTo 42 = .ok (.ireturn, 1) := by decide +kernel
theorem dX7_hindranceTo_43 : decode cX7_hindranceTo 43 = .ok (.aload_n 0, 1) := by decide +kernel
theorem dX7_hindranceTo_44 : decode cX7_hindranceTo 44 = .ok (.getfield 25, 3) := by decide +kernel
theorem dX7_hindranceTo_47 : decode cX7_hindranceTo 47 = .ok (.aload_n 1, 1) := by decide +kernel
theorem dX7_hindranceTo_48 : decode cX7_hindranceTo 48 = .ok (.getfield 44, 3) := by decide +kernel
theorem dX7_hindranceTo_51 : decode cX7_hindranceTo 51 = .ok (.if_icmp .lt 8, 3) := by decide +kernel
theorem dX7_hindranceTo_54 : decode cX7_hindranceTo 54 = .ok (.bipush (-5), 2) := by decide +kernel
theorem dX7_hindranceTo_56 : decode cX7_hindranceTo 56 = .ok (.goto 4, 3) := by decide +kernel
theorem dX7_hindranceTo_59 : decode cX7_hindranceTo 59 = .ok (.iconst 0, 1) := by decide +kernel
theorem dX7_hindranceTo_60 : decode cX7_hindranceTo 60 = .ok (.ireturn, 1) := by decide +kernel
theorem dX8_init_0 : decode cX8_init 0 = .ok (.aload_n 0, 1) := by decide +kernel
theorem dX8_init_1 : decode cX8_init 1 = .ok (.invokespecial 3, 3) := by decide +kernel
theorem dX8_init_4 : decode cX8_init 4 = .ok (.aload_n 0, 1) := by decide +kernel
theorem dX8_init_5 : decode cX8_init 5 = .ok (.aload_n 1, 1) := by decide +kernel
theorem dX8_init_6 : decode cX8_init 6 = .ok (.putfield 9, 3) := by decide +kernel
theorem dX8_init_9 : decode cX8_init 9 = .ok (.aload_n 0, 1) := by decide +kernel
theorem dX8_init_10 : decode cX8_init 10 = .ok (.aload_n 2, 1) := by decide +kernel
theorem dX8_init_11 : decode cX8_init 11 = .ok (.putfield 15, 3) := by decide +kernel
theorem dX8_init_14 : decode cX8_init 14 = .ok (.aload_n 0, 1) := by decide +kernel
theorem dX8_init_15 : decode cX8_init 15 = .ok (.aload_n 3, 1) := by decide +kernel
theorem dX8_init_16 : decode cX8_init 16 = .ok (.putfield 19, 3) := by decide +kernel
theorem dX8_init_19 : decode cX8_init 19 = .ok (.return_, 1) := by decide +kernel
theorem dX8_neededHere_0 : decode cX8_neededHere 0 = .ok (.aload_n 1, 1) := by decide +kernel
theorem dX8_neededHere_1 : decode cX8_neededHere 1 = .ok (.getfield 23, 3) := by decide +kernel
theorem dX8_neededHere_4 : decode cX8_neededHere 4 = .ok (.aload_n 0, 1) := by decide +kernel
theorem dX8_neededHere_5 : decode cX8_neededHere 5 = .ok (.getfield 9, 3) := by decide +kernel
theorem dX8_neededHere_8 : decode cX8_neededHere 8 = .ok (.aload_n 1, 1) := by decide +kernel
theorem dX8_neededHere_9 : decode cX8_neededHere 9 = .ok (.getfield 29, 3) := by decide +kernel
theorem dX8_neededHere_12 : decode cX8_neededHere 12 = .ok (.invokevirtual 32, 3) := by decide +kernel
theorem dX8_neededHere_15 : decode cX8_neededHere 15 = .ok (.iadd, 1) := by decide +kernel
theorem dX8_neededHere_16 : decode cX8_neededHere 16 = .ok (.ireturn, 1) := by decide +kernel
theorem dX8_strongest_0 : decode cX8_strongest 0 = .ok (.aload_n 0, 1) := by decide +kernel
theorem dX8_strongest_1 : decode cX8_strongest 1 = .ok (.getfield 19, 3) := by decide +kernel
theorem dX8_strongest_4 : decode cX8_strongest 4 = .ok (.aload_n 0, 1) := by decide +kernel
theorem dX8_strongest_5 : decode cX8_strongest 5 = .ok (.aload_n 1, 1) := by decide +kernel
theorem dX8_strongest_6 : decode cX8_strongest 6 = .ok (.aload_n 2, 1) := by decide +kernel
theorem dX8_strongest_7 : decode cX8_strongest 7 = .ok (.iload_n 3, 1) := by decide +kernel
theorem dX8_strongest_8 : decode cX8_strongest 8 = .ok (.invokevirtual 38, 3) := by decide +kernel
theorem dX8_strongest_11 : decode cX8_strongest 11 = .ok (.i2l, 1) := by decide +kernel
theorem dX8_strongest_12 : decode cX8_strongest 12 = .ok (.invokevirtual 42, 3) := by decide +kernel
theorem dX8_strongest_15 : decode cX8_strongest 15 = .ok (.aload_n 0, 1) := by decide +kernel
theorem dX8_strongest_16 : decode cX8_strongest 16 = .ok (.getfield 48, 3) := by decide +kernel
theorem dX8_strongest_19 : decode cX8_strongest 19 = .ok (.ireturn, 1) := by decide +kernel
theorem dX8_strongestOf_0 : decode cX8_strongestOf 0 = .ok (.iconst 0, 1) := by decide +kernel
theorem dX8_strongestOf_1 : decode cX8_strongestOf 1 = .ok (.istore 4, 2) := by decide +kernel
theorem dX8_strongestOf_3 : decode cX8_strongestOf 3 = .ok (.aload_n 0, 1) := by decide +kernel
theorem dX8_strongestOf_4 : decode cX8_strongestOf 4 = .ok (.iconst (-1), 1) := by decide +kernel
theorem dX8_strongestOf_5 : decode cX8_strongestOf 5 = .ok (.putfield 48, 3) := by decide +kernel
theorem dX8_strongestOf_8 : decode cX8_strongestOf 8 = .ok (.iconst 1, 1) := by decide +kernel
theorem dX8_strongestOf_9 : decode cX8_strongestOf 9 = .ok (.istore 5, 2) := by decide +kernel
theorem dX8_strongestOf_11 : decode cX8_strongestOf 11 = .ok (.iload 5, 2) := by decide +kernel
theorem dX8_strongestOf_13 : decode cX8_strongestOf 13 = .ok (.iconst 1, 1) := by decide +kernel
theorem dX8_strongestOf_14 : decode cX8_strongestOf 14 = .ok (.aload_n 0, 1) := by decide +kernel
theorem dX8_strongestOf_15 : decode cX8_strongestOf 15 = .ok (.getfield 15, 3) := by decide +kernel
theorem dX8_strongestOf_18 : decode cX8_strongestOf 18 = .ok (.getfield 51, 3) := by decide +kernel
theorem dX8_strongestOf_21 : decode cX8_strongestOf 21 = .ok (.ishl, 1) := by decide +kernel
theorem dX8_strongestOf_22 : decode cX8_strongestOf 22 = .ok (.if_icmp .ge 50, 3) := by decide +kernel
theorem dX8_strongestOf_25 : decode cX8_strongestOf 25 = .ok (.iload 5, 2) := by decide +kernel
theorem dX8_strongestOf_27 : decode cX8_strongestOf 27 = .ok (.invokestatic 56, 3) := by decide +kernel
theorem dX8_strongestOf_30 : decode cX8_strongestOf 30 = .ok (.iload_n 3, 1) := by decide +kernel
theorem dX8_strongestOf_31 : decode cX8_strongestOf 31 = .ok (.if_icmp .ne 35, 3) := by decide +kernel
theorem dX8_strongestOf_34 : decode cX8_strongestOf 34 = .ok (.aload_n 0, 1) := by decide +kernel
theorem dX8_strongestOf_35 : decode cX8_strongestOf 35 = .ok (.getfield 15, 3) := by decide +kernel
theorem dX8_strongestOf_38 : decode cX8_strongestOf 38 = .ok (.aload_n 2, 1) := by decide +kernel
theorem dX8_strongestOf_39 : decode cX8_strongestOf 39 = .ok (.iload 5, 2) := by decide +kernel
theorem dX8_strongestOf_41 : decode cX8_strongestOf 41 = .ok (.aload_n 1, 1) := by decide +kernel
theorem dX8_strongestOf_42 : decode cX8_strongestOf 42 = .ok (.invokevirtual 61, 3) := by decide +kernel
theorem dX8_strongestOf_45 : decode cX8_strongestOf 45 = .ok (.istore 6, 2) := by decide +kernel
theorem dX8_strongestOf_47 : decode cX8_strongestOf 47 = .ok (.iload 6, 2) := by decide +kernel
theorem dX8_strongestOf_49 : decode cX8_strongestOf 49 = .ok (.aload_n 0, 1) := by decide +kernel
theorem dX8_strongestOf_50 : decode cX8_strongestOf 50 = .ok (.getfield 48, 3) := by decide +kernel
theorem dX8_strongestOf_53 : decode cX8_strongestOf 53 = .ok (.if_icmp .le 13, 3) := by decide +kernel
theorem dX8_strongestOf_56 : decode cX8_strongestOf 56 = .ok (.iload 5, 2) := by decide +kernel
theorem dX8_strongestOf_58 : decode cX8_strongestOf 58 = .ok (.istore 4, 2) := by decide +kernel
theorem dX8_strongestOf_60 : decode cX8_strongestOf 60 = .ok (.aload_n 0, 1) := by decide +kernel
theorem dX8_strongestOf_61 : decode cX8_strongestOf 61 = .ok (.iload 6, 2) := by decide +kernel
theorem dX8_strongestOf_63 : decode cX8_strongestOf 63 = .ok (.putfield 48, 3) := by decide +kernel
theorem dX8_strongestOf_66 : decode cX8_strongestOf 66 = .ok (.iinc 5 1, 3) := by decide +kernel
theorem dX8_strongestOf_69 : decode cX8_strongestOf 69 = .ok (.goto (-58), 3) := by decide +kernel
theorem dX8_strongestOf_72 : decode cX8_strongestOf 72 = .ok (.iload 4, 2) := by decide +kernel
theorem dX8_strongestOf_74 : decode cX8_strongestOf 74 = .ok (.ireturn, 1) := by decide +kernel
theorem dX8_smallest_0 : decode cX8_smallest 0 = .ok (.aload_n 0, 1) := by decide +kernel
theorem dX8_smallest_1 : decode cX8_smallest 1 = .ok (.getfield 15, 3) := by decide +kernel
theorem dX8_smallest_4 : decode cX8_smallest 4 = .ok (.getfield 51, 3) := by decide +kernel
theorem dX8_smallest_7 : decode cX8_smallest 7 = .ok (.bipush 6, 2) := by decide +kernel
theorem dX8_smallest_9 : decode cX8_smallest 9 = .ok (.invokestatic 65, 3) := by decide +kernel
theorem dX8_smallest_12 : decode cX8_smallest 12 = .ok (.istore_n 3, 1) := by decide +kernel
theorem dX8_smallest_13 : decode cX8_smallest 13 = .ok (.iconst 1, 1) := by decide +kernel
theorem dX8_smallest_14 : decode cX8_smallest 14 = .ok (.istore 4, 2) := by decide +kernel
theorem dX8_smallest_16 : decode cX8_smallest 16 = .ok (.iload 4, 2) := by decide +kernel
theorem dX8_smallest_18 : decode cX8_smallest 18 = .ok (.iload_n 3, 1) := by decide +kernel
theorem dX8_smallest_19 : decode cX8_smallest 19 = .ok (.if_icmp .gt 49, 3) := by decide +kernel
theorem dX8_smallest_22 : decode cX8_smallest 22 = .ok (.aload_n 0, 1) := by decide +kernel
theorem dX8_smallest_23 : decode cX8_smallest 23 = .ok (.aload_n 1, 1) := by decide +kernel
theorem dX8_smallest_24 : decode cX8_smallest 24 = .ok (.aload_n 2, 1) := by decide +kernel
theorem dX8_smallest_25 : decode cX8_smallest 25 = .ok (.iload 4, 2) := by decide +kernel
theorem dX8_smallest_27 : decode cX8_smallest 27 = .ok (.invokevirtual 38, 3) := by decide +kernel
theorem dX8_smallest_30 : decode cX8_smallest 30 = .ok (.istore 5, 2) := by decide +kernel
theorem dX8_smallest_32 : decode cX8_smallest 32 = .ok (.aload_n 0, 1) := by decide +kernel
theorem dX8_smallest_33 : decode cX8_smallest 33 = .ok (.getfield 48, 3) := by decide +kernel
theorem dX8_smallest_36 : decode cX8_smallest 36 = .ok (.aload_n 0, 1) := by decide +kernel
theorem dX8_smallest_37 : decode cX8_smallest 37 = .ok (.aload_n 1, 1) := by decide +kernel
theorem dX8_smallest_38 : decode cX8_smallest 38 = .ok (.invokevirtual 71, 3) := by decide +kernel
theorem dX8_smallest_41 : decode cX8_smallest 41 = .ok (.if_icmp .lt 21, 3) := by decide +kernel
theorem dX8_smallest_44 : decode cX8_smallest 44 = .ok (.aload_n 0, 1) := by decide +kernel
theorem dX8_smallest_45 : decode cX8_smallest 45 = .ok (.getfield 19, 3) := by decide +kernel
theorem dX8_smallest_48 : decode cX8_smallest 48 = .ok (.iload 5, 2) := by decide +kernel
theorem dX8_smallest_50 : decode cX8_smallest 50 = .ok (.i2l, 1) := by decide +kernel
theorem dX8_smallest_51 : decode cX8_smallest 51 = .ok (.aload_n 0, 1) := by decide +kernel
theorem dX8_smallest_52 : decode cX8_smallest 52 = .ok (.getfield 48, 3) := by decide +kernel
theorem dX8_smallest_55 : decode cX8_smallest 55 = .ok (.i2l, 1) := by decide +kernel
theorem dX8_smallest_56 : decode cX8_smallest 56 = .ok (.invokevirtual 75, 3) := by decide +kernel
theorem dX8_smallest_59 : decode cX8_smallest 59 = .ok (.iload 4, 2) := by decide +kernel
theorem dX8_smallest_61 : decode cX8_smallest 61 = .ok (.ireturn, 1) := by decide +kernel
theorem dX8_smallest_62 : decode cX8_smallest 62 = .ok (.iinc 4 1, 3) := by decide +kernel
theorem dX8_smallest_65 : decode cX8_smallest 65 = .ok (.goto (-49), 3) := by decide +kernel
theorem dX8_smallest_68 : decode cX8_smallest 68 = .ok (.bipush (-2), 2) := by decide +kernel
theorem dX8_smallest_70 : decode cX8_smallest 70 = .ok (.ireturn, 1) := by decide +kernel
theorem dX8_bestChange_0 : decode cX8_bestChange 0 = .ok (.bipush (-2), 2) := by decide +kernel
theorem dX8_bestChange_2 : decode cX8_bestChange 2 = .ok (.istore_n 3, 1) := by decide +kernel
theorem dX8_bestChange_3 : decode cX8_bestChange 3 = .ok (.iconst 0, 1) := by decide +kernel
theorem dX8_bestChange_4 : decode cX8_bestChange 4 = .ok (.istore 4, 2) := by decide +kernel
theorem dX8_bestChange_6 : decode cX8_bestChange 6 = .ok (.iload 4, 2) := by decide +kernel
theorem dX8_bestChange_8 : decode cX8_bestChange 8 = .ok (.aload_n 0, 1) := by decide +kernel
theorem dX8_bestChange_9 : decode cX8_bestChange 9 = .ok (.getfield 15, 3) := by decide +kernel
theorem dX8_bestChange_12 : decode cX8_bestChange 12 = .ok (.getfield 51, 3) := by decide +kernel
theorem dX8_bestChange_15 : decode cX8_bestChange 15 = .ok (.if_icmp .ge 102, 3) := by decide +kernel
theorem dX8_bestChange_18 : decode cX8_bestChange 18 = .ok (.iconst 0, 1) := by decide +kernel
theorem dX8_bestChange_19 : decode cX8_bestChange 19 = .ok (.istore 5, 2) := by decide +kernel
theorem dX8_bestChange_21 : decode cX8_bestChange 21 = .ok (.iload 5, 2) := by decide +kernel
theorem dX8_bestChange_23 : decode cX8_bestChange 23 = .ok (.aload_n 0, 1) := by decide +kernel
theorem dX8_bestChange_24 : decode cX8_bestChange 24 = .ok (.getfield 15, 3) := by decide +kernel
theorem dX8_bestChange_27 : decode cX8_bestChange 27 = .ok (.getfield 51, 3) := by decide +kernel
theorem dX8_bestChange_30 : decode cX8_bestChange 30 = .ok (.if_icmp .ge 81, 3) := by decide +kernel
theorem dX8_bestChange_33 : decode cX8_bestChange 33 = .ok (.aload_n 1, 1) := by decide +kernel
theorem dX8_bestChange_34 : decode cX8_bestChange 34 = .ok (.getfield 78, 3) := by decide +kernel
theorem dX8_bestChange_37 : decode cX8_bestChange 37 = .ok (.iload 4, 2) := by decide +kernel
theorem dX8_bestChange_39 : decode cX8_bestChange 39 = .ok (.ishr, 1) := by decide +kernel
theorem dX8_bestChange_40 : decode cX8_bestChange 40 = .ok (.iconst 1, 1) := by decide +kernel
theorem dX8_bestChange_41 : decode cX8_bestChange 41 = .ok (.iand, 1) := by decide +kernel
theorem dX8_bestChange_42 : decode cX8_bestChange 42 = .ok (.iconst 1, 1) := by decide +kernel
theorem dX8_bestChange_43 : decode cX8_bestChange 43 = .ok (.if_icmp .ne 62, 3) := by decide +kernel
theorem dX8_bestChange_46 : decode cX8_bestChange 46 = .ok (.aload_n 1, 1) := by decide +kernel
theorem dX8_bestChange_47 : decode cX8_bestChange 47 = .ok (.getfield 78, 3) := by decide +kernel
theorem dX8_bestChange_50 : decode cX8_bestChange 50 = .ok (.iload 5, 2) := by decide +kernel
theorem dX8_bestChange_52 : decode cX8_bestChange 52 = .ok (.ishr, 1) := by decide +kernel
theorem dX8_bestChange_53 : decode cX8_bestChange 53 = .ok (.iconst 1, 1) := by decide +kernel
theorem dX8_bestChange_54 : decode cX8_bestChange 54 = .ok (.iand, 1) := by decide +kernel
theorem dX8_bestChange_55 : decode cX8_bestChange 55 = .ok (.ifCond .ne 50, 3) := by decide +kernel
theorem dX8_bestChange_58 : decode cX8_bestChange 58 = .ok (.aload_n 0, 1) := by decide +kernel
theorem dX8_bestChange_59 : decode cX8_bestChange 59 = .ok (.getfield 15, 3) := by decide +kernel
theorem dX8_bestChange_62 : decode cX8_bestChange 62 = .ok (.aload_n 2, 1) := by decide +kernel
theorem dX8_bestChange_63 : decode cX8_bestChange 63 = .ok (.aload_n 1, 1) := by decide +kernel
theorem dX8_bestChange_64 : decode cX8_bestChange 64 = .ok (.getfield 78, 3) := by decide +kernel
theorem dX8_bestChange_67 : decode cX8_bestChange 67 = .ok (.iconst 1, 1) := by decide +kernel
theorem dX8_bestChange_68 : decode cX8_bestChange 68 = .ok (.iload 4, 2) := by decide +kernel
theorem dX8_bestChange_70 : decode cX8_bestChange 70 = .ok (.ishl, 1) := by decide +kernel
theorem dX8_bestChange_71 : decode cX8_bestChange 71 = .ok (.ixor, 1) := by decide +kernel
theorem dX8_bestChange_72 : decode cX8_bestChange 72 = .ok (.iconst 1, 1) := by decide +kernel
theorem dX8_bestChange_73 : decode cX8_bestChange 73 = .ok (.iload 5, 2) := by decide +kernel
theorem dX8_bestChange_75 : decode cX8_bestChange 75 = .ok (.ishl, 1) := by decide +kernel
theorem dX8_bestChange_76 : decode cX8_bestChange 76 = .ok (.ixor, 1) := by decide +kernel
theorem dX8_bestChange_77 : decode cX8_bestChange 77 = .ok (.aload_n 1, 1) := by decide +kernel
theorem dX8_bestChange_78 : decode cX8_bestChange 78 = .ok (.invokevirtual 61, 3) := by decide +kernel
theorem dX8_bestChange_81 : decode cX8_bestChange 81 = .ok (.istore 6, 2) := by decide +kernel
theorem dX8_bestChange_83 : decode cX8_bestChange 83 = .ok (.iload 6, 2) := by decide +kernel
theorem dX8_bestChange_85 : decode cX8_bestChange 85 = .ok (.iload_n 3, 1) := by decide +kernel
theorem dX8_bestChange_86 : decode cX8_bestChange 86 = .ok (.if_icmp .le 19, 3) := by decide +kernel
theorem dX8_bestChange_89 : decode cX8_bestChange 89 = .ok (.iload 6, 2) := by decide +kernel
theorem dX8_bestChange_91 : decode cX8_bestChange 91 = .ok (.istore_n 3, 1) := by decide +kernel
theorem dX8_bestChange_92 : decode cX8_bestChange 92 = .ok (.aload_n 0, 1) := by decide +kernel
theorem dX8_bestChange_93 : decode cX8_bestChange 93 = .ok (.getfield 19, 3) := by decide +kernel
theorem dX8_bestChange_96 : decode cX8_bestChange 96 = .ok (.iload 4, 2) := by decide +kernel
theorem dX8_bestChange_98 : decode cX8_bestChange 98 = .ok (.i2l, 1) := by decide +kernel
theorem dX8_bestChange_99 : decode cX8_bestChange 99 = .ok (.iload 5, 2) := by decide +kernel
theorem dX8_bestChange_101 : decode cX8_bestChange 101 = .ok (.i2l, 1) := by decide +kernel
theorem dX8_bestChange_102 : decode cX8_bestChange 102 = .ok (.invokevirtual 75, 3) := by decide +kernel
theorem dX8_bestChange_105 : decode cX8_bestChange 105 = .ok (.iinc 5 1, 3) := by decide +kernel
theorem dX8_bestChange_108 : decode cX8_bestChange 108 = .ok (.goto (-87), 3) := by decide +kernel
theorem dX8_bestChange_111 : decode cX8_bestChange 111 = .ok (.iinc 4 1, 3) := by decide +kernel
theorem dX8_bestChange_114 : decode cX8_bestChange 114 = .ok (.goto (-108), 3) := by decide +kernel
theorem dX8_bestChange_117 : decode cX8_bestChange 117 = .ok (.iload_n 3, 1) := by decide +kernel
theorem dX8_bestChange_118 : decode cX8_bestChange 118 = .ok (.ireturn, 1) := by decide +kernel
theorem dX8_needed_0 : decode cX8_needed 0 = .ok (.iconst 0, 1) := by decide +kernel
theorem dX8_needed_1 : decode cX8_needed 1 = .ok (.istore_n 3, 1) := by decide +kernel
theorem dX8_needed_2 : decode cX8_needed 2 = .ok (.iconst 0, 1) := by decide +kernel
theorem dX8_needed_3 : decode cX8_needed 3 = .ok (.istore 4, 2) := by decide +kernel
theorem dX8_needed_5 : decode cX8_needed 5 = .ok (.iload 4, 2) := by decide +kernel
theorem dX8_needed_7 : decode cX8_needed 7 = .ok (.aload_n 0, 1) := by decide +kernel
theorem dX8_needed_8 : decode cX8_needed 8 = .ok (.getfield 15, 3) := by decide +kernel
theorem dX8_needed_11 : decode cX8_needed 11 = .ok (.getfield 51, 3) := by decide +kernel
theorem dX8_needed_14 : decode cX8_needed 14 = .ok (.if_icmp .ge 54, 3) := by decide +kernel
theorem dX8_needed_17 : decode cX8_needed 17 = .ok (.aload_n 1, 1) := by decide +kernel
theorem dX8_needed_18 : decode cX8_needed 18 = .ok (.getfield 78, 3) := by decide +kernel
theorem dX8_needed_21 : decode cX8_needed 21 = .ok (.iload 4, 2) := by decide +kernel
theorem dX8_needed_23 : decode cX8_needed 23 = .ok (.ishr, 1) := by decide +kernel
theorem dX8_needed_24 : decode cX8_needed 24 = .ok (.iconst 1, 1) := by decide +kernel
theorem dX8_needed_25 : decode cX8_needed 25 = .ok (.iand, 1) := by decide +kernel
theorem dX8_needed_26 : decode cX8_needed 26 = .ok (.ifCond .eq 36, 3) := by decide +kernel
theorem dX8_needed_29 : decode cX8_needed 29 = .ok (.aload_n 0, 1) := by decide +kernel
theorem dX8_needed_30 : decode cX8_needed 30 = .ok (.getfield 15, 3) := by decide +kernel
theorem dX8_needed_33 : decode cX8_needed 33 = .ok (.aload_n 2, 1) := by decide +kernel
theorem dX8_needed_34 : decode cX8_needed 34 = .ok (.aload_n 1, 1) := by decide +kernel
theorem dX8_needed_35 : decode cX8_needed 35 = .ok (.getfield 78, 3) := by decide +kernel
theorem dX8_needed_38 : decode cX8_needed 38 = .ok (.iconst 1, 1) := by decide +kernel
theorem dX8_needed_39 : decode cX8_needed 39 = .ok (.iload 4, 2) := by decide +kernel
theorem dX8_needed_41 : decode cX8_needed 41 = .ok (.ishl, 1) := by decide +kernel
theorem dX8_needed_42 : decode cX8_needed 42 = .ok (.ixor, 1) := by decide +kernel
theorem dX8_needed_43 : decode cX8_needed 43 = .ok (.aload_n 1, 1) := by decide +kernel
theorem dX8_needed_44 : decode cX8_needed 44 = .ok (.invokevirtual 61, 3) := by decide +kernel
theorem dX8_needed_47 : decode cX8_needed 47 = .ok (.aload_n 0, 1) := by decide +kernel
theorem dX8_needed_48 : decode cX8_needed 48 = .ok (.aload_n 1, 1) := by decide +kernel
theorem dX8_needed_49 : decode cX8_needed 49 = .ok (.invokevirtual 71, 3) := by decide +kernel
theorem dX8_needed_52 : decode cX8_needed 52 = .ok (.if_icmp .ge 10, 3) := by decide +kernel
theorem dX8_needed_55 : decode cX8_needed 55 = .ok (.iload_n 3, 1) := by decide +kernel
theorem dX8_needed_56 : decode cX8_needed 56 = .ok (.iconst 1, 1) := by decide +kernel
theorem dX8_needed_57 : decode cX8_needed 57 = .ok (.iload 4, 2) := by decide +kernel
theorem dX8_needed_59 : decode cX8_needed 59 = .ok (.ishl, 1) := by decide +kernel
theorem dX8_needed_60 : decode cX8_needed 60 = .ok (.ior, 1) := by decide +kernel
theorem dX8_needed_61 : decode cX8_needed 61 = .ok (.istore_n 3, 1) := by decide +kernel
theorem dX8_needed_62 : decode cX8_needed 62 = .ok (.iinc 4 1, 3) := by decide +kernel
theorem dX8_needed_65 : decode cX8_needed 65 = .ok (.goto (-60), 3) := by decide +kernel
theorem dX8_needed_68 : decode cX8_needed 68 = .ok (.aload_n 0, 1) := by decide +kernel
theorem dX8_needed_69 : decode cX8_needed 69 = .ok (.getfield 19, 3) := by decide +kernel
theorem dX8_needed_72 : decode cX8_needed 72 = .ok (.iload_n 3, 1) := by decide +kernel
theorem dX8_needed_73 : decode cX8_needed 73 = .ok (.invokestatic 56, 3) := by decide +kernel
theorem dX8_needed_76 : decode cX8_needed 76 = .ok (.i2l, 1) := by decide +kernel
theorem dX8_needed_77 : decode cX8_needed 77 = .ok (.invokevirtual 42, 3) := by decide +kernel
theorem dX8_needed_80 : decode cX8_needed 80 = .ok (.iload_n 3, 1) := by decide +kernel
theorem dX8_needed_81 : decode cX8_needed 81 = .ok (.ireturn, 1) := by decide +kernel
theorem dX8_mostUneven_0 : decode cX8_mostUneven 0 = .ok (.bipush (-2), 2) := by decide +kernel
theorem dX8_mostUneven_2 : decode cX8_mostUneven 2 = .ok (.istore_n 2, 1) := by decide +kernel
theorem dX8_mostUneven_3 : decode cX8_mostUneven 3 = .ok (.iconst 0, 1) := by decide +kernel
theorem dX8_mostUneven_4 : decode cX8_mostUneven 4 = .ok (.istore_n 3, 1) := by decide +kernel
theorem dX8_mostUneven_5 : decode cX8_mostUneven 5 = .ok (.iload_n 3, 1) := by decide +kernel
theorem dX8_mostUneven_6 : decode cX8_mostUneven 6 = .ok (.aload_n 0, 1) := by decide +kernel
theorem dX8_mostUneven_7 : decode cX8_mostUneven 7 = .ok (.getfield 15, 3) := by decide +kernel
theorem dX8_mostUneven_10 : decode cX8_mostUneven 10 = .ok (.getfield 51, 3) := by decide +kernel
theorem dX8_mostUneven_13 : decode cX8_mostUneven 13 = .ok (.if_icmp .ge 97, 3) := by decide +kernel
theorem dX8_mostUneven_16 : decode cX8_mostUneven 16 = .ok (.iload_n 3, 1) := by decide +kernel
theorem dX8_mostUneven_17 : decode cX8_mostUneven 17 = .ok (.iconst 1, 1) := by decide +kernel
theorem dX8_mostUneven_18 : decode cX8_mostUneven 18 = .ok (.iadd, 1) := by decide +kernel
theorem dX8_mostUneven_19 : decode cX8_mostUneven 19 = .ok (.istore 4, 2) := by decide +kernel
theorem dX8_mostUneven_21 : decode cX8_mostUneven 21 = .ok (.iload 4, 2) := by decide +kernel
theorem dX8_mostUneven_23 : decode cX8_mostUneven 23 = .ok (.aload_n 0, 1) := by decide +kernel
theorem dX8_mostUneven_24 : decode cX8_mostUneven 24 = .ok (.getfield 15, 3) := by decide +kernel
theorem dX8_mostUneven_27 : decode cX8_mostUneven 27 = .ok (.getfield 51, 3) := by decide +kernel
theorem dX8_mostUneven_30 : decode cX8_mostUneven 30 = .ok (.if_icmp .ge 74, 3) := by decide +kernel
theorem dX8_mostUneven_33 : decode cX8_mostUneven 33 = .ok (.aload_n 1, 1) := by decide +kernel
theorem dX8_mostUneven_34 : decode cX8_mostUneven 34 = .ok (.getfield 78, 3) := by decide +kernel
theorem dX8_mostUneven_37 : decode cX8_mostUneven 37 = .ok (.iload_n 3, 1) := by decide +kernel
theorem dX8_mostUneven_38 : decode cX8_mostUneven 38 = .ok (.ishr, 1) := by decide +kernel
theorem dX8_mostUneven_39 : decode cX8_mostUneven 39 = .ok (.aload_n 1, 1) := by decide +kernel
theorem dX8_mostUneven_40 : decode cX8_mostUneven 40 = .ok (.getfield 78, 3) := by decide +kernel
theorem dX8_mostUneven_43 : decode cX8_mostUneven 43 = .ok (.iload 4, 2) := by decide +kernel
theorem dX8_mostUneven_45 : decode cX8_mostUneven 45 = .ok (.ishr, 1) := by decide +kernel
theorem dX8_mostUneven_46 : decode cX8_mostUneven 46 = .ok (.iand, 1) := by decide +kernel
theorem dX8_mostUneven_47 : decode cX8_mostUneven 47 = .ok (.iconst 1, 1) := by decide +kernel
theorem dX8_mostUneven_48 : decode cX8_mostUneven 48 = .ok (.iand, 1) := by decide +kernel
theorem dX8_mostUneven_49 : decode cX8_mostUneven 49 = .ok (.ifCond .eq 49, 3) := by decide +kernel
theorem dX8_mostUneven_52 : decode cX8_mostUneven 52 = .ok (.aload_n 0, 1) := by decide +kernel
theorem dX8_mostUneven_53 : decode cX8_mostUneven 53 = .ok (.getfield 15, 3) := by decide +kernel
theorem dX8_mostUneven_56 : decode cX8_mostUneven 56 = .ok (.getfield 81, 3) := by decide +kernel
theorem dX8_mostUneven_59 : decode cX8_mostUneven 59 = .ok (.iload_n 3, 1) := by decide +kernel
theorem dX8_mostUneven_60 : decode cX8_mostUneven 60 = .ok (.iaload, 1) := by decide +kernel
theorem dX8_mostUneven_61 : decode cX8_mostUneven 61 = .ok (.aload_n 0, 1) := by decide +kernel
theorem dX8_mostUneven_62 : decode cX8_mostUneven 62 = .ok (.getfield 15, 3) := by decide +kernel
theorem dX8_mostUneven_65 : decode cX8_mostUneven 65 = .ok (.getfield 81, 3) := by decide +kernel
theorem dX8_mostUneven_68 : decode cX8_mostUneven 68 = .ok (.iload 4, 2) := by decide +kernel
theorem dX8_mostUneven_70 : decode cX8_mostUneven 70 = .ok (.iaload, 1) := by decide +kernel
theorem dX8_mostUneven_71 : decode cX8_mostUneven 71 = .ok (.isub, 1) := by decide +kernel
theorem dX8_mostUneven_72 : decode cX8_mostUneven 72 = .ok (.invokestatic 85, 3) := by decide +kernel
theorem dX8_mostUneven_75 : decode cX8_mostUneven 75 = .ok (.istore 5, 2) := by decide +kernel
theorem dX8_mostUneven_77 : decode cX8_mostUneven 77 = .ok (.iload 5, 2) := by decide +kernel
theorem dX8_mostUneven_79 : decode cX8_mostUneven 79 = .ok (.iload_n 2, 1) := by decide +kernel
theorem dX8_mostUneven_80 : decode cX8_mostUneven 80 = .ok (.if_icmp .le 18, 3) := by decide +kernel
theorem dX8_mostUneven_83 : decode cX8_mostUneven 83 = .ok (.iload 5, 2) := by decide +kernel
theorem dX8_mostUneven_85 : decode cX8_mostUneven 85 = .ok (.istore_n 2, 1) := by decide +kernel
theorem dX8_mostUneven_86 : decode cX8_mostUneven 86 = .ok (.aload_n 0, 1) := by decide +kernel
theorem dX8_mostUneven_87 : decode cX8_mostUneven 87 = .ok (.getfield 19, 3) := by decide +kernel
theorem dX8_mostUneven_90 : decode cX8_mostUneven 90 = .ok (.iload_n 3, 1) := by decide +kernel
theorem dX8_mostUneven_91 : decode cX8_mostUneven 91 = .ok (.i2l, 1) := by decide +kernel
theorem dX8_mostUneven_92 : decode cX8_mostUneven 92 = .ok (.iload 4, 2) := by decide +kernel
theorem dX8_mostUneven_94 : decode cX8_mostUneven 94 = .ok (.i2l, 1) := by decide +kernel
theorem dX8_mostUneven_95 : decode cX8_mostUneven 95 = .ok (.invokevirtual 75, 3) := by decide +kernel
theorem dX8_mostUneven_98 : decode cX8_mostUneven 98 = .ok (.iinc 4 1, 3) := by decide +kernel
theorem dX8_mostUneven_101 : decode cX8_mostUneven 101 = .ok (.goto (-80), 3) := by decide +kernel
theorem dX8_mostUneven_104 : decode cX8_mostUneven 104 = .ok (.iinc 3 1, 3) := by decide +kernel
theorem dX8_mostUneven_107 : decode cX8_mostUneven 107 = .ok (.goto (-102), 3) := by decide +kernel
theorem dX8_mostUneven_110 : decode cX8_mostUneven 110 = .ok (.iload_n 2, 1) := by decide +kernel
theorem dX8_mostUneven_111 : decode cX8_mostUneven 111 = .ok (.ireturn, 1) := by decide +kernel
theorem dX8_chanceToStand_0 : decode cX8_chanceToStand 0 = .ok (.iconst 0, 1) := by decide +kernel
theorem dX8_chanceToStand_1 : decode cX8_chanceToStand 1 = .ok (.istore 4, 2) := by decide +kernel
theorem dX8_chanceToStand_3 : decode cX8_chanceToStand 3 = .ok (.iconst 1, 1) := by decide +kernel
theorem dX8_chanceToStand_4 : decode cX8_chanceToStand 4 = .ok (.istore 5, 2) := by decide +kernel
theorem dX8_chanceToStand_6 : decode cX8_chanceToStand 6 = .ok (.iconst 0, 1) := by decide +kernel
theorem dX8_chanceToStand_7 : decode cX8_chanceToStand 7 = .ok (.istore 6, 2) := by decide +kernel
theorem dX8_chanceToStand_9 : decode cX8_chanceToStand 9 = .ok (.iload 6, 2) := by decide +kernel
theorem dX8_chanceToStand_11 : decode cX8_chanceToStand 11 = .ok (.aload_n 1, 1) := by decide +kernel
theorem dX8_chanceToStand_12 : decode cX8_chanceToStand 12 = .ok (.getfield 78, 3) := by decide +kernel
theorem dX8_chanceToStand_15 : decode cX8_chanceToStand 15 = .ok (.invokestatic 56, 3) := by decide +kernel
theorem dX8_chanceToStand_18 : decode cX8_chanceToStand 18 = .ok (.if_icmp .ge 16, 3) := by decide +kernel
theorem dX8_chanceToStand_21 : decode cX8_chanceToStand 21 = .ok (.iload 5, 2) := by decide +kernel
theorem dX8_chanceToStand_23 : decode cX8_chanceToStand 23 = .ok (.bipush 10, 2) := by decide +kernel
theorem dX8_chanceToStand_25 : decode cX8_chanceToStand 25 = .ok (.imul, 1) := by decide +kernel
theorem dX8_chanceToStand_26 : decode cX8_chanceToStand 26 = .ok (.istore 5, 2) := by decide +kernel
theorem dX8_chanceToStand_28 : decode cX8_chanceToStand 28 = .ok (.iinc 6 1, 3) := by decide +kernel
theorem dX8_chanceToStand_31 : decode cX8_chanceToStand 31 = .ok (.goto (-22), 3) := by decide +kernel
theorem dX8_chanceToStand_34 : decode cX8_chanceToStand 34 = .ok (.iconst 0, 1) := by decide +kernel
theorem dX8_chanceToStand_35 : decode cX8_chanceToStand 35 = .ok (.istore 6, 2) := by decide +kernel
theorem dX8_chanceToStand_37 : decode cX8_chanceToStand 37 = .ok (.iload 6, 2) := by decide +kernel
theorem dX8_chanceToStand_39 : decode cX8_chanceToStand 39 = .ok (.iconst 1, 1) := by decide +kernel
theorem dX8_chanceToStand_40 : decode cX8_chanceToStand 40 = .ok (.aload_n 0, 1) := by decide +kernel
theorem dX8_chanceToStand_41 : decode cX8_chanceToStand 41 = .ok (.getfield 15, 3) := by decide +kernel
theorem dX8_chanceToStand_44 : decode cX8_chanceToStand 44 = .ok (.getfield 51, 3) := by decide +kernel
theorem dX8_chanceToStand_47 : decode cX8_chanceToStand 47 = .ok (.ishl, 1) := by decide +kernel
theorem dX8_chanceToStand_48 : decode cX8_chanceToStand 48 = .ok (.if_icmp .ge 56, 3) := by decide +kernel
theorem dX8_chanceToStand_51 : decode cX8_chanceToStand 51 = .ok (.iload 6, 2) := by decide +kernel
theorem dX8_chanceToStand_53 : decode cX8_chanceToStand 53 = .ok (.aload_n 1, 1) := by decide +kernel
theorem dX8_chanceToStand_54 : decode cX8_chanceToStand 54 = .ok (.getfield 78, 3) := by decide +kernel
theorem dX8_chanceToStand_57 : decode cX8_chanceToStand 57 = .ok (.iconst (-1), 1) := by decide +kernel
theorem dX8_chanceToStand_58 : decode cX8_chanceToStand 58 = .ok (.ixor, 1) := by decide +kernel
theorem dX8_chanceToStand_59 : decode cX8_chanceToStand 59 = .ok (.iand, 1) := by decide +kernel
theorem dX8_chanceToStand_60 : decode cX8_chanceToStand 60 = .ok (.ifCond .ne 38, 3) := by decide +kernel
theorem dX8_chanceToStand_63 : decode cX8_chanceToStand 63 = .ok (.aload_n 0, 1) := by decide +kernel
theorem dX8_chanceToStand_64 : decode cX8_chanceToStand 64 = .ok (.getfield 15, 3) := by decide +kernel
theorem dX8_chanceToStand_67 : decode cX8_chanceToStand 67 = .ok (.aload_n 2, 1) := by decide +kernel
theorem dX8_chanceToStand_68 : decode cX8_chanceToStand 68 = .ok (.iload 6, 2) := by decide +kernel
theorem dX8_chanceToStand_70 : decode cX8_chanceToStand 70 = .ok (.aload_n 1, 1) := by decide +kernel
theorem dX8_chanceToStand_71 : decode cX8_chanceToStand 71 = .ok (.invokevirtual 61, 3) := by decide +kernel
theorem dX8_chanceToStand_74 : decode cX8_chanceToStand 74 = .ok (.aload_n 0, 1) := by decide +kernel
theorem dX8_chanceToStand_75 : decode cX8_chanceToStand 75 = .ok (.aload_n 1, 1) := by decide +kernel
theorem dX8_chanceToStand_76 : decode cX8_chanceToStand 76 = .ok (.invokevirtual 71, 3) := by decide +kernel
theorem dX8_chanceToStand_79 : decode cX8_chanceToStand 79 = .ok (.if_icmp .lt 19, 3) := by decide +kernel
theorem dX8_chanceToStand_82 : decode cX8_chanceToStand 82 = .ok (.iload 4, 2) := by decide +kernel
theorem dX8_chanceToStand_84 : decode cX8_chanceToStand 84 = .ok (.aload_n 0, 1) := by decide +kernel
theorem dX8_chanceToStand_85 : decode cX8_chanceToStand 85 = .ok (.iload 6, 2) := by decide +kernel
theorem dX8_chanceToStand_87 : decode cX8_chanceToStand 87 = .ok (.aload_n 1, 1) := by decide +kernel
theorem dX8_chanceToStand_88 : decode cX8_chanceToStand 88 = .ok (.getfield 78, 3) := by decide +kernel
theorem dX8_chanceToStand_91 : decode cX8_chanceToStand 91 = .ok (.iload_n 3, 1) := by decide +kernel
theorem dX8_chanceToStand_92 : decode cX8_chanceToStand 92 = .ok (.invokevirtual 88, 3) := by decide +kernel
theorem dX8_chanceToStand_95 : decode cX8_chanceToStand 95 = .ok (.iadd, 1) := by decide +kernel
theorem dX8_chanceToStand_96 : decode cX8_chanceToStand 96 = .ok (.istore 4, 2) := by decide +kernel
theorem dX8_chanceToStand_98 : decode cX8_chanceToStand 98 = .ok (.iinc 6 1, 3) := by decide +kernel
theorem dX8_chanceToStand_101 : decode cX8_chanceToStand 101 = .ok (.goto (-64), 3) := by decide +kernel
theorem dX8_chanceToStand_104 : decode cX8_chanceToStand 104 = .ok (.iload 4, 2) := by decide +kernel
theorem dX8_chanceToStand_106 : decode cX8_chanceToStand 106 = .ok (.iload 5, 2) := by decide +kernel
theorem dX8_chanceToStand_108 : decode cX8_chanceToStand 108 = .ok (.invokestatic 92, 3) := by decide +kernel
theorem dX8_chanceToStand_111 : decode cX8_chanceToStand 111 = .ok (.istore 6, 2) := by decide +kernel
theorem dX8_chanceToStand_113 : decode cX8_chanceToStand 113 = .ok (.iload 6, 2) := by decide +kernel
theorem dX8_chanceToStand_115 : decode cX8_chanceToStand 115 = .ok (.ifCond .le 22, 3) := by decide +kernel
theorem dX8_chanceToStand_118 : decode cX8_chanceToStand 118 = .ok (.aload_n 0, 1) := by decide +kernel
theorem dX8_chanceToStand_119 : decode cX8_chanceToStand 119 = .ok (.getfield 19, 3) := by decide +kernel
theorem dX8_chanceToStand_122 : decode cX8_chanceToStand 122 = .ok (.iload 4, 2) := by decide +kernel
theorem dX8_chanceToStand_124 : decode cX8_chanceToStand 124 = .ok (.iload 6, 2) := by decide +kernel
theorem dX8_chanceToStand_126 : decode cX8_chanceToStand 126 = .ok (.idiv, 1) := by decide +kernel
theorem dX8_chanceToStand_127 : decode cX8_chanceToStand 127 = .ok (.i2l, 1) := by decide +kernel
theorem dX8_chanceToStand_128 : decode cX8_chanceToStand 128 = .ok (.iload 5, 2) := by decide +kernel
theorem dX8_chanceToStand_130 : decode cX8_chanceToStand 130 = .ok (.iload 6, 2) := by decide +kernel
theorem dX8_chanceToStand_132 : decode cX8_chanceToStand 132 = .ok (.idiv, 1) := by decide +kernel
theorem dX8_chanceToStand_133 : decode cX8_chanceToStand 133 = .ok (.i2l, 1) := by decide +kernel
theorem dX8_chanceToStand_134 : decode cX8_chanceToStand 134 = .ok (.invokevirtual 75, 3) := by decide +kernel
theorem dX8_chanceToStand_137 : decode cX8_chanceToStand 137 = .ok (.iconst 0, 1) := by decide +kernel
theorem dX8_chanceToStand_138 : decode cX8_chanceToStand 138 = .ok (.ireturn, 1) := by decide +kernel
theorem dX8_waysTo_0 : decode cX8_waysTo 0 = .ok (.iconst 1, 1) := by decide +kernel
theorem dX8_waysTo_1 : decode cX8_waysTo 1 = .ok (.istore 4, 2) := by decide +kernel
theorem dX8_waysTo_3 : decode cX8_waysTo 3 = .ok (.iconst 0, 1) := by decide +kernel
theorem dX8_waysTo_4 : decode cX8_waysTo 4 = .ok (.istore 5, 2) := by decide +kernel
theorem dX8_waysTo_6 : decode cX8_waysTo 6 = .ok (.iload 5, 2) := by decide +kernel
theorem dX8_waysTo_8 : decode cX8_waysTo 8 = .ok (.aload_n 0, 1) := by decide +kernel
theorem dX8_waysTo_9 : decode cX8_waysTo 9 = .ok (.getfield 15, 3) := by decide +kernel
theorem dX8_waysTo_12 : decode cX8_waysTo 12 = .ok (.getfield 51, 3) := by decide +kernel
theorem dX8_waysTo_15 : decode cX8_waysTo 15 = .ok (.if_icmp .ge 40, 3) := by decide +kernel
theorem dX8_waysTo_18 : decode cX8_waysTo 18 = .ok (.iload_n 2, 1) := by decide +kernel
theorem dX8_waysTo_19 : decode cX8_waysTo 19 = .ok (.iload 5, 2) := by decide +kernel
theorem dX8_waysTo_21 : decode cX8_waysTo 21 = .ok (.ishr, 1) := by decide +kernel
theorem dX8_waysTo_22 : decode cX8_waysTo 22 = .ok (.iconst 1, 1) := by decide +kernel
theorem dX8_waysTo_23 : decode cX8_waysTo 23 = .ok (.iand, 1) := by decide +kernel
theorem dX8_waysTo_24 : decode cX8_waysTo 24 = .ok (.ifCond .eq 25, 3) := by decide +kernel
theorem dX8_waysTo_27 : decode cX8_waysTo 27 = .ok (.iload 4, 2) := by decide +kernel
theorem dX8_waysTo_29 : decode cX8_waysTo 29 = .ok (.iload_n 1, 1) := by decide +kernel
theorem dX8_waysTo_30 : decode cX8_waysTo 30 = .ok (.iload 5, 2) := by decide +kernel
theorem dX8_waysTo_32 : decode cX8_waysTo 32 = .ok (.ishr, 1) := by decide +kernel
theorem dX8_waysTo_33 : decode cX8_waysTo 33 = .ok (.iconst 1, 1) := by decide +kernel
theorem dX8_waysTo_34 : decode cX8_waysTo 34 = .ok (.iand, 1) := by decide +kernel
theorem dX8_waysTo_35 : decode cX8_waysTo 35 = .ok (.ifCond .eq 10, 3) := by decide +kernel
theorem dX8_waysTo_38 : decode cX8_waysTo 38 = .ok (.bipush 10, 2) := by decide +kernel
theorem dX8_waysTo_40 : decode cX8_waysTo 40 = .ok (.iload_n 3, 1) := by decide +kernel
theorem dX8_waysTo_41 : decode cX8_waysTo 41 = .ok (.isub, 1) := by decide +kernel
theorem dX8_waysTo_42 : decode cX8_waysTo 42 = .ok (.goto 4, 3) := by decide +kernel
theorem dX8_waysTo_45 : decode cX8_waysTo 45 = .ok (.iload_n 3, 1) := by decide +kernel
theorem dX8_waysTo_46 : decode cX8_waysTo 46 = .ok (.imul, 1) := by decide +kernel
theorem dX8_waysTo_47 : decode cX8_waysTo 47 = .ok (.istore 4, 2) := by decide +kernel
theorem dX8_waysTo_49 : decode cX8_waysTo 49 = .ok (.iinc 5 1, 3) := by decide +kernel
theorem dX8_waysTo_52 : decode cX8_waysTo 52 = .ok (.goto (-46), 3) := by decide +kernel
theorem dX8_waysTo_55 : decode cX8_waysTo 55 = .ok (.iload 4, 2) := by decide +kernel
theorem dX8_waysTo_57 : decode cX8_waysTo 57 = .ok (.ireturn, 1) := by decide +kernel
theorem dX8_commonDivisor_0 : decode cX8_commonDivisor 0 = .ok (.iload_n 0, 1) := by decide +kernel
theorem dX8_commonDivisor_1 : decode cX8_commonDivisor 1 = .ok (.iload_n 1, 1) := by decide +kernel
theorem dX8_commonDivisor_2 : decode cX8_commonDivisor 2 = .ok (.invokestatic 95, 3) := by decide +kernel
theorem dX8_commonDivisor_5 : decode cX8_commonDivisor 5 = .ok (.istore_n 2, 1) := by decide +kernel
theorem dX8_commonDivisor_6 : decode cX8_commonDivisor 6 = .ok (.iload_n 0, 1) := by decide +kernel
theorem dX8_commonDivisor_7 : decode cX8_commonDivisor 7 = .ok (.iload_n 1, 1) := by decide +kernel
theorem dX8_commonDivisor_8 : decode cX8_commonDivisor 8 = .ok (.invokestatic 65, 3) := by decide +kernel
theorem dX8_commonDivisor_11 : decode cX8_commonDivisor 11 = .ok (.istore_n 3, 1) := by decide +kernel
theorem dX8_commonDivisor_12 : decode cX8_commonDivisor 12 = .ok (.iconst 0, 1) := by decide +kernel
theorem dX8_commonDivisor_13 : decode cX8_commonDivisor 13 = .ok (.istore 4, 2) := by decide +kernel
theorem dX8_commonDivisor_15 : decode cX8_commonDivisor 15 = .ok (.iload 4, 2) := by decide +kernel
theorem dX8_commonDivisor_17 : decode cX8_commonDivisor 17 = .ok (.bipush 64, 2) := by decide +kernel
theorem dX8_commonDivisor_19 : decode cX8_commonDivisor 19 = .ok (.if_icmp .ge 23, 3) := by decide +kernel
theorem dX8_commonDivisor_22 : decode cX8_commonDivisor 22 = .ok (.iload_n 3, 1) := by decide +kernel
theorem dX8_commonDivisor_23 : decode cX8_commonDivisor 23 = .ok (.ifCond .le 19, 3) := by decide +kernel
theorem dX8_commonDivisor_26 : decode cX8_commonDivisor 26 = .ok (.iload_n 2, 1) := by decide +kernel
theorem dX8_commonDivisor_27 : decode cX8_commonDivisor 27 = .ok (.iload_n 3, 1) := by decide +kernel
theorem dX8_commonDivisor_28 : decode cX8_commonDivisor 28 = .ok (.irem, 1) := by decide +kernel
theorem dX8_commonDivisor_29 : decode cX8_commonDivisor 29 = .ok (.istore 5, 2) := by decide +kernel
theorem dX8_commonDivisor_31 : decode cX8_commonDivisor 31 = .ok (.iload_n 3, 1) := by decide +kernel
theorem dX8_commonDivisor_32 : decode cX8_commonDivisor 32 = .ok (.istore_n 2, 1) := by decide +kernel
theorem dX8_commonDivisor_33 : decode cX8_commonDivisor 33 = .ok (.iload 5, 2) := by decide +kernel
theorem dX8_commonDivisor_35 : decode cX8_commonDivisor 35 = .ok (.istore_n 3, 1) := by decide +kernel
theorem dX8_commonDivisor_36 : decode cX8_commonDivisor 36 = .ok (.iinc 4 1, 3) := by decide +kernel
theorem dX8_commonDivisor_39 : decode cX8_commonDivisor 39 = .ok (.goto (-24), 3) := by decide +kernel
theorem dX8_commonDivisor_42 : decode cX8_commonDivisor 42 = .ok (.iload_n 2, 1) := by decide +kernel
theorem dX8_commonDivisor_43 : decode cX8_commonDivisor 43 = .ok (.ireturn, 1) := by decide +kernel
theorem dX9_init_0 : decode cX9_init 0 = .ok (.aload_n 0, 1) := by decide +kernel
theorem dX9_init_1 : decode cX9_init 1 = .ok (.invokespecial 3, 3) := by decide +kernel
theorem dX9_init_4 : decode cX9_init 4 = .ok (.aload_n 0, 1) := by decide +kernel
theorem dX9_init_5 : decode cX9_init 5 = .ok (.bipush 80, 2) := by decide +kernel
theorem dX9_init_7 : decode cX9_init 7 = .ok (.newarray .char, 2) := by decide +kernel
theorem dX9_init_9 : decode cX9_init 9 = .ok (.putfield 11, 3) := by decide +kernel
theorem dX9_init_12 : decode cX9_init 12 = .ok (.return_, 1) := by decide +kernel
theorem dX9_size_0 : decode cX9_size 0 = .ok (.aload_n 0, 1) := by decide +kernel
theorem dX9_size_1 : decode cX9_size 1 = .ok (.getfield 15, 3) := by decide +kernel
theorem dX9_size_4 : decode cX9_size 4 = .ok (.ireturn, 1) := by decide +kernel
theorem dX9_append_0 : decode cX9_append 0 = .ok (.aload_n 0, 1) := by decide +kernel
theorem dX9_append_1 : decode cX9_append 1 = .ok (.getfield 15, 3) := by decide +kernel
theorem dX9_append_4 : decode cX9_append 4 = .ok (.bipush 76, 2) := by decide +kernel
theorem dX9_append_6 : decode cX9_append 6 = .ok (.if_icmp .le 5, 3) := by decide +kernel
theorem dX9_append_9 : decode cX9_append 9 = .ok (.iconst (-1), 1) := by decide +kernel
theorem dX9_append_10 : decode cX9_append 10 = .ok (.ireturn, 1) := by decide +kernel
theorem dX9_append_11 : decode cX9_append 11 = .ok (.bipush 24, 2) := by decide +kernel
theorem dX9_append_13 : decode cX9_append 13 = .ok (.istore_n 2, 1) := by decide +kernel
theorem dX9_append_14 : decode cX9_append 14 = .ok (.iload_n 2, 1) := by decide +kernel
theorem dX9_append_15 : decode cX9_append 15 = .ok (.ifCond .lt 36, 3) := by decide +kernel
theorem dX9_append_18 : decode cX9_append 18 = .ok (.aload_n 0, 1) := by decide +kernel
theorem dX9_append_19 : decode cX9_append 19 = .ok (.getfield 11, 3) := by decide +kernel
theorem dX9_append_22 : decode cX9_append 22 = .ok (.aload_n 0, 1) := by decide +kernel
theorem dX9_append_23 : decode cX9_append 23 = .ok (.getfield 15, 3) := by decide +kernel
theorem dX9_append_26 : decode cX9_append 26 = .ok (.iload_n 1, 1) := by decide +kernel
theorem dX9_append_27 : decode cX9_append 27 = .ok (.iload_n 2, 1) := by decide +kernel
theorem dX9_append_28 : decode cX9_append 28 = .ok (.iushr, 1) := by decide +kernel
theorem dX9_append_29 : decode cX9_append 29 = .ok (.sipush 255, 3) := by decide +kernel
theorem dX9_append_32 : decode cX9_append 32 = .ok (.iand, 1) := by decide +kernel
theorem dX9_append_33 : decode cX9_append 33 = .ok (.i2c, 1) := by decide +kernel
theorem dX9_append_34 : decode cX9_append 34 = .ok (.castore, 1) := by decide +kernel
theorem dX9_append_35 : decode cX9_append 35 = .ok (.aload_n 0, 1) := by decide +kernel
theorem dX9_append_36 : decode cX9_append 36 = .ok (.dup, 1) := by decide +kernel
theorem dX9_append_37 : decode cX9_append 37 = .ok (.getfield 15, 3) := by decide +kernel
theorem dX9_append_40 : decode cX9_append 40 = .ok (.iconst 1, 1) := by decide +kernel
theorem dX9_append_41 : decode cX9_append 41 = .ok (.iadd, 1) := by decide +kernel
theorem dX9_append_42 : decode cX9_append 42 = .ok (.putfield 15, 3) := by decide +kernel
theorem dX9_append_45 : decode cX9_append 45 = .ok (.iinc 2 (-8), 3) := by decide +kernel
theorem dX9_append_48 : decode cX9_append 48 = .ok (.goto (-34), 3) := by decide +kernel
theorem dX9_append_51 : decode cX9_append 51 = .ok (.aload_n 0, 1) := by decide +kernel
theorem dX9_append_52 : decode cX9_append 52 = .ok (.getfield 15, 3) := by decide +kernel
theorem dX9_append_55 : decode cX9_append 55 = .ok (.ireturn, 1) := by decide +kernel
theorem dX9_shorten_0 : decode cX9_shorten 0 = .ok (.iload_n 1, 1) := by decide +kernel
theorem dX9_shorten_1 : decode cX9_shorten 1 = .ok (.ifCond .lt 11, 3) := by decide +kernel
theorem dX9_shorten_4 : decode cX9_shorten 4 = .ok (.iload_n 1, 1) := by decide +kernel
theorem dX9_shorten_5 : decode cX9_shorten 5 = .ok (.aload_n 0, 1) := by decide +kernel
theorem dX9_shorten_6 : decode cX9_shorten 6 = .ok (.getfield 15, 3) := by decide +kernel
theorem dX9_shorten_9 : decode cX9_shorten 9 = .ok (.if_icmp .le 5, 3) := by decide +kernel
theorem dX9_shorten_12 : decode cX9_shorten 12 = .ok (.iconst 0, 1) := by decide +kernel
theorem dX9_shorten_13 : decode cX9_shorten 13 = .ok (.ireturn, 1) := by decide +kernel
theorem dX9_shorten_14 : decode cX9_shorten 14 = .ok (.aload_n 0, 1) := by decide +kernel
theorem dX9_shorten_15 : decode cX9_shorten 15 = .ok (.iload_n 1, 1) := by decide +kernel
theorem dX9_shorten_16 : decode cX9_shorten 16 = .ok (.putfield 15, 3) := by decide +kernel
theorem dX9_shorten_19 : decode cX9_shorten 19 = .ok (.iconst 1, 1) := by decide +kernel
theorem dX9_shorten_20 : decode cX9_shorten 20 = .ok (.ireturn, 1) := by decide +kernel
theorem dX9_open_0 : decode cX9_open 0 = .ok (.aload_n 0, 1) := by decide +kernel
theorem dX9_open_1 : decode cX9_open 1 = .ok (.iconst 0, 1) := by decide +kernel
theorem dX9_open_2 : decode cX9_open 2 = .ok (.putfield 19, 3) := by decide +kernel
theorem dX9_open_5 : decode cX9_open 5 = .ok (.aload_n 0, 1) := by decide +kernel
theorem dX9_open_6 : decode cX9_open 6 = .ok (.aload_n 0, 1) := by decide +kernel
theorem dX9_open_7 : decode cX9_open 7 = .ok (.getfield 15, 3) := by decide +kernel
theorem dX9_open_10 : decode cX9_open 10 = .ok (.iload_n 1, 1) := by decide +kernel
theorem dX9_open_11 : decode cX9_open 11 = .ok (.invokestatic 22, 3) := by decide +kernel
theorem dX9_open_14 : decode cX9_open 14 = .ok (.putfield 28, 3) := by decide +kernel
theorem dX9_open_17 : decode cX9_open 17 = .ok (.aload_n 0, 1) := by decide +kernel
theorem dX9_open_18 : decode cX9_open 18 = .ok (.iconst (-1), 1) := by decide +kernel
theorem dX9_open_19 : decode cX9_open 19 = .ok (.putfield 31, 3) := by decide +kernel
theorem dX9_open_22 : decode cX9_open 22 = .ok (.return_, 1) := by decide +kernel
theorem dX9_peek_0 : decode cX9_peek 0 = .ok (.aload_n 0, 1) := by decide +kernel
theorem dX9_peek_1 : decode cX9_peek 1 = .ok (.getfield 31, 3) := by decide +kernel
theorem dX9_peek_4 : decode cX9_peek 4 = .ok (.ifCond .ge 14, 3) := by decide +kernel
theorem dX9_peek_7 : decode cX9_peek 7 = .ok (.aload_n 0, 1) := by decide +kernel
theorem dX9_peek_8 : decode cX9_peek 8 = .ok (.getfield 19, 3) := by decide +kernel
theorem dX9_peek_11 : decode cX9_peek 11 = .ok (.aload_n 0, 1) := by decide +kernel
theorem dX9_peek_12 : decode cX9_peek 12 = .ok (.getfield 28, 3) := by decide +kernel
theorem dX9_peek_15 : decode cX9_peek 15 = .ok (.if_icmp .lt 7, 3) := by decide +kernel
theorem dX9_peek_18 : decode cX9_peek 18 = .ok (.iconst (-1), 1) := by decide +kernel
theorem dX9_peek_19 : decode cX9_peek 19 = .ok (.goto 12, 3) := by decide +kernel
theorem dX9_peek_22 : decode cX9_peek 22 = .ok (.aload_n 0, 1) := by decide +kernel
theorem dX9_peek_23 : decode cX9_peek 23 = .ok (.getfield 11, 3) := by decide +kernel
theorem dX9_peek_26 : decode cX9_peek 26 = .ok (.aload_n 0, 1) := by decide +kernel
theorem dX9_peek_27 : decode cX9_peek 27 = .ok (.getfield 19, 3) := by decide +kernel
theorem dX9_peek_30 : decode cX9_peek 30 = .ok (.caload, 1) := by decide +kernel
theorem dX9_peek_31 : decode cX9_peek 31 = .ok (.ireturn, 1) := by decide +kernel
theorem dX9_skip_0 : decode cX9_skip 0 = .ok (.aload_n 0, 1) := by decide +kernel
theorem dX9_skip_1 : decode cX9_skip 1 = .ok (.getfield 19, 3) := by decide +kernel
theorem dX9_skip_4 : decode cX9_skip 4 = .ok (.aload_n 0, 1) := by decide +kernel
theorem dX9_skip_5 : decode cX9_skip 5 = .ok (.getfield 28, 3) := by decide +kernel
theorem dX9_skip_8 : decode cX9_skip 8 = .ok (.if_icmp .ge 13, 3) := by decide +kernel
theorem dX9_skip_11 : decode cX9_skip 11 = .ok (.aload_n 0, 1) := by decide +kernel
theorem dX9_skip_12 : decode cX9_skip 12 = .ok (.dup, 1) := by decide +kernel
theorem dX9_skip_13 : decode cX9_skip 13 = .ok (.getfield 19, 3) := by decide +kernel
theorem dX9_skip_16 : decode cX9_skip 16 = .ok (.iconst 1, 1) := by decide +kernel
theorem dX9_skip_17 : decode cX9_skip 17 = .ok (.iadd, 1) := by decide +kernel
theorem dX9_skip_18 : decode cX9_skip 18 = .ok (.putfield 19, 3) := by decide +kernel
theorem dX9_skip_21 : decode cX9_skip 21 = .ok (.return_, 1) := by decide +kernel
theorem dX9_passes_0 : decode cX9_passes 0 = .ok (.aload_n 0, 1) := by decide +kernel
theorem dX9_passes_1 : decode cX9_passes 1 = .ok (.invokevirtual 34, 3) := by decide +kernel
theorem dX9_passes_4 : decode cX9_passes 4 = .ok (.iload_n 1, 1) := by decide +kernel
theorem dX9_passes_5 : decode cX9_passes 5 = .ok (.if_icmp .ne 7, 3) := by decide +kernel
theorem dX9_passes_8 : decode cX9_passes 8 = .ok (.iconst 1, 1) := by decide +kernel
theorem dX9_passes_9 : decode cX9_passes 9 = .ok (.goto 4, 3) := by decide +kernel
theorem dX9_passes_12 : decode cX9_passes 12 = .ok (.iconst 0, 1) := by decide +kernel
theorem dX9_passes_13 : decode cX9_passes 13 = .ok (.istore_n 2, 1) := by decide +kernel
theorem dX9_passes_14 : decode cX9_passes 14 = .ok (.iload_n 2, 1) := by decide +kernel
theorem dX9_passes_15 : decode cX9_passes 15 = .ok (.ifCond .eq 7, 3) := by decide +kernel
theorem dX9_passes_18 : decode cX9_passes 18 = .ok (.aload_n 0, 1) := by decide +kernel
theorem dX9_passes_19 : decode cX9_passes 19 = .ok (.invokevirtual 38, 3) := by decide +kernel
theorem dX9_passes_22 : decode cX9_passes 22 = .ok (.iload_n 2, 1) := by decide +kernel
theorem dX9_passes_23 : decode cX9_passes 23 = .ok (.ireturn, 1) := by decide +kernel
theorem dX9_require_0 : decode cX9_require 0 = .ok (.aload_n 0, 1) := by decide +kernel
theorem dX9_require_1 : decode cX9_require 1 = .ok (.iload_n 1, 1) := by decide +kernel
theorem dX9_require_2 : decode cX9_require 2 = .ok (.invokevirtual 41, 3) := by decide +kernel
theorem dX9_require_5 : decode cX9_require 5 = .ok (.ifCond .ne 7, 3) := by decide +kernel
theorem dX9_require_8 : decode cX9_require 8 = .ok (.aload_n 0, 1) := by decide +kernel
theorem dX9_require_9 : decode cX9_require 9 = .ok (.invokevirtual 45, 3) := by decide +kernel
theorem dX9_require_12 : decode cX9_require 12 = .ok (.return_, 1) := by decide +kernel
theorem dX9_refuse_0 : decode cX9_refuse 0 = .ok (.aload_n 0, 1) := by decide +kernel
theorem dX9_refuse_1 : decode cX9_refuse 1 = .ok (.getfield 31, 3) := by decide +kernel
theorem dX9_refuse_4 : decode cX9_refuse 4 = .ok (.ifCond .ge 11, 3) := by decide +kernel
theorem dX9_refuse_7 : decode cX9_refuse 7 = .ok (.aload_n 0, 1) := by decide +kernel
theorem dX9_refuse_8 : decode cX9_refuse 8 = .ok (.aload_n 0, 1) := by decide +kernel
theorem dX9_refuse_9 : decode cX9_refuse 9 = .ok (.getfield 19, 3) := by decide +kernel
theorem dX9_refuse_12 : decode cX9_refuse 12 = .ok (.putfield 31, 3) := by decide +kernel
theorem dX9_refuse_15 : decode cX9_refuse 15 = .ok (.return_, 1) := by decide +kernel
theorem dX9_readNumber_0 : decode cX9_readNumber 0 = .ok (.iconst 0, 1) := by decide +kernel
theorem dX9_readNumber_1 : decode cX9_readNumber 1 = .ok (.istore 4, 2) := by decide +kernel
theorem dX9_readNumber_3 : decode cX9_readNumber 3 = .ok (.iconst 0, 1) := by decide +kernel
theorem dX9_readNumber_4 : decode cX9_readNumber 4 = .ok (.istore 5, 2) := by decide +kernel
theorem dX9_readNumber_6 : decode cX9_readNumber 6 = .ok (.aload_n 0, 1) := by decide +kernel
theorem dX9_readNumber_7 : decode cX9_readNumber 7 = .ok (.invokevirtual 34, 3) := by decide +kernel
theorem dX9_readNumber_10 : decode cX9_readNumber 10 = .ok (.istore 6, 2) := by decide +kernel
theorem dX9_readNumber_12 : decode cX9_readNumber 12 = .ok (.iload 5, 2) := by decide +kernel
theorem dX9_readNumber_14 : decode cX9_readNumber 14 = .ok (.iload_n 1, 1) := by decide +kernel
theorem dX9_readNumber_15 : decode cX9_readNumber 15 = .ok (.if_icmp .ge 46, 3) := by decide +kernel
theorem dX9_readNumber_18 : decode cX9_readNumber 18 = .ok (.iload 6, 2) := by decide +kernel
theorem dX9_readNumber_20 : decode cX9_readNumber 20 = .ok (.bipush 48, 2) := by decide +kernel
theorem dX9_readNumber_22 : decode cX9_readNumber 22 = .ok (.if_icmp .lt 39, 3) := by decide +kernel
theorem dX9_readNumber_25 : decode cX9_readNumber 25 = .ok (.iload 6, 2) := by decide +kernel
theorem dX9_readNumber_27 : decode cX9_readNumber 27 = .ok (.bipush 57, 2) := by decide +kernel
theorem dX9_readNumber_29 : decode cX9_readNumber 29 = .ok (.if_icmp .gt 32, 3) := by decide +kernel
theorem dX9_readNumber_32 : decode cX9_readNumber 32 = .ok (.iload 4, 2) := by decide +kernel
theorem dX9_readNumber_34 : decode cX9_readNumber 34 = .ok (.bipush 10, 2) := by decide +kernel
theorem dX9_readNumber_36 : decode cX9_readNumber 36 = .ok (.imul, 1) := by decide +kernel
theorem dX9_readNumber_37 : decode cX9_readNumber 37 = .ok (.iload 6, 2) := by decide +kernel
theorem dX9_readNumber_39 : decode cX9_readNumber 39 = .ok (.bipush 48, 2) := by decide +kernel
theorem dX9_readNumber_41 : decode cX9_readNumber 41 = .ok (.isub, 1) := by decide +kernel
theorem dX9_readNumber_42 : decode cX9_readNumber 42 = .ok (.iadd, 1) := by decide +kernel
theorem dX9_readNumber_43 : decode cX9_readNumber 43 = .ok (.istore 4, 2) := by decide +kernel
theorem dX9_readNumber_45 : decode cX9_readNumber 45 = .ok (.iinc 5 1, 3) := by decide +kernel
theorem dX9_readNumber_48 : decode cX9_readNumber 48 = .ok (.aload_n 0, 1) := by decide +kernel
theorem dX9_readNumber_49 : decode cX9_readNumber 49 = .ok (.invokevirtual 38, 3) := by decide +kernel
theorem dX9_readNumber_52 : decode cX9_readNumber 52 = .ok (.aload_n 0, 1) := by decide +kernel
theorem dX9_readNumber_53 : decode cX9_readNumber 53 = .ok (.invokevirtual 34, 3) := by decide +kernel
theorem dX9_readNumber_56 : decode cX9_readNumber 56 = .ok (.istore 6, 2) := by decide +kernel
theorem dX9_readNumber_58 : decode cX9_readNumber 58 = .ok (.goto (-46), 3) := by decide +kernel
theorem dX9_readNumber_61 : decode cX9_readNumber 61 = .ok (.iload 5, 2) := by decide +kernel
theorem dX9_readNumber_63 : decode cX9_readNumber 63 = .ok (.ifCond .ne 10, 3) := by decide +kernel
theorem dX9_readNumber_66 : decode cX9_readNumber 66 = .ok (.aload_n 0, 1) := by decide +kernel
theorem dX9_readNumber_67 : decode cX9_readNumber 67 = .ok (.invokevirtual 45, 3) := by decide +kernel
theorem dX9_readNumber_70 : decode cX9_readNumber 70 = .ok (.goto 25, 3) := by decide +kernel
theorem dX9_readNumber_73 : decode cX9_readNumber 73 = .ok (.iload 4, 2) := by decide +kernel
theorem dX9_readNumber_75 : decode cX9_readNumber 75 = .ok (.iload_n 2, 1) := by decide +kernel
theorem dX9_readNumber_76 : decode cX9_readNumber 76 = .ok (.if_icmp .lt 9, 3) := by decide +kernel
theorem dX9_readNumber_79 : decode cX9_readNumber 79 = .ok (.iload 4, 2) := by decide +kernel
theorem dX9_readNumber_81 : decode cX9_readNumber 81 = .ok (.iload_n 3, 1) := by decide +kernel
theorem dX9_readNumber_82 : decode cX9_readNumber 82 = .ok (.if_icmp .le 13, 3) := by decide +kernel
theorem dX9_readNumber_85 : decode cX9_readNumber 85 = .ok (.aload_n 0, 1) := by decide +kernel
theorem dX9_readNumber_86 : decode cX9_readNumber 86 = .ok (.aload_n 0, 1) := by decide +kernel
theorem dX9_readNumber_87 : decode cX9_readNumber 87 = .ok (.getfield 19, 3) := by decide +kernel
theorem dX9_readNumber_90 : decode cX9_readNumber 90 = .ok (.iconst 1, 1) := by decide +kernel
theorem dX9_readNumber_91 : decode cX9_readNumber 91 = .ok (.isub, 1) := by decide +kernel
theorem dX9_readNumber_92 : decode cX9_readNumber 92 = .ok (.putfield 31, 3) := by decide +kernel
theorem dX9_readNumber_95 : decode cX9_readNumber 95 = .ok (.iload 4, 2) := by decide +kernel
theorem dX9_readNumber_97 : decode cX9_readNumber 97 = .ok (.ireturn, 1) := by decide +kernel
theorem dX9_passSeventh_0 : decode cX9_passSeventh 0 = .ok (.aload_n 0, 1) := by decide +kernel
theorem dX9_passSeventh_1 : decode cX9_passSeventh 1 = .ok (.invokevirtual 34, 3) := by decide +kernel
theorem dX9_passSeventh_4 : decode cX9_passSeventh 4 = .ok (.bipush 97, 2) := by decide +kernel
theorem dX9_passSeventh_6 : decode cX9_passSeventh 6 = .ok (.isub, 1) := by decide +kernel
theorem dX9_passSeventh_7 : decode cX9_passSeventh 7 = .ok (.istore_n 2, 1) := by decide +kernel
theorem dX9_passSeventh_8 : decode cX9_passSeventh 8 = .ok (.iload_n 2, 1) := by decide +kernel
theorem dX9_passSeventh_9 : decode cX9_passSeventh 9 = .ok (.iload_n 1, 1) := by decide +kernel
theorem dX9_passSeventh_10 : decode cX9_passSeventh 10 = .ok (.if_icmp .lt 8, 3) := by decide +kernel
theorem dX9_passSeventh_13 : decode cX9_passSeventh 13 = .ok (.iload_n 2, 1) := by decide +kernel
theorem dX9_passSeventh_14 : decode cX9_passSeventh 14 = .ok (.iconst 4, 1) := by decide +kernel
theorem dX9_passSeventh_15 : decode cX9_passSeventh 15 = .ok (.if_icmp .lt 5, 3) := by decide +kernel
theorem dX9_passSeventh_18 : decode cX9_passSeventh 18 = .ok (.iconst (-1), 1) := by decide +kernel
theorem dX9_passSeventh_19 : decode cX9_passSeventh 19 = .ok (.ireturn, 1) := by decide +kernel
theorem dX9_passSeventh_20 : decode cX9_passSeventh 20 = .ok (.aload_n 0, 1) := by decide +kernel
theorem dX9_passSeventh_21 : decode cX9_passSeventh 21 = .ok (.invokevirtual 38, 3) := by decide +kernel
theorem dX9_passSeventh_24 : decode cX9_passSeventh 24 = .ok (.iload_n 2, 1) := by decide +kernel
theorem dX9_passSeventh_25 : decode cX9_passSeventh 25 = .ok (.ireturn, 1) := by decide +kernel
theorem dX9_close_0 : decode cX9_close 0 = .ok (.aload_n 0, 1) := by decide +kernel
theorem dX9_close_1 : decode cX9_close 1 = .ok (.getfield 31, 3) := by decide +kernel
theorem dX9_close_4 : decode cX9_close 4 = .ok (.istore_n 1, 1) := by decide +kernel
theorem dX9_close_5 : decode cX9_close 5 = .ok (.iload_n 1, 1) := by decide +kernel
theorem dX9_close_6 : decode cX9_close 6 = .ok (.ifCond .ge 19, 3) := by decide +kernel
theorem dX9_close_9 : decode cX9_close 9 = .ok (.aload_n 0, 1) := by decide +kernel
theorem dX9_close_10 : decode cX9_close 10 = .ok (.getfield 19, 3) := by decide +kernel
theorem dX9_close_13 : decode cX9_close 13 = .ok (.aload_n 0, 1) := by decide +kernel
theorem dX9_close_14 : decode cX9_close 14 = .ok (.getfield 28, 3) := by decide +kernel
theorem dX9_close_17 : decode cX9_close 17 = .ok (.if_icmp .ge 8, 3) := by decide +kernel
theorem dX9_close_20 : decode cX9_close 20 = .ok (.aload_n 0, 1) := by decide +kernel
theorem dX9_close_21 : decode cX9_close 21 = .ok (.getfield 19, 3) := by decide +kernel
theorem dX9_close_24 : decode cX9_close 24 = .ok (.istore_n 1, 1) := by decide +kernel
theorem dX9_close_25 : decode cX9_close 25 = .ok (.iload_n 1, 1) := by decide +kernel
theorem dX9_close_26 : decode cX9_close 26 = .ok (.ifCond .ge 19, 3) := by decide +kernel
theorem dX9_close_29 : decode cX9_close 29 = .ok (.aload_n 0, 1) := by decide +kernel
theorem dX9_close_30 : decode cX9_close 30 = .ok (.getfield 28, 3) := by decide +kernel
theorem dX9_close_33 : decode cX9_close 33 = .ok (.aload_n 0, 1) := by decide +kernel
theorem dX9_close_34 : decode cX9_close 34 = .ok (.getfield 15, 3) := by decide +kernel
theorem dX9_close_37 : decode cX9_close 37 = .ok (.if_icmp .ge 8, 3) := by decide +kernel
theorem dX9_close_40 : decode cX9_close 40 = .ok (.aload_n 0, 1) := by decide +kernel
theorem dX9_close_41 : decode cX9_close 41 = .ok (.getfield 28, 3) := by decide +kernel
theorem dX9_close_44 : decode cX9_close 44 = .ok (.istore_n 1, 1) := by decide +kernel
theorem dX9_close_45 : decode cX9_close 45 = .ok (.aload_n 0, 1) := by decide +kernel
theorem dX9_close_46 : decode cX9_close 46 = .ok (.iconst 0, 1) := by decide +kernel
theorem dX9_close_47 : decode cX9_close 47 = .ok (.putfield 15, 3) := by decide +kernel
theorem dX9_close_50 : decode cX9_close 50 = .ok (.iload_n 1, 1) := by decide +kernel
theorem dX9_close_51 : decode cX9_close 51 = .ok (.ireturn, 1) := by decide +kernel
theorem dX10_init_0 : decode cX10_init 0 = .ok (.aload_n 0, 1) := by decide +kernel
theorem dX10_init_1 : decode cX10_init 1 = .ok (.invokespecial 3, 3) := by decide +kernel
theorem dX10_init_4 : decode cX10_init 4 = .ok (.aload_n 0, 1) := by decide +kernel
theorem dX10_init_5 : decode cX10_init 5 = .ok (.bipush 12, 2) := by decide +kernel
theorem dX10_init_7 : decode cX10_init 7 = .ok (.newarray .int, 2) := by decide +kernel
theorem dX10_init_9 : decode cX10_init 9 = .ok (.putfield 9, 3) := by decide +kernel
theorem dX10_init_12 : decode cX10_init 12 = .ok (.aload_n 0, 1) := by decide +kernel
theorem dX10_init_13 : decode cX10_init 13 = .ok (.bipush 12, 2) := by decide +kernel
theorem dX10_init_15 : decode cX10_init 15 = .ok (.newarray .int, 2) := by decide +kernel
theorem dX10_init_17 : decode cX10_init 17 = .ok (.putfield 15, 3) := by decide +kernel
theorem dX10_init_20 : decode cX10_init 20 = .ok (.aload_n 0, 1) := by decide +kernel
theorem dX10_init_21 : decode cX10_init 21 = .ok (.iconst 1, 1) := by decide +kernel
theorem dX10_init_22 : decode cX10_init 22 = .ok (.putfield 18, 3) := by decide +kernel
theorem dX10_init_25 : decode cX10_init 25 = .ok (.return_, 1) := by decide +kernel
theorem dX10_steepAt_0 : decode cX10_steepAt 0 = .ok (.iload_n 1, 1) := by decide +kernel
theorem dX10_steepAt_1 : decode cX10_steepAt 1 = .ok (.ifCond .lt 20, 3) := by decide +kernel
theorem dX10_steepAt_4 : decode cX10_steepAt 4 = .ok (.iload_n 1, 1) := by decide +kernel
theorem dX10_steepAt_5 : decode cX10_steepAt 5 = .ok (.aload_n 0, 1) := by decide +kernel
theorem dX10_steepAt_6 : decode cX10_steepAt 6 = .ok (.getfield 18, 3) := by decide +kernel
theorem dX10_steepAt_9 : decode cX10_steepAt 9 = .ok (.if_icmp .ge 12, 3) := by decide +kernel
theorem dX10_steepAt_12 : decode cX10_steepAt 12 = .ok (.aload_n 0, 1) := by decide +kernel
theorem dX10_steepAt_13 : decode cX10_steepAt 13 = .ok (.getfield 9, 3) := by decide +kernel
theorem dX10_steepAt_16 : decode cX10_steepAt 16 = .ok (.iload_n 1, 1) := by decide +kernel
theorem dX10_steepAt_17 : decode cX10_steepAt 17 = .ok (.iaload, 1) := by decide +kernel
theorem dX10_steepAt_18 : decode cX10_steepAt 18 = .ok (.goto 4, 3) := by decide +kernel
theorem dX10_steepAt_21 : decode cX10_steepAt 21 = .ok (.iconst 0, 1) := by decide +kernel
theorem dX10_steepAt_22 : decode cX10_steepAt 22 = .ok (.ireturn, 1) := by decide +kernel
theorem dX10_steepInAll_0 : decode cX10_steepInAll 0 = .ok (.iconst 0, 1) := by decide +kernel
theorem dX10_steepInAll_1 : decode cX10_steepInAll 1 = .ok (.istore_n 1, 1) := by decide +kernel
theorem dX10_steepInAll_2 : decode cX10_steepInAll 2 = .ok (.iconst 0, 1) := by decide +kernel
theorem dX10_steepInAll_3 : decode cX10_steepInAll 3 = .ok (.istore_n 2, 1) := by decide +kernel
theorem dX10_steepInAll_4 : decode cX10_steepInAll 4 = .ok (.iload_n 2, 1) := by decide +kernel
theorem dX10_steepInAll_5 : decode cX10_steepInAll 5 = .ok (.aload_n 0, 1) := by decide +kernel
theorem dX10_steepInAll_6 : decode cX10_steepInAll 6 = .ok (.getfield 18, 3) := by decide +kernel
theorem dX10_steepInAll_9 : decode cX10_steepInAll 9 = .ok (.if_icmp .ge 18, 3) := by decide +kernel
theorem dX10_steepInAll_12 : decode cX10_steepInAll 12 = .ok (.iload_n 1, 1) := by decide +kernel
theorem dX10_steepInAll_13 : decode cX10_steepInAll 13 = .ok (.aload_n 0, 1) := by decide +kernel
theorem dX10_steepInAll_14 : decode cX10_steepInAll 14 = .ok (.getfield 9, 3) := by decide +kernel
theorem dX10_steepInAll_17 : decode cX10_steepInAll 17 = .ok (.iload_n 2, 1) := by decide +kernel
theorem dX10_steepInAll_18 : decode cX10_steepInAll 18 = .ok (.iaload, 1) := by decide +kernel
theorem dX10_steepInAll_19 : decode cX10_steepInAll 19 = .ok (.iadd, 1) := by decide +kernel
theorem dX10_steepInAll_20 : decode cX10_steepInAll 20 = .ok (.istore_n 1, 1) := by decide +kernel
theorem dX10_steepInAll_21 : decode cX10_steepInAll 21 = .ok (.iinc 2 1, 3) := by decide +kernel
theorem dX10_steepInAll_24 : decode cX10_steepInAll 24 = .ok (.goto (-20), 3) := by decide +kernel
theorem dX10_steepInAll_27 : decode cX10_steepInAll 27 = .ok (.iload_n 1, 1) := by decide +kernel
theorem dX10_steepInAll_28 : decode cX10_steepInAll 28 = .ok (.ireturn, 1) := by decide +kernel
theorem dX10_read_0 : decode cX10_read 0 = .ok (.aload_n 1, 1) := by decide +kernel
theorem dX10_read_1 : decode cX10_read 1 = .ok (.bipush 12, 2) := by decide +kernel
theorem dX10_read_3 : decode cX10_read 3 = .ok (.invokevirtual 22, 3) := by decide +kernel
theorem dX10_read_6 : decode cX10_read 6 = .ok (.iconst 0, 1) := by decide +kernel
theorem dX10_read_7 : decode cX10_read 7 = .ok (.istore_n 2, 1) := by decide +kernel
theorem dX10_read_8 : decode cX10_read 8 = .ok (.aload_n 0, 1) := by decide +kernel
theorem dX10_read_9 : decode cX10_read 9 = .ok (.getfield 15, 3) := by decide +kernel
theorem dX10_read_12 : decode cX10_read 12 = .ok (.iload_n 2, 1) := by decide +kernel
theorem dX10_read_13 : decode cX10_read 13 = .ok (.aload_n 1, 1) := by decide +kernel
theorem dX10_read_14 : decode cX10_read 14 = .ok (.iconst 1, 1) := by decide +kernel
theorem dX10_read_15 : decode cX10_read 15 = .ok (.iconst 0, 1) := by decide +kernel
theorem dX10_read_16 : decode cX10_read 16 = .ok (.bipush 9, 2) := by decide +kernel
theorem dX10_read_18 : decode cX10_read 18 = .ok (.invokevirtual 28, 3) := by decide +kernel
theorem dX10_read_21 : decode cX10_read 21 = .ok (.iastore, 1) := by decide +kernel
theorem dX10_read_22 : decode cX10_read 22 = .ok (.iinc 2 1, 3) := by decide +kernel
theorem dX10_read_25 : decode cX10_read 25 = .ok (.iload_n 2, 1) := by decide +kernel
theorem dX10_read_26 : decode cX10_read 26 = .ok (.bipush 12, 2) := by decide +kernel
theorem dX10_read_28 : decode cX10_read 28 = .ok (.if_icmp .ge 11, 3) := by decide +kernel
theorem dX10_read_31 : decode cX10_read 31 = .ok (.aload_n 1, 1) := by decide +kernel
theorem dX10_read_32 : decode cX10_read 32 = .ok (.invokevirtual 32, 3) := by decide +kernel
theorem dX10_read_35 : decode cX10_read 35 = .ok (.iconst (-1), 1) := by decide +kernel
theorem dX10_read_36 : decode cX10_read 36 = .ok (.if_icmp .ne (-28), 3) := by decide +kernel
theorem dX10_read_39 : decode cX10_read 39 = .ok (.aload_n 1, 1) := by decide +kernel
theorem dX10_read_40 : decode cX10_read 40 = .ok (.invokevirtual 36, 3) := by decide +kernel
theorem dX10_read_43 : decode cX10_read 43 = .ok (.istore_n 3, 1) := by decide +kernel
theorem dX10_read_44 : decode cX10_read 44 = .ok (.iload_n 3, 1) := by decide +kernel
theorem dX10_read_45 : decode cX10_read 45 = .ok (.ifCond .ge 22, 3) := by decide +kernel
theorem dX10_read_48 : decode cX10_read 48 = .ok (.aload_n 0, 1) := by decide +kernel
theorem dX10_read_49 : decode cX10_read 49 = .ok (.getfield 15, 3) := by decide +kernel
theorem dX10_read_52 : decode cX10_read 52 = .ok (.iconst 0, 1) := by decide +kernel
theorem dX10_read_53 : decode cX10_read 53 = .ok (.aload_n 0, 1) := by decide +kernel
theorem dX10_read_54 : decode cX10_read 54 = .ok (.getfield 9, 3) := by decide +kernel
theorem dX10_read_57 : decode cX10_read 57 = .ok (.iconst 0, 1) := by decide +kernel
theorem dX10_read_58 : decode cX10_read 58 = .ok (.iload_n 2, 1) := by decide +kernel
theorem dX10_read_59 : decode cX10_read 59 = .ok (.invokestatic 39, 3) := by decide +kernel
theorem dX10_read_62 : decode cX10_read 62 = .ok (.aload_n 0, 1) := by decide +kernel
theorem dX10_read_63 : decode cX10_read 63 = .ok (.iload_n 2, 1) := by decide +kernel
theorem dX10_read_64 : decode cX10_read 64 = .ok (.putfield 18, 3) := by decide +kernel
theorem dX10_read_67 : decode cX10_read 67 = .ok (.iload_n 3, 1) := by decide +kernel
theorem dX10_read_68 : decode cX10_read 68 = .ok (.ireturn, 1) := by decide +kernel
theorem dX10_copySheet_0 : decode cX10_copySheet 0 = .ok (.iconst 0, 1) := by decide +kernel
theorem dX10_copySheet_1 : decode cX10_copySheet 1 = .ok (.istore 5, 2) := by decide +kernel
theorem dX10_copySheet_3 : decode cX10_copySheet 3 = .ok (.iload 5, 2) := by decide +kernel
theorem dX10_copySheet_5 : decode cX10_copySheet 5 = .ok (.aload_n 0, 1) := by decide +kernel
theorem dX10_copySheet_6 : decode cX10_copySheet 6 = .ok (.getfield 18, 3) := by decide +kernel
theorem dX10_copySheet_9 : decode cX10_copySheet 9 = .ok (.if_icmp .ge 43, 3) := by decide +kernel
theorem dX10_copySheet_12 : decode cX10_copySheet 12 = .ok (.aload_n 0, 1) := by decide +kernel
theorem dX10_copySheet_13 : decode cX10_copySheet 13 = .ok (.getfield 9, 3) := by decide +kernel
theorem dX10_copySheet_16 : decode cX10_copySheet 16 = .ok (.iload 5, 2) := by decide +kernel
theorem dX10_copySheet_18 : decode cX10_copySheet 18 = .ok (.iload 5, 2) := by decide +kernel
theorem dX10_copySheet_20 : decode cX10_copySheet 20 = .ok (.iload_n 2, 1) := by decide +kernel
theorem dX10_copySheet_21 : decode cX10_copySheet 21 = .ok (.if_icmp .ge 23, 3) := by decide +kernel
theorem dX10_copySheet_24 : decode cX10_copySheet 24 = .ok (.iload_n 1, 1) := by decide +kernel
theorem dX10_copySheet_25 : decode cX10_copySheet 25 = .ok (.iload_n 3, 1) := by decide +kernel
theorem dX10_copySheet_26 : decode cX10_copySheet 26 = .ok (.iload 5, 2) := by decide +kernel
theorem dX10_copySheet_28 : decode cX10_copySheet 28 = .ok (.iload 4, 2) := by decide +kernel
theorem dX10_copySheet_30 : decode cX10_copySheet 30 = .ok (.imul, 1) := by decide +kernel
theorem dX10_copySheet_31 : decode cX10_copySheet 31 = .ok (.iadd, 1) := by decide +kernel
theorem dX10_copySheet_32 : decode cX10_copySheet 32 = .ok (.invokestatic 45, 3) := by decide +kernel
theorem dX10_copySheet_35 : decode cX10_copySheet 35 = .ok (.iconst 0, 1) := by decide +kernel
theorem dX10_copySheet_36 : decode cX10_copySheet 36 = .ok (.bipush 9, 2) := by decide +kernel
theorem dX10_copySheet_38 : decode cX10_copySheet 38 = .ok (.invokestatic 49, 3) := by decide +kernel
theorem dX10_copySheet_41 : decode cX10_copySheet 41 = .ok (.goto 4, 3) := by decide +kernel
theorem dX10_copySheet_44 : decode cX10_copySheet 44 = .ok (.iconst 0, 1) := by decide +kernel
theorem dX10_copySheet_45 : decode cX10_copySheet 45 = .ok (.iastore, 1) := by decide +kernel
theorem dX10_copySheet_46 : decode cX10_copySheet 46 = .ok (.iinc 5 1, 3) := by decide +kernel
theorem dX10_copySheet_49 : decode cX10_copySheet 49 = .ok (.goto (-46), 3) := by decide +kernel
theorem dX10_copySheet_52 : decode cX10_copySheet 52 = .ok (.return_, 1) := by decide +kernel
theorem dX10_entry_0 : decode cX10_entry 0 = .ok (.iload_n 0, 1) := by decide +kernel
theorem dX10_entry_1 : decode cX10_entry 1 = .ok (.ifCond .ne 8, 3) := by decide +kernel
theorem dX10_entry_4 : decode cX10_entry 4 = .ok (.iload_n 1, 1) := by decide +kernel
theorem dX10_entry_5 : decode cX10_entry 5 = .ok (.i2b, 1) := by decide +kernel
theorem dX10_entry_6 : decode cX10_entry 6 = .ok (.goto 14, 3) := by decide +kernel
theorem dX10_entry_9 : decode cX10_entry 9 = .ok (.iload_n 0, 1) := by decide +kernel
theorem dX10_entry_10 : decode cX10_entry 10 = .ok (.iconst 1, 1) := by decide +kernel
theorem dX10_entry_11 : decode cX10_entry 11 = .ok (.if_icmp .ne 8, 3) := by decide +kernel
theorem dX10_entry_14 : decode cX10_entry 14 = .ok (.iload_n 1, 1) := by decide +kernel
theorem dX10_entry_15 : decode cX10_entry 15 = .ok (.i2s, 1) := by decide +kernel
theorem dX10_entry_16 : decode cX10_entry 16 = .ok (.goto 4, 3) := by decide +kernel
theorem dX10_entry_19 : decode cX10_entry 19 = .ok (.iload_n 1, 1) := by decide +kernel
theorem dX10_entry_20 : decode cX10_entry 20 = .ok (.ireturn, 1) := by decide +kernel
theorem dX11_init_0 : decode cX11_init 0 = .ok (.aload_n 0, 1) := by decide +kernel
theorem dX11_init_1 : decode cX11_init 1 = .ok (.invokespecial 1, 3) := by decide +kernel
theorem dX11_init_4 : decode cX11_init 4 = .ok (.aload_n 0, 1) := by decide +kernel
theorem dX11_init_5 : decode cX11_init 5 = .ok (.new 7, 3) := by decide +kernel
theorem dX11_init_8 : decode cX11_init 8 = .ok (.dup, 1) := by decide +kernel
theorem dX11_init_9 : decode cX11_init 9 = .ok (.invokespecial 9, 3) := by decide +kernel
theorem dX11_init_12 : decode cX11_init 12 = .ok (.putfield 10, 3) := by decide +kernel
theorem dX11_init_15 : decode cX11_init 15 = .ok (.aload_n 0, 1) := by decide +kernel
theorem dX11_init_16 : decode cX11_init 16 = .ok (.new 16, 3) := by decide +kernel
theorem dX11_init_19 : decode cX11_init 19 = .ok (.dup, 1) := by decide +kernel
theorem dX11_init_20 : decode cX11_init 20 = .ok (.invokespecial 18, 3) := by decide +kernel
theorem dX11_init_23 : decode cX11_init 23 = .ok (.putfield 19, 3) := by decide +kernel
theorem dX11_init_26 : decode cX11_init 26 = .ok (.aload_n 0, 1) := by decide +kernel
theorem dX11_init_27 : decode cX11_init 27 = .ok (.new 23, 3) := by decide +kernel
theorem dX11_init_30 : decode cX11_init 30 = .ok (.dup, 1) := by decide +kernel
theorem dX11_init_31 : decode cX11_init 31 = .ok (.invokespecial 25, 3) := by decide +kernel
theorem dX11_init_34 : decode cX11_init 34 = .ok (.putfield 26, 3) := by decide +kernel
theorem dX11_init_37 : decode cX11_init 37 = .ok (.aload_n 0, 1) := by decide +kernel
theorem dX11_init_38 : decode cX11_init 38 = .ok (.new 30, 3) := by decide +kernel
theorem dX11_init_41 : decode cX11_init 41 = .ok (.dup, 1) := by decide +kernel
theorem dX11_init_42 : decode cX11_init 42 = .ok (.aload_n 0, 1) := by decide +kernel
theorem dX11_init_43 : decode cX11_init 43 = .ok (.getfield 26, 3) := by decide +kernel
theorem dX11_init_46 : decode cX11_init 46 = .ok (.invokespecial 32, 3) := by decide +kernel
theorem dX11_init_49 : decode cX11_init 49 = .ok (.putfield 35, 3) := by decide +kernel
theorem dX11_init_52 : decode cX11_init 52 = .ok (.aload_n 0, 1) := by decide +kernel
theorem dX11_init_53 : decode cX11_init 53 = .ok (.new 39, 3) := by decide +kernel
theorem dX11_init_56 : decode cX11_init 56 = .ok (.dup, 1) := by decide +kernel
theorem dX11_init_57 : decode cX11_init 57 = .ok (.invokespecial 41, 3) := by decide +kernel
theorem dX11_init_60 : decode cX11_init 60 = .ok (.putfield 42, 3) := by decide +kernel
theorem dX11_init_63 : decode cX11_init 63 = .ok (.aload_n 0, 1) := by decide +kernel
theorem dX11_init_64 : decode cX11_init 64 = .ok (.new 46, 3) := by decide +kernel
theorem dX11_init_67 : decode cX11_init 67 = .ok (.dup, 1) := by decide +kernel
theorem dX11_init_68 : decode cX11_init 68 = .ok (.invokespecial 48, 3) := by decide +kernel
theorem dX11_init_71 : decode cX11_init 71 = .ok (.putfield 49, 3) := by decide +kernel
theorem dX11_init_74 : decode cX11_init 74 = .ok (.aload_n 0, 1) := by decide +kernel
theorem dX11_init_75 : decode cX11_init 75 = .ok (.new 53, 3) := by decide +kernel
theorem dX11_init_78 : decode cX11_init 78 = .ok (.dup, 1) := by decide +kernel
theorem dX11_init_79 : decode cX11_init 79 = .ok (.invokespecial 55, 3) := by decide +kernel
theorem dX11_init_82 : decode cX11_init 82 = .ok (.putfield 56, 3) := by decide +kernel
theorem dX11_init_85 : decode cX11_init 85 = .ok (.aload_n 0, 1) := by decide +kernel
theorem dX11_init_86 : decode cX11_init 86 = .ok (.new 60, 3) := by decide +kernel
theorem dX11_init_89 : decode cX11_init 89 = .ok (.dup, 1) := by decide +kernel
theorem dX11_init_90 : decode cX11_init 90 = .ok (.aload_n 0, 1) := by decide +kernel
theorem dX11_init_91 : decode cX11_init 91 = .ok (.getfield 26, 3) := by decide +kernel
theorem dX11_init_94 : decode cX11_init 94 = .ok (.aload_n 0, 1) := by decide +kernel
theorem dX11_init_95 : decode cX11_init 95 = .ok (.getfield 35, 3) := by decide +kernel
theorem dX11_init_98 : decode cX11_init 98 = .ok (.aload_n 0, 1) := by decide +kernel
theorem dX11_init_99 : decode cX11_init 99 = .ok (.getfield 42, 3) := by decide +kernel
theorem dX11_init_102 : decode cX11_init 102 = .ok (.aload_n 0, 1) := by decide +kernel
theorem dX11_init_103 : decode cX11_init 103 = .ok (.getfield 19, 3) := by decide +kernel
theorem dX11_init_106 : decode cX11_init 106 = .ok (.invokespecial 62, 3) := by decide +kernel
theorem dX11_init_109 : decode cX11_init 109 = .ok (.putfield 65, 3) := by decide +kernel
theorem dX11_init_112 : decode cX11_init 112 = .ok (.aload_n 0, 1) := by decide +kernel
theorem dX11_init_113 : decode cX11_init 113 = .ok (.new 69, 3) := by decide +kernel
theorem dX11_init_116 : decode cX11_init 116 = .ok (.dup, 1) := by decide +kernel
theorem dX11_init_117 : decode cX11_init 117 = .ok (.aload_n 0, 1) := by decide +kernel
theorem dX11_init_118 : decode cX11_init 118 = .ok (.getfield 26, 3) := by decide +kernel
theorem dX11_init_121 : decode cX11_init 121 = .ok (.aload_n 0, 1) := by decide +kernel
theorem dX11_init_122 : decode cX11_init 122 = .ok (.getfield 35, 3) := by decide +kernel
theorem dX11_init_125 : decode cX11_init 125 = .ok (.aload_n 0, 1) := by decide +kernel
theorem dX11_init_126 : decode cX11_init 126 = .ok (.getfield 19, 3) := by decide +kernel
theorem dX11_init_129 : decode cX11_init 129 = .ok (.invokespecial 71, 3) := by decide +kernel
theorem dX11_init_132 : decode cX11_init 132 = .ok (.putfield 74, 3) := by decide +kernel
theorem dX11_init_135 : decode cX11_init 135 = .ok (.aload_n 0, 1) := by decide +kernel
theorem dX11_init_136 : decode cX11_init 136 = .ok (.new 78, 3) := by decide +kernel
theorem dX11_init_139 : decode cX11_init 139 = .ok (.dup, 1) := by decide +kernel
theorem dX11_init_140 : decode cX11_init 140 = .ok (.aload_n 0, 1) := by decide +kernel
theorem dX11_init_141 : decode cX11_init 141 = .ok (.getfield 42, 3) := by decide +kernel
theorem dX11_init_144 : decode cX11_init 144 = .ok (.aload_n 0, 1) := by decide +kernel
theorem dX11_init_145 : decode cX11_init 145 = .ok (.getfield 19, 3) := by decide +kernel
theorem dX11_init_148 : decode cX11_init 148 = .ok (.invokespecial 80, 3) := by decide +kernel
theorem dX11_init_151 : decode cX11_init 151 = .ok (.putfield 83, 3) := by decide +kernel
theorem dX11_init_154 : decode cX11_init 154 = .ok (.aload_n 0, 1) := by decide +kernel
theorem dX11_init_155 : decode cX11_init 155 = .ok (.bipush 60, 2) := by decide +kernel
theorem dX11_init_157 : decode cX11_init 157 = .ok (.newarray .int, 2) := by decide +kernel
theorem dX11_init_159 : decode cX11_init 159 = .ok (.putfield 87, 3) := by decide +kernel
theorem dX11_init_162 : decode cX11_init 162 = .ok (.aload_n 0, 1) := by decide +kernel
theorem dX11_init_163 : decode cX11_init 163 = .ok (.new 91, 3) := by decide +kernel
theorem dX11_init_166 : decode cX11_init 166 = .ok (.dup, 1) := by decide +kernel
theorem dX11_init_167 : decode cX11_init 167 = .ok (.invokespecial 93, 3) := by decide +kernel
theorem dX11_init_170 : decode cX11_init 170 = .ok (.putfield 94, 3) := by decide +kernel
theorem dX11_init_173 : decode cX11_init 173 = .ok (.aload_n 0, 1) := by decide +kernel
theorem dX11_init_174 : decode cX11_init 174 = .ok (.new 91, 3) := by decide +kernel
theorem dX11_init_177 : decode cX11_init 177 = .ok (.dup, 1) := by decide +kernel
theorem dX11_init_178 : decode cX11_init 178 = .ok (.invokespecial 93, 3) := by decide +kernel
theorem dX11_init_181 : decode cX11_init 181 = .ok (.putfield 98, 3) := by decide +kernel
theorem dX11_init_184 : decode cX11_init 184 = .ok (.return_, 1) := by decide +kernel
theorem dX11_sign_0 : decode cX11_sign 0 = .ok (.aload_n 0, 1) := by decide +kernel
theorem dX11_sign_1 : decode cX11_sign 1 = .ok (.getfield 10, 3) := by decide +kernel
theorem dX11_sign_4 : decode cX11_sign 4 = .ok (.iload_n 1, 1) := by decide +kernel
theorem dX11_sign_5 : decode cX11_sign 5 = .ok (.invokevirtual 101, 3) := by decide +kernel
theorem dX11_sign_8 : decode cX11_sign 8 = .ok (.ireturn, 1) := by decide +kernel
theorem dX11_end_0 : decode cX11_end 0 = .ok (.aload_n 0, 1) := by decide +kernel
theorem dX11_end_1 : decode cX11_end 1 = .ok (.getfield 10, 3) := by decide +kernel
theorem dX11_end_4 : decode cX11_end 4 = .ok (.iload_n 1, 1) := by decide +kernel
theorem dX11_end_5 : decode cX11_end 5 = .ok (.invokevirtual 105, 3) := by decide +kernel
theorem dX11_end_8 : decode cX11_end 8 = .ok (.ireturn, 1) := by decide +kernel
theorem dX11_way_0 : decode cX11_way 0 = .ok (.aload_n 0, 1) := by decide +kernel
theorem dX11_way_1 : decode cX11_way 1 = .ok (.getfield 26, 3) := by decide +kernel
theorem dX11_way_4 : decode cX11_way 4 = .ok (.aload_n 0, 1) := by decide +kernel
theorem dX11_way_5 : decode cX11_way 5 = .ok (.getfield 10, 3) := by decide +kernel
theorem dX11_way_8 : decode cX11_way 8 = .ok (.invokevirtual 109, 3) := by decide +kernel
theorem dX11_way_11 : decode cX11_way 11 = .ok (.istore_n 1, 1) := by decide +kernel
theorem dX11_way_12 : decode cX11_way 12 = .ok (.iload_n 1, 1) := by decide +kernel
theorem dX11_way_13 : decode cX11_way 13 = .ok (.ifCond .lt 7, 3) := by decide +kernel
theorem dX11_way_16 : decode cX11_way 16 = .ok (.iconst (-1), 1) := by decide +kernel
theorem dX11_way_17 : decode cX11_way 17 = .ok (.iload_n 1, 1) := by decide +kernel
theorem dX11_way_18 : decode cX11_way 18 = .ok (.isub, 1) := by decide +kernel
theorem dX11_way_19 : decode cX11_way 19 = .ok (.ireturn, 1) := by decide +kernel
theorem dX11_way_20 : decode cX11_way 20 = .ok (.aload_n 0, 1) := by decide +kernel
theorem dX11_way_21 : decode cX11_way 21 = .ok (.getfield 49, 3) := by decide +kernel
theorem dX11_way_24 : decode cX11_way 24 = .ok (.iconst 0, 1) := by decide +kernel
theorem dX11_way_25 : decode cX11_way 25 = .ok (.putfield 113, 3) := by decide +kernel
theorem dX11_way_28 : decode cX11_way 28 = .ok (.aload_n 0, 1) := by decide +kernel
theorem dX11_way_29 : decode cX11_way 29 = .ok (.getfield 49, 3) := by decide +kernel
theorem dX11_way_32 : decode cX11_way 32 = .ok (.iconst 0, 1) := by decide +kernel
theorem dX11_way_33 : decode cX11_way 33 = .ok (.putfield 117, 3) := by decide +kernel
theorem dX11_way_36 : decode cX11_way 36 = .ok (.aload_n 0, 1) := by decide +kernel
theorem dX11_way_37 : decode cX11_way 37 = .ok (.getfield 56, 3) := by decide +kernel
theorem dX11_way_40 : decode cX11_way 40 = .ok (.invokevirtual 121, 3) := by decide +kernel
theorem dX11_way_43 : decode cX11_way 43 = .ok (.aload_n 0, 1) := by decide +kernel
theorem dX11_way_44 : decode cX11_way 44 = .ok (.getfield 26, 3) := by decide +kernel
theorem dX11_way_47 : decode cX11_way 47 = .ok (.getfield 124, 3) := by decide +kernel
theorem dX11_way_50 : decode cX11_way 50 = .ok (.ireturn, 1) := by decide +kernel
theorem dX11_bearers_0 : decode cX11_bearers 0 = .ok (.aload_n 0, 1) := by decide +kernel
theorem dX11_bearers_1 : decode cX11_bearers 1 = .ok (.getfield 10, 3) := by decide +kernel
theorem dX11_bearers_4 : decode cX11_bearers 4 = .ok (.invokevirtual 127, 3) := by decide +kernel
theorem dX11_bearers_7 : decode cX11_bearers 7 = .ok (.ifCond .ne 5, 3) := by decide +kernel
theorem dX11_bearers_10 : decode cX11_bearers 10 = .ok (.iconst 0, 1) := by decide +kernel
theorem dX11_bearers_11 : decode cX11_bearers 11 = .ok (.ireturn, 1) := by decide +kernel
theorem dX11_bearers_12 : decode cX11_bearers 12 = .ok (.aload_n 0, 1) := by decide +kernel
theorem dX11_bearers_13 : decode cX11_bearers 13 = .ok (.getfield 35, 3) := by decide +kernel
theorem dX11_bearers_16 : decode cX11_bearers 16 = .ok (.aload_n 0, 1) := by decide +kernel
theorem dX11_bearers_17 : decode cX11_bearers 17 = .ok (.getfield 10, 3) := by decide +kernel
theorem dX11_bearers_20 : decode cX11_bearers 20 = .ok (.invokevirtual 131, 3) := by decide +kernel
theorem dX11_bearers_23 : decode cX11_bearers 23 = .ok (.istore_n 1, 1) := by decide +kernel
theorem dX11_bearers_24 : decode cX11_bearers 24 = .ok (.aload_n 0, 1) := by decide +kernel
theorem dX11_bearers_25 : decode cX11_bearers 25 = .ok (.getfield 10, 3) := by decide +kernel
theorem dX11_bearers_28 : decode cX11_bearers 28 = .ok (.invokevirtual 134, 3) := by decide +kernel
theorem dX11_bearers_31 : decode cX11_bearers 31 = .ok (.istore_n 2, 1) := by decide +kernel
theorem dX11_bearers_32 : decode cX11_bearers 32 = .ok (.iload_n 2, 1) := by decide +kernel
theorem dX11_bearers_33 : decode cX11_bearers 33 = .ok (.ifCond .lt 7, 3) := by decide +kernel
theorem dX11_bearers_36 : decode cX11_bearers 36 = .ok (.iconst (-1), 1) := by decide +kernel
theorem dX11_bearers_37 : decode cX11_bearers 37 = .ok (.iload_n 2, 1) := by decide +kernel
theorem dX11_bearers_38 : decode cX11_bearers 38 = .ok (.isub, 1) := by decide +kernel
theorem dX11_bearers_39 : decode cX11_bearers 39 = .ok (.ireturn, 1) := by decide +kernel
theorem dX11_bearers_40 : decode cX11_bearers 40 = .ok (.aload_n 0, 1) := by decide +kernel
theorem dX11_bearers_41 : decode cX11_bearers 41 = .ok (.getfield 35, 3) := by decide +kernel
theorem dX11_bearers_44 : decode cX11_bearers 44 = .ok (.dup, 1) := by decide +kernel
theorem dX11_bearers_45 : decode cX11_bearers 45 = .ok (.getfield 137, 3) := by decide +kernel
theorem dX11_bearers_48 : decode cX11_bearers 48 = .ok (.iload_n 1, 1) := by decide +kernel
theorem dX11_bearers_49 : decode cX11_bearers 49 = .ok (.iadd, 1) := by decide +kernel
theorem dX11_bearers_50 : decode cX11_bearers 50 = .ok (.putfield 137, 3) := by decide +kernel
theorem dX11_bearers_53 : decode cX11_bearers 53 = .ok (.aload_n 0, 1) := by decide +kernel
theorem dX11_bearers_54 : decode cX11_bearers 54 = .ok (.getfield 56, 3) := by decide +kernel
theorem dX11_bearers_57 : decode cX11_bearers 57 = .ok (.invokevirtual 121, 3) := by decide +kernel
theorem dX11_bearers_60 : decode cX11_bearers 60 = .ok (.iload_n 1, 1) := by decide +kernel
theorem dX11_bearers_61 : decode cX11_bearers 61 = .ok (.ireturn, 1) := by decide +kernel
theorem dX11_sayings_0 : decode cX11_sayings 0 = .ok (.aload_n 0, 1) := by decide +kernel
theorem dX11_sayings_1 : decode cX11_sayings 1 = .ok (.getfield 10, 3) := by decide +kernel
theorem dX11_sayings_4 : decode cX11_sayings 4 = .ok (.invokevirtual 127, 3) := by decide +kernel
theorem dX11_sayings_7 : decode cX11_sayings 7 = .ok (.ifCond .ne 5, 3) := by decide +kernel
theorem dX11_sayings_10 : decode cX11_sayings 10 = .ok (.iconst 0, 1) := by decide +kernel
theorem dX11_sayings_11 : decode cX11_sayings 11 = .ok (.ireturn, 1) := by decide +kernel
theorem dX11_sayings_12 : decode cX11_sayings 12 = .ok (.aload_n 0, 1) := by decide +kernel
theorem dX11_sayings_13 : decode cX11_sayings 13 = .ok (.getfield 42, 3) := by decide +kernel
theorem dX11_sayings_16 : decode cX11_sayings 16 = .ok (.aload_n 0, 1) := by decide +kernel
theorem dX11_sayings_17 : decode cX11_sayings 17 = .ok (.getfield 10, 3) := by decide +kernel
theorem dX11_sayings_20 : decode cX11_sayings 20 = .ok (.invokevirtual 140, 3) := by decide +kernel
theorem dX11_sayings_23 : decode cX11_sayings 23 = .ok (.istore_n 1, 1) := by decide +kernel
theorem dX11_sayings_24 : decode cX11_sayings 24 = .ok (.aload_n 0, 1) := by decide +kernel
theorem dX11_sayings_25 : decode cX11_sayings 25 = .ok (.getfield 10, 3) := by decide +kernel
theorem dX11_sayings_28 : decode cX11_sayings 28 = .ok (.invokevirtual 134, 3) := by decide +kernel
theorem dX11_sayings_31 : decode cX11_sayings 31 = .ok (.istore_n 2, 1) := by decide +kernel
theorem dX11_sayings_32 : decode cX11_sayings 32 = .ok (.iload_n 2, 1) := by decide +kernel
theorem dX11_sayings_33 : decode cX11_sayings 33 = .ok (.ifCond .lt 7, 3) := by decide +kernel
theorem dX11_sayings_36 : decode cX11_sayings 36 = .ok (.iconst (-1), 1) := by decide +kernel
theorem dX11_sayings_37 : decode cX11_sayings 37 = .ok (.iload_n 2, 1) := by decide +kernel
theorem dX11_sayings_38 : decode cX11_sayings 38 = .ok (.isub, 1) := by decide +kernel
theorem dX11_sayings_39 : decode cX11_sayings 39 = .ok (.ireturn, 1) := by decide +kernel
theorem dX11_sayings_40 : decode cX11_sayings 40 = .ok (.aload_n 0, 1) := by decide +kernel
theorem dX11_sayings_41 : decode cX11_sayings 41 = .ok (.getfield 42, 3) := by decide +kernel
theorem dX11_sayings_44 : decode cX11_sayings 44 = .ok (.dup, 1) := by decide +kernel
theorem dX11_sayings_45 : decode cX11_sayings 45 = .ok (.getfield 141, 3) := by decide +kernel
theorem dX11_sayings_48 : decode cX11_sayings 48 = .ok (.iload_n 1, 1) := by decide +kernel
theorem dX11_sayings_49 : decode cX11_sayings 49 = .ok (.iadd, 1) := by decide +kernel
theorem dX11_sayings_50 : decode cX11_sayings 50 = .ok (.putfield 141, 3) := by decide +kernel
theorem dX11_sayings_53 : decode cX11_sayings 53 = .ok (.aload_n 0, 1) := by decide +kernel
theorem dX11_sayings_54 : decode cX11_sayings 54 = .ok (.getfield 56, 3) := by decide +kernel
theorem dX11_sayings_57 : decode cX11_sayings 57 = .ok (.invokevirtual 121, 3) := by decide +kernel
theorem dX11_sayings_60 : decode cX11_sayings 60 = .ok (.iload_n 1, 1) := by decide +kernel
theorem dX11_sayings_61 : decode cX11_sayings 61 = .ok (.ireturn, 1) := by decide +kernel
theorem dX11_rule_0 : decode cX11_rule 0 = .ok (.aload_n 0, 1) := by decide +kernel
theorem dX11_rule_1 : decode cX11_rule 1 = .ok (.getfield 98, 3) := by decide +kernel
theorem dX11_rule_4 : decode cX11_rule 4 = .ok (.aload_n 0, 1) := by decide +kernel
theorem dX11_rule_5 : decode cX11_rule 5 = .ok (.getfield 10, 3) := by decide +kernel
theorem dX11_rule_8 : decode cX11_rule 8 = .ok (.invokevirtual 142, 3) := by decide +kernel
theorem dX11_rule_11 : decode cX11_rule 11 = .ok (.istore_n 1, 1) := by decide +kernel
theorem dX11_rule_12 : decode cX11_rule 12 = .ok (.iload_n 1, 1) := by decide +kernel
theorem dX11_rule_13 : decode cX11_rule 13 = .ok (.ifCond .lt 7, 3) := by decide +kernel
theorem dX11_rule_16 : decode cX11_rule 16 = .ok (.iconst (-1), 1) := by decide +kernel
theorem dX11_rule_17 : decode cX11_rule 17 = .ok (.iload_n 1, 1) := by decide +kernel
theorem dX11_rule_18 : decode cX11_rule 18 = .ok (.isub, 1) := by decide +kernel
theorem dX11_rule_19 : decode cX11_rule 19 = .ok (.ireturn, 1) := by decide +kernel
theorem dX11_rule_20 : decode cX11_rule 20 = .ok (.aload_n 0, 1) := by decide +kernel
theorem dX11_rule_21 : decode cX11_rule 21 = .ok (.getfield 94, 3) := by decide +kernel
theorem dX11_rule_24 : decode cX11_rule 24 = .ok (.astore_n 2, 1) := by decide +kernel
theorem dX11_rule_25 : decode cX11_rule 25 = .ok (.aload_n 0, 1) := by decide +kernel
theorem dX11_rule_26 : decode cX11_rule 26 = .ok (.aload_n 0, 1) := by decide +kernel
theorem dX11_rule_27 : decode cX11_rule 27 = .ok (.getfield 98, 3) := by decide +kernel
theorem dX11_rule_30 : decode cX11_rule 30 = .ok (.putfield 94, 3) := by decide +kernel
theorem dX11_rule_33 : decode cX11_rule 33 = .ok (.aload_n 0, 1) := by decide +kernel
theorem dX11_rule_34 : decode cX11_rule 34 = .ok (.aload_n 2, 1) := by decide +kernel
theorem dX11_rule_35 : decode cX11_rule 35 = .ok (.putfield 98, 3) := by decide +kernel
theorem dX11_rule_38 : decode cX11_rule 38 = .ok (.iconst 0, 1) := by decide +kernel
theorem dX11_rule_39 : decode cX11_rule 39 = .ok (.ireturn, 1) := by decide +kernel
theorem dX11_bearer_0 : decode cX11_bearer 0 = .ok (.aload_n 0, 1) := by decide +kernel
theorem dX11_bearer_1 : decode cX11_bearer 1 = .ok (.getfield 35, 3) := by decide +kernel
theorem dX11_bearer_4 : decode cX11_bearer 4 = .ok (.iload_n 1, 1) := by decide +kernel
theorem dX11_bearer_5 : decode cX11_bearer 5 = .ok (.invokevirtual 143, 3) := by decide +kernel
theorem dX11_bearer_8 : decode cX11_bearer 8 = .ok (.ifCond .ne 13, 3) := by decide +kernel
theorem dX11_bearer_11 : decode cX11_bearer 11 = .ok (.new 146, 3) := by decide +kernel
theorem dX11_bearer_14 : decode cX11_bearer 14 = .ok (.dup, 1) := by decide +kernel
theorem dX11_bearer_15 : decode cX11_bearer 15 = .ok (.ldc 148, 2) := by decide +kernel
theorem dX11_bearer_17 : decode cX11_bearer 17 = .ok (.invokespecial 150, 3) := by decide +kernel
theorem dX11_bearer_20 : decode cX11_bearer 20 = .ok (.athrow, 1) := by decide +kernel
theorem dX11_bearer_21 : decode cX11_bearer 21 = .ok (.iload_n 2, 1) := by decide +kernel
theorem dX11_bearer_22 : decode cX11_bearer 22 = .ok (.tableswitch 116 0 4 #[34, 44, 54, 64, 76], 34) := by decide +kernel
theorem dX11_bearer_56 : decode cX11_bearer 56 = .ok (.aload_n 0, 1) := by decide +kernel
theorem dX11_bearer_57 : decode cX11_bearer 57 = .ok (.getfield 35, 3) := by decide +kernel
theorem dX11_bearer_60 : decode cX11_bearer 60 = .ok (.getfield 153, 3) := by decide +kernel
theorem dX11_bearer_63 : decode cX11_bearer 63 = .ok (.iload_n 1, 1) := by decide +kernel
theorem dX11_bearer_64 : decode cX11_bearer 64 = .ok (.iaload, 1) := by decide +kernel
theorem dX11_bearer_65 : decode cX11_bearer 65 = .ok (.ireturn, 1) := by decide +kernel
theorem dX11_bearer_66 : decode cX11_bearer 66 = .ok (.aload_n 0, 1) := by decide +kernel
theorem dX11_bearer_67 : decode cX11_bearer 67 = .ok (.getfield 35, 3) := by decide +kernel
theorem dX11_bearer_70 : decode cX11_bearer 70 = .ok (.getfield 156, 3) := by decide +kernel
theorem dX11_bearer_73 : decode cX11_bearer 73 = .ok (.iload_n 1, 1) := by decide +kernel
theorem dX11_bearer_74 : decode cX11_bearer 74 = .ok (.iaload, 1) := by decide +kernel
theorem dX11_bearer_75 : decode cX11_bearer 75 = .ok (.ireturn, 1) := by decide +kernel
theorem dX11_bearer_76 : decode cX11_bearer 76 = .ok (.aload_n 0, 1) := by decide +kernel
theorem dX11_bearer_77 : decode cX11_bearer 77 = .ok (.getfield 49, 3) := by decide +kernel
theorem dX11_bearer_80 : decode cX11_bearer 80 = .ok (.getfield 159, 3) := by decide +kernel
theorem dX11_bearer_83 : decode cX11_bearer 83 = .ok (.iload_n 1, 1) := by decide +kernel
theorem dX11_bearer_84 : decode cX11_bearer 84 = .ok (.iaload, 1) := by decide +kernel
theorem dX11_bearer_85 : decode cX11_bearer 85 = .ok (.ireturn, 1) := by decide +kernel
theorem dX11_bearer_86 : decode cX11_bearer 86 = .ok (.aload_n 0, 1) := by decide +kernel
theorem dX11_bearer_87 : decode cX11_bearer 87 = .ok (.getfield 49, 3) := by decide +kernel
theorem dX11_bearer_90 : decode cX11_bearer 90 = .ok (.getfield 162, 3) := by decide +kernel
theorem dX11_bearer_93 : decode cX11_bearer 93 = .ok (.iload_n 1, 1) := by decide +kernel
theorem dX11_bearer_94 : decode cX11_bearer 94 = .ok (.ishr, 1) := by decide +kernel
theorem dX11_bearer_95 : decode cX11_bearer 95 = .ok (.iconst 1, 1) := by decide +kernel
theorem dX11_bearer_96 : decode cX11_bearer 96 = .ok (.iand, 1) := by decide +kernel
theorem dX11_bearer_97 : decode cX11_bearer 97 = .ok (.ireturn, 1) := by decide +kernel
theorem dX11_bearer_98 : decode cX11_bearer 98 = .ok (.aload_n 0, 1) := by decide +kernel
theorem dX11_bearer_99 : decode cX11_bearer 99 = .ok (.getfield 35, 3) := by decide +kernel
theorem dX11_bearer_102 : decode cX11_bearer 102 = .ok (.aload_n 0, 1) := by decide +kernel
theorem dX11_bearer_103 : decode cX11_bearer 103 = .ok (.getfield 94, 3) := by decide +kernel
theorem dX11_bearer_106 : decode cX11_bearer 106 = .ok (.iload_n 1, 1) := by decide +kernel
theorem dX11_bearer_107 : decode cX11_bearer 107 = .ok (.aload_n 0, 1) := by decide +kernel
theorem dX11_bearer_108 : decode cX11_bearer 108 = .ok (.getfield 49, 3) := by decide +kernel
theorem dX11_bearer_111 : decode cX11_bearer 111 = .ok (.getfield 162, 3) := by decide +kernel
theorem dX11_bearer_114 : decode cX11_bearer 114 = .ok (.iconst 1, 1) := by decide +kernel
theorem dX11_bearer_115 : decode cX11_bearer 115 = .ok (.iload_n 1, 1) := by decide +kernel
theorem dX11_bearer_116 : decode cX11_bearer 116 = .ok (.ishl, 1) := by decide +kernel
theorem dX11_bearer_117 : decode cX11_bearer 117 = .ok (.ior, 1) := by decide +kernel
theorem dX11_bearer_118 : decode cX11_bearer 118 = .ok (.aload_n 0, 1) := by decide +kernel
theorem dX11_bearer_119 : decode cX11_bearer 119 = .ok (.getfield 49, 3) := by decide +kernel
theorem dX11_bearer_122 : decode cX11_bearer 122 = .ok (.getfield 159, 3) := by decide +kernel
theorem dX11_bearer_125 : decode cX11_bearer 125 = .ok (.iload_n 1, 1) := by decide +kernel
theorem dX11_bearer_126 : decode cX11_bearer 126 = .ok (.iaload, 1) := by decide +kernel
theorem dX11_bearer_127 : decode cX11_bearer 127 = .ok (.aload_n 0, 1) := by decide +kernel
theorem dX11_bearer_128 : decode cX11_bearer 128 = .ok (.getfield 49, 3) := by decide +kernel
theorem dX11_bearer_131 : decode cX11_bearer 131 = .ok (.getfield 113, 3) := by decide +kernel
theorem dX11_bearer_134 : decode cX11_bearer 134 = .ok (.invokevirtual 165, 3) := by decide +kernel
theorem dX11_bearer_137 : decode cX11_bearer 137 = .ok (.ireturn, 1) := by decide +kernel
theorem dX11_bearer_138 : decode cX11_bearer 138 = .ok (.new 146, 3) := by decide +kernel
theorem dX11_bearer_141 : decode cX11_bearer 141 = .ok (.dup, 1) := by decide +kernel
theorem dX11_bearer_142 : decode cX11_bearer 142 = .ok (.ldc 169, 2) := by decide +kernel
theorem dX11_bearer_144 : decode cX11_bearer 144 = .ok (.invokespecial 150, 3) := by decide +kernel
theorem dX11_bearer_147 : decode cX11_bearer 147 = .ok (.athrow, 1) := by decide +kernel
theorem dX11_saying_0 : decode cX11_saying 0 = .ok (.aload_n 0, 1) := by decide +kernel
theorem dX11_saying_1 : decode cX11_saying 1 = .ok (.getfield 42, 3) := by decide +kernel
theorem dX11_saying_4 : decode cX11_saying 4 = .ok (.iload_n 1, 1) := by decide +kernel
theorem dX11_saying_5 : decode cX11_saying 5 = .ok (.invokevirtual 171, 3) := by decide +kernel
theorem dX11_saying_8 : decode cX11_saying 8 = .ok (.ifCond .ne 13, 3) := by decide +kernel
theorem dX11_saying_11 : decode cX11_saying 11 = .ok (.new 146, 3) := by decide +kernel
theorem dX11_saying_14 : decode cX11_saying 14 = .ok (.dup, 1) := by decide +kernel
theorem dX11_saying_15 : decode cX11_saying 15 = .ok (.ldc 172, 2) := by decide +kernel
theorem dX11_saying_17 : decode cX11_saying 17 = .ok (.invokespecial 150, 3) := by decide +kernel
theorem dX11_saying_20 : decode cX11_saying 20 = .ok (.athrow, 1) := by decide +kernel
theorem dX11_saying_21 : decode cX11_saying 21 = .ok (.iload_n 2, 1) := by decide +kernel
theorem dX11_saying_22 : decode cX11_saying 22 = .ok (.tableswitch 117 0 5 #[38, 48, 65, 75, 85, 97], 38) := by decide +kernel
theorem dX11_saying_60 : decode cX11_saying 60 = .ok (.aload_n 0, 1) := by decide +kernel
theorem dX11_saying_61 : decode cX11_saying 61 = .ok (.getfield 42, 3) := by decide +kernel
theorem dX11_saying_64 : decode cX11_saying 64 = .ok (.getfield 174, 3) := by decide +kernel
theorem dX11_saying_67 : decode cX11_saying 67 = .ok (.iload_n 1, 1) := by decide +kernel
theorem dX11_saying_68 : decode cX11_saying 68 = .ok (.iaload, 1) := by decide +kernel
theorem dX11_saying_69 : decode cX11_saying 69 = .ok (.ireturn, 1) := by decide +kernel
theorem dX11_saying_70 : decode cX11_saying 70 = .ok (.aload_n 0, 1) := by decide +kernel
theorem dX11_saying_71 : decode cX11_saying 71 = .ok (.getfield 42, 3) := by decide +kernel
theorem dX11_saying_74 : decode cX11_saying 74 = .ok (.iload_n 1, 1) := by decide +kernel
theorem dX11_saying_75 : decode cX11_saying 75 = .ok (.invokevirtual 177, 3) := by decide +kernel
theorem dX11_saying_78 : decode cX11_saying 78 = .ok (.ifCond .eq 7, 3) := by decide +kernel
theorem dX11_saying_81 : decode cX11_saying 81 = .ok (.iconst 1, 1) := by decide +kernel
theorem dX11_saying_82 : decode cX11_saying 82 = .ok (.goto 4, 3) := by decide +kernel
theorem dX11_saying_85 : decode cX11_saying 85 = .ok (.iconst 0, 1) := by decide +kernel
theorem dX11_saying_86 : decode cX11_saying 86 = .ok (.ireturn, 1) := by decide +kernel
theorem dX11_saying_87 : decode cX11_saying 87 = .ok (.aload_n 0, 1) := by decide +kernel
theorem dX11_saying_88 : decode cX11_saying 88 = .ok (.getfield 42, 3) := by decide +kernel
theorem dX11_saying_91 : decode cX11_saying 91 = .ok (.getfield 180, 3) := by decide +kernel
theorem dX11_saying_94 : decode cX11_saying 94 = .ok (.iload_n 1, 1) := by decide +kernel
theorem dX11_saying_95 : decode cX11_saying 95 = .ok (.iaload, 1) := by decide +kernel
theorem dX11_saying_96 : decode cX11_saying 96 = .ok (.ireturn, 1) := by decide +kernel
theorem dX11_saying_97 : decode cX11_saying 97 = .ok (.aload_n 0, 1) := by decide +kernel
theorem dX11_saying_98 : decode cX11_saying 98 = .ok (.getfield 42, 3) := by decide +kernel
theorem dX11_saying_101 : decode cX11_saying 101 = .ok (.getfield 183, 3) := by decide +kernel
theorem dX11_saying_104 : decode cX11_saying 104 = .ok (.iload_n 1, 1) := by decide +kernel
theorem dX11_saying_105 : decode cX11_saying 105 = .ok (.iaload, 1) := by decide +kernel
theorem dX11_saying_106 : decode cX11_saying 106 = .ok (.ireturn, 1) := by decide +kernel
theorem dX11_saying_107 : decode cX11_saying 107 = .ok (.aload_n 0, 1) := by decide +kernel
theorem dX11_saying_108 : decode cX11_saying 108 = .ok (.getfield 49, 3) := by decide +kernel
theorem dX11_saying_111 : decode cX11_saying 111 = .ok (.getfield 186, 3) := by decide +kernel
theorem dX11_saying_114 : decode cX11_saying 114 = .ok (.iload_n 1, 1) := by decide +kernel
theorem dX11_saying_115 : decode cX11_saying 115 = .ok (.ishr, 1) := by decide +kernel
theorem dX11_saying_116 : decode cX11_saying 116 = .ok (.iconst 1, 1) := by decide +kernel
theorem dX11_saying_117 : decode cX11_saying 117 = .ok (.iand, 1) := by decide +kernel
theorem dX11_saying_118 : decode cX11_saying 118 = .ok (.ireturn, 1) := by decide +kernel
theorem dX11_saying_119 : decode cX11_saying 119 = .ok (.aload_n 0, 1) := by decide +kernel
theorem dX11_saying_120 : decode cX11_saying 120 = .ok (.getfield 42, 3) := by decide +kernel
theorem dX11_saying_123 : decode cX11_saying 123 = .ok (.getfield 183, 3) := by decide +kernel
theorem dX11_saying_126 : decode cX11_saying 126 = .ok (.iload_n 1, 1) := by decide +kernel
theorem dX11_saying_127 : decode cX11_saying 127 = .ok (.iaload, 1) := by decide +kernel
theorem dX11_saying_128 : decode cX11_saying 128 = .ok (.aload_n 0, 1) := by decide +kernel
theorem dX11_saying_129 : decode cX11_saying 129 = .ok (.getfield 49, 3) := by decide +kernel
theorem dX11_saying_132 : decode cX11_saying 132 = .ok (.getfield 189, 3) := by decide +kernel
theorem dX11_saying_135 : decode cX11_saying 135 = .ok (.ishr, 1) := by decide +kernel
theorem dX11_saying_136 : decode cX11_saying 136 = .ok (.iconst 1, 1) := by decide +kernel
theorem dX11_saying_137 : decode cX11_saying 137 = .ok (.iand, 1) := by decide +kernel
theorem dX11_saying_138 : decode cX11_saying 138 = .ok (.ireturn, 1) := by decide +kernel
theorem dX11_saying_139 : decode cX11_saying 139 = .ok (.new 146, 3) := by decide +kernel
theorem dX11_saying_142 : decode cX11_saying 142 = .ok (.dup, 1) := by decide +kernel
theorem dX11_saying_143 : decode cX11_saying 143 = .ok (.ldc 192, 2) := by decide +kernel
theorem dX11_saying_145 : decode cX11_saying 145 = .ok (.invokespecial 150, 3) := by decide +kernel
theorem dX11_saying_148 : decode cX11_saying 148 = .ok (.athrow, 1) := by decide +kernel
theorem dX11_force_0 : decode cX11_force 0 = .ok (.aload_n 0, 1) := by decide +kernel
theorem dX11_force_1 : decode cX11_force 1 = .ok (.getfield 19, 3) := by decide +kernel
theorem dX11_force_4 : decode cX11_force 4 = .ok (.aload_n 0, 1) := by decide +kernel
theorem dX11_force_5 : decode cX11_force 5 = .ok (.getfield 49, 3) := by decide +kernel
theorem dX11_force_8 : decode cX11_force 8 = .ok (.getfield 194, 3) := by decide +kernel
theorem dX11_force_11 : decode cX11_force 11 = .ok (.aload_n 0, 1) := by decide +kernel
theorem dX11_force_12 : decode cX11_force 12 = .ok (.getfield 26, 3) := by decide +kernel
theorem dX11_force_15 : decode cX11_force 15 = .ok (.aload_n 0, 1) := by decide +kernel
theorem dX11_force_16 : decode cX11_force 16 = .ok (.getfield 49, 3) := by decide +kernel
theorem dX11_force_19 : decode cX11_force 19 = .ok (.getfield 113, 3) := by decide +kernel
theorem dX11_force_22 : decode cX11_force 22 = .ok (.invokevirtual 197, 3) := by decide +kernel
theorem dX11_force_25 : decode cX11_force 25 = .ok (.iadd, 1) := by decide +kernel
theorem dX11_force_26 : decode cX11_force 26 = .ok (.i2l, 1) := by decide +kernel
theorem dX11_force_27 : decode cX11_force 27 = .ok (.aload_n 0, 1) := by decide +kernel
theorem dX11_force_28 : decode cX11_force 28 = .ok (.getfield 49, 3) := by decide +kernel
theorem dX11_force_31 : decode cX11_force 31 = .ok (.getfield 162, 3) := by decide +kernel
theorem dX11_force_34 : decode cX11_force 34 = .ok (.invokestatic 200, 3) := by decide +kernel
theorem dX11_force_37 : decode cX11_force 37 = .ok (.i2l, 1) := by decide +kernel
theorem dX11_force_38 : decode cX11_force 38 = .ok (.invokevirtual 205, 3) := by decide +kernel
theorem dX11_force_41 : decode cX11_force 41 = .ok (.aload_n 0, 1) := by decide +kernel
theorem dX11_force_42 : decode cX11_force 42 = .ok (.getfield 35, 3) := by decide +kernel
theorem dX11_force_45 : decode cX11_force 45 = .ok (.aload_n 0, 1) := by decide +kernel
theorem dX11_force_46 : decode cX11_force 46 = .ok (.getfield 94, 3) := by decide +kernel
theorem dX11_force_49 : decode cX11_force 49 = .ok (.aload_n 0, 1) := by decide +kernel
theorem dX11_force_50 : decode cX11_force 50 = .ok (.getfield 49, 3) := by decide +kernel
theorem dX11_force_53 : decode cX11_force 53 = .ok (.getfield 162, 3) := by decide +kernel
theorem dX11_force_56 : decode cX11_force 56 = .ok (.aload_n 0, 1) := by decide +kernel
theorem dX11_force_57 : decode cX11_force 57 = .ok (.getfield 49, 3) := by decide +kernel
theorem dX11_force_60 : decode cX11_force 60 = .ok (.invokevirtual 209, 3) := by decide +kernel
theorem dX11_force_63 : decode cX11_force 63 = .ok (.ireturn, 1) := by decide +kernel
theorem dX11_load_0 : decode cX11_load 0 = .ok (.iload_n 1, 1) := by decide +kernel
theorem dX11_load_1 : decode cX11_load 1 = .ok (.ifCond .lt 10, 3) := by decide +kernel
theorem dX11_load_4 : decode cX11_load 4 = .ok (.iload_n 1, 1) := by decide +kernel
theorem dX11_load_5 : decode cX11_load 5 = .ok (.sipush 999, 3) := by decide +kernel
theorem dX11_load_8 : decode cX11_load 8 = .ok (.if_icmp .le 5, 3) := by decide +kernel
theorem dX11_load_11 : decode cX11_load 11 = .ok (.iconst (-1), 1) := by decide +kernel
theorem dX11_load_12 : decode cX11_load 12 = .ok (.ireturn, 1) := by decide +kernel
theorem dX11_load_13 : decode cX11_load 13 = .ok (.aload_n 0, 1) := by decide +kernel
theorem dX11_load_14 : decode cX11_load 14 = .ok (.getfield 49, 3) := by decide +kernel
theorem dX11_load_17 : decode cX11_load 17 = .ok (.getfield 194, 3) := by decide +kernel
theorem dX11_load_20 : decode cX11_load 20 = .ok (.istore_n 2, 1) := by decide +kernel
theorem dX11_load_21 : decode cX11_load 21 = .ok (.aload_n 0, 1) := by decide +kernel
theorem dX11_load_22 : decode cX11_load 22 = .ok (.getfield 49, 3) := by decide +kernel
theorem dX11_load_25 : decode cX11_load 25 = .ok (.iload_n 1, 1) := by decide +kernel
theorem dX11_load_26 : decode cX11_load 26 = .ok (.putfield 194, 3) := by decide +kernel
theorem dX11_load_29 : decode cX11_load 29 = .ok (.iload_n 2, 1) := by decide +kernel
theorem dX11_load_30 : decode cX11_load 30 = .ok (.ireturn, 1) := by decide +kernel
theorem dX11_sheet_0 : decode cX11_sheet 0 = .ok (.iload_n 1, 1) := by decide +kernel
theorem dX11_sheet_1 : decode cX11_sheet 1 = .ok (.ifCond .lt 14, 3) := by decide +kernel
theorem dX11_sheet_4 : decode cX11_sheet 4 = .ok (.iload_n 1, 1) := by decide +kernel
theorem dX11_sheet_5 : decode cX11_sheet 5 = .ok (.iconst 3, 1) := by decide +kernel
theorem dX11_sheet_6 : decode cX11_sheet 6 = .ok (.if_icmp .gt 9, 3) := by decide +kernel
theorem dX11_sheet_9 : decode cX11_sheet 9 = .ok (.iload_n 2, 1) := by decide +kernel
theorem dX11_sheet_10 : decode cX11_sheet 10 = .ok (.bipush 12, 2) := by decide +kernel
theorem dX11_sheet_12 : decode cX11_sheet 12 = .ok (.if_icmp .le 5, 3) := by decide +kernel
theorem dX11_sheet_15 : decode cX11_sheet 15 = .ok (.iconst (-1), 1) := by decide +kernel
theorem dX11_sheet_16 : decode cX11_sheet 16 = .ok (.ireturn, 1) := by decide +kernel
theorem dX11_sheet_17 : decode cX11_sheet 17 = .ok (.iload_n 1, 1) := by decide +kernel
theorem dX11_sheet_18 : decode cX11_sheet 18 = .ok (.iconst 3, 1) := by decide +kernel
theorem dX11_sheet_19 : decode cX11_sheet 19 = .ok (.if_icmp .ne 18, 3) := by decide +kernel
theorem dX11_sheet_22 : decode cX11_sheet 22 = .ok (.aload_n 0, 1) := by decide +kernel
theorem dX11_sheet_23 : decode cX11_sheet 23 = .ok (.getfield 26, 3) := by decide +kernel
theorem dX11_sheet_26 : decode cX11_sheet 26 = .ok (.iload_n 1, 1) := by decide +kernel
theorem dX11_sheet_27 : decode cX11_sheet 27 = .ok (.iconst 0, 1) := by decide +kernel
theorem dX11_sheet_28 : decode cX11_sheet 28 = .ok (.iload_n 3, 1) := by decide +kernel
theorem dX11_sheet_29 : decode cX11_sheet 29 = .ok (.iload 4, 2) := by decide +kernel
theorem dX11_sheet_31 : decode cX11_sheet 31 = .ok (.invokevirtual 213, 3) := by decide +kernel
theorem dX11_sheet_34 : decode cX11_sheet 34 = .ok (.bipush (-3), 2) := by decide +kernel
theorem dX11_sheet_36 : decode cX11_sheet 36 = .ok (.ireturn, 1) := by decide +kernel
theorem dX11_sheet_37 : decode cX11_sheet 37 = .ok (.iload_n 2, 1) := by decide +kernel
theorem dX11_sheet_38 : decode cX11_sheet 38 = .ok (.ifCond .ge 6, 3) := by decide +kernel
theorem dX11_sheet_41 : decode cX11_sheet 41 = .ok (.bipush (-2), 2) := by decide +kernel
theorem dX11_sheet_43 : decode cX11_sheet 43 = .ok (.ireturn, 1) := by decide +kernel
theorem dX11_sheet_44 : decode cX11_sheet 44 = .ok (.aload_n 0, 1) := by decide +kernel
theorem dX11_sheet_45 : decode cX11_sheet 45 = .ok (.getfield 26, 3) := by decide +kernel
theorem dX11_sheet_48 : decode cX11_sheet 48 = .ok (.iload_n 1, 1) := by decide +kernel
theorem dX11_sheet_49 : decode cX11_sheet 49 = .ok (.iload_n 2, 1) := by decide +kernel
theorem dX11_sheet_50 : decode cX11_sheet 50 = .ok (.iload_n 3, 1) := by decide +kernel
theorem dX11_sheet_51 : decode cX11_sheet 51 = .ok (.iload 4, 2) := by decide +kernel
theorem dX11_sheet_53 : decode cX11_sheet 53 = .ok (.invokevirtual 213, 3) := by decide +kernel
theorem dX11_sheet_56 : decode cX11_sheet 56 = .ok (.aload_n 0, 1) := by decide +kernel
theorem dX11_sheet_57 : decode cX11_sheet 57 = .ok (.getfield 26, 3) := by decide +kernel
theorem dX11_sheet_60 : decode cX11_sheet 60 = .ok (.invokevirtual 217, 3) := by decide +kernel
theorem dX11_sheet_63 : decode cX11_sheet 63 = .ok (.ireturn, 1) := by decide +kernel
theorem dX11_step_0 : decode cX11_step 0 = .ok (.aload_n 0, 1) := by decide +kernel
theorem dX11_step_1 : decode cX11_step 1 = .ok (.getfield 56, 3) := by decide +kernel
theorem dX11_step_4 : decode cX11_step 4 = .ok (.aload_n 0, 1) := by decide +kernel
theorem dX11_step_5 : decode cX11_step 5 = .ok (.getfield 49, 3) := by decide +kernel
theorem dX11_step_8 : decode cX11_step 8 = .ok (.invokevirtual 220, 3) := by decide +kernel
theorem dX11_step_11 : decode cX11_step 11 = .ok (.aload_n 0, 1) := by decide +kernel
theorem dX11_step_12 : decode cX11_step 12 = .ok (.getfield 56, 3) := by decide +kernel
theorem dX11_step_15 : decode cX11_step 15 = .ok (.aload_n 0, 1) := by decide +kernel
theorem dX11_step_16 : decode cX11_step 16 = .ok (.getfield 49, 3) := by decide +kernel
theorem dX11_step_19 : decode cX11_step 19 = .ok (.aload_n 0, 1) := by decide +kernel
theorem dX11_step_20 : decode cX11_step 20 = .ok (.getfield 26, 3) := by decide +kernel
theorem dX11_step_23 : decode cX11_step 23 = .ok (.aload_n 0, 1) := by decide +kernel
theorem dX11_step_24 : decode cX11_step 24 = .ok (.getfield 35, 3) := by decide +kernel
theorem dX11_step_27 : decode cX11_step 27 = .ok (.aload_n 0, 1) := by decide +kernel
theorem dX11_step_28 : decode cX11_step 28 = .ok (.getfield 94, 3) := by decide +kernel
theorem dX11_step_31 : decode cX11_step 31 = .ok (.invokevirtual 224, 3) := by decide +kernel
theorem dX11_step_34 : decode cX11_step 34 = .ok (.invokevirtual 228, 3) := by decide +kernel
theorem dX11_step_37 : decode cX11_step 37 = .ok (.istore_n 1, 1) := by decide +kernel
theorem dX11_step_38 : decode cX11_step 38 = .ok (.iload_n 1, 1) := by decide +kernel
theorem dX11_step_39 : decode cX11_step 39 = .ok (.ifCond .lt 26, 3) := by decide +kernel
theorem dX11_step_42 : decode cX11_step 42 = .ok (.aload_n 0, 1) := by decide +kernel
theorem dX11_step_43 : decode cX11_step 43 = .ok (.getfield 19, 3) := by decide +kernel
theorem dX11_step_46 : decode cX11_step 46 = .ok (.aload_n 0, 1) := by decide +kernel
theorem dX11_step_47 : decode cX11_step 47 = .ok (.getfield 49, 3) := by decide +kernel
theorem dX11_step_50 : decode cX11_step 50 = .ok (.getfield 113, 3) := by decide +kernel
theorem dX11_step_53 : decode cX11_step 53 = .ok (.i2l, 1) := by decide +kernel
theorem dX11_step_54 : decode cX11_step 54 = .ok (.aload_n 0, 1) := by decide +kernel
theorem dX11_step_55 : decode cX11_step 55 = .ok (.getfield 49, 3) := by decide +kernel
theorem dX11_step_58 : decode cX11_step 58 = .ok (.getfield 231, 3) := by decide +kernel
theorem dX11_step_61 : decode cX11_step 61 = .ok (.i2l, 1) := by decide +kernel
theorem dX11_step_62 : decode cX11_step 62 = .ok (.invokevirtual 205, 3) := by decide +kernel
theorem dX11_step_65 : decode cX11_step 65 = .ok (.iload_n 1, 1) := by decide +kernel
theorem dX11_step_66 : decode cX11_step 66 = .ok (.ireturn, 1) := by decide +kernel
theorem dX11_take_0 : decode cX11_take 0 = .ok (.aload_n 0, 1) := by decide +kernel
theorem dX11_take_1 : decode cX11_take 1 = .ok (.getfield 56, 3) := by decide +kernel
theorem dX11_take_4 : decode cX11_take 4 = .ok (.aload_n 0, 1) := by decide +kernel
theorem dX11_take_5 : decode cX11_take 5 = .ok (.getfield 49, 3) := by decide +kernel
theorem dX11_take_8 : decode cX11_take 8 = .ok (.invokevirtual 220, 3) := by decide +kernel
theorem dX11_take_11 : decode cX11_take 11 = .ok (.aload_n 0, 1) := by decide +kernel
theorem dX11_take_12 : decode cX11_take 12 = .ok (.getfield 56, 3) := by decide +kernel
theorem dX11_take_15 : decode cX11_take 15 = .ok (.aload_n 0, 1) := by decide +kernel
theorem dX11_take_16 : decode cX11_take 16 = .ok (.getfield 49, 3) := by decide +kernel
theorem dX11_take_19 : decode cX11_take 19 = .ok (.aload_n 0, 1) := by decide +kernel
theorem dX11_take_20 : decode cX11_take 20 = .ok (.getfield 35, 3) := by decide +kernel
theorem dX11_take_23 : decode cX11_take 23 = .ok (.iload_n 1, 1) := by decide +kernel
theorem dX11_take_24 : decode cX11_take 24 = .ok (.invokevirtual 234, 3) := by decide +kernel
theorem dX11_take_27 : decode cX11_take 27 = .ok (.invokevirtual 228, 3) := by decide +kernel
theorem dX11_take_30 : decode cX11_take 30 = .ok (.ireturn, 1) := by decide +kernel
theorem dX11_leave_0 : decode cX11_leave 0 = .ok (.aload_n 0, 1) := by decide +kernel
theorem dX11_leave_1 : decode cX11_leave 1 = .ok (.getfield 56, 3) := by decide +kernel
theorem dX11_leave_4 : decode cX11_leave 4 = .ok (.aload_n 0, 1) := by decide +kernel
theorem dX11_leave_5 : decode cX11_leave 5 = .ok (.getfield 49, 3) := by decide +kernel
theorem dX11_leave_8 : decode cX11_leave 8 = .ok (.invokevirtual 220, 3) := by decide +kernel
theorem dX11_leave_11 : decode cX11_leave 11 = .ok (.aload_n 0, 1) := by decide +kernel
theorem dX11_leave_12 : decode cX11_leave 12 = .ok (.getfield 56, 3) := by decide +kernel
theorem dX11_leave_15 : decode cX11_leave 15 = .ok (.aload_n 0, 1) := by decide +kernel
theorem dX11_leave_16 : decode cX11_leave 16 = .ok (.getfield 49, 3) := by decide +kernel
theorem dX11_leave_19 : decode cX11_leave 19 = .ok (.aload_n 0, 1) := by decide +kernel
theorem dX11_leave_20 : decode cX11_leave 20 = .ok (.getfield 35, 3) := by decide +kernel
theorem dX11_leave_23 : decode cX11_leave 23 = .ok (.iload_n 1, 1) := by decide +kernel
theorem dX11_leave_24 : decode cX11_leave 24 = .ok (.invokevirtual 238, 3) := by decide +kernel
theorem dX11_leave_27 : decode cX11_leave 27 = .ok (.invokevirtual 228, 3) := by decide +kernel
theorem dX11_leave_30 : decode cX11_leave 30 = .ok (.ireturn, 1) := by decide +kernel
theorem dX11_seventh_0 : decode cX11_seventh 0 = .ok (.aload_n 0, 1) := by decide +kernel
theorem dX11_seventh_1 : decode cX11_seventh 1 = .ok (.getfield 56, 3) := by decide +kernel
theorem dX11_seventh_4 : decode cX11_seventh 4 = .ok (.aload_n 0, 1) := by decide +kernel
theorem dX11_seventh_5 : decode cX11_seventh 5 = .ok (.getfield 49, 3) := by decide +kernel
theorem dX11_seventh_8 : decode cX11_seventh 8 = .ok (.invokevirtual 220, 3) := by decide +kernel
theorem dX11_seventh_11 : decode cX11_seventh 11 = .ok (.aload_n 0, 1) := by decide +kernel
theorem dX11_seventh_12 : decode cX11_seventh 12 = .ok (.getfield 56, 3) := by decide +kernel
theorem dX11_seventh_15 : decode cX11_seventh 15 = .ok (.aload_n 0, 1) := by decide +kernel
theorem dX11_seventh_16 : decode cX11_seventh 16 = .ok (.getfield 49, 3) := by decide +kernel
theorem dX11_seventh_19 : decode cX11_seventh 19 = .ok (.iload_n 1, 1) := by decide +kernel
theorem dX11_seventh_20 : decode cX11_seventh 20 = .ok (.invokevirtual 241, 3) := by decide +kernel
theorem dX11_seventh_23 : decode cX11_seventh 23 = .ok (.invokevirtual 228, 3) := by decide +kernel
theorem dX11_seventh_26 : decode cX11_seventh 26 = .ok (.ireturn, 1) := by decide +kernel
theorem dX11_say_0 : decode cX11_say 0 = .ok (.aload_n 0, 1) := by decide +kernel
theorem dX11_say_1 : decode cX11_say 1 = .ok (.getfield 56, 3) := by decide +kernel
theorem dX11_say_4 : decode cX11_say 4 = .ok (.aload_n 0, 1) := by decide +kernel
theorem dX11_say_5 : decode cX11_say 5 = .ok (.getfield 49, 3) := by decide +kernel
theorem dX11_say_8 : decode cX11_say 8 = .ok (.invokevirtual 220, 3) := by decide +kernel
theorem dX11_say_11 : decode cX11_say 11 = .ok (.aload_n 0, 1) := by decide +kernel
theorem dX11_say_12 : decode cX11_say 12 = .ok (.getfield 56, 3) := by decide +kernel
theorem dX11_say_15 : decode cX11_say 15 = .ok (.aload_n 0, 1) := by decide +kernel
theorem dX11_say_16 : decode cX11_say 16 = .ok (.getfield 49, 3) := by decide +kernel
theorem dX11_say_19 : decode cX11_say 19 = .ok (.aload_n 0, 1) := by decide +kernel
theorem dX11_say_20 : decode cX11_say 20 = .ok (.getfield 26, 3) := by decide +kernel
theorem dX11_say_23 : decode cX11_say 23 = .ok (.aload_n 0, 1) := by decide +kernel
theorem dX11_say_24 : decode cX11_say 24 = .ok (.getfield 42, 3) := by decide +kernel
theorem dX11_say_27 : decode cX11_say 27 = .ok (.iload_n 1, 1) := by decide +kernel
theorem dX11_say_28 : decode cX11_say 28 = .ok (.invokevirtual 244, 3) := by decide +kernel
theorem dX11_say_31 : decode cX11_say 31 = .ok (.invokevirtual 228, 3) := by decide +kernel
theorem dX11_say_34 : decode cX11_say 34 = .ok (.ireturn, 1) := by decide +kernel
theorem dX11_walk_0 : decode cX11_walk 0 = .ok (.aload_n 0, 1) := by decide +kernel
theorem dX11_walk_1 : decode cX11_walk 1 = .ok (.invokevirtual 248, 3) := by decide +kernel
theorem dX11_walk_4 : decode cX11_walk 4 = .ok (.istore_n 1, 1) := by decide +kernel
theorem dX11_walk_5 : decode cX11_walk 5 = .ok (.aload_n 0, 1) := by decide +kernel
theorem dX11_walk_6 : decode cX11_walk 6 = .ok (.getfield 10, 3) := by decide +kernel
theorem dX11_walk_9 : decode cX11_walk 9 = .ok (.invokevirtual 134, 3) := by decide +kernel
theorem dX11_walk_12 : decode cX11_walk 12 = .ok (.istore_n 2, 1) := by decide +kernel
theorem dX11_walk_13 : decode cX11_walk 13 = .ok (.iload_n 2, 1) := by decide +kernel
theorem dX11_walk_14 : decode cX11_walk 14 = .ok (.ifCond .lt 7, 3) := by decide +kernel
theorem dX11_walk_17 : decode cX11_walk 17 = .ok (.iconst (-1), 1) := by decide +kernel
theorem dX11_walk_18 : decode cX11_walk 18 = .ok (.iload_n 2, 1) := by decide +kernel
theorem dX11_walk_19 : decode cX11_walk 19 = .ok (.isub, 1) := by decide +kernel
theorem dX11_walk_20 : decode cX11_walk 20 = .ok (.ireturn, 1) := by decide +kernel
theorem dX11_walk_21 : decode cX11_walk 21 = .ok (.aload_n 0, 1) := by decide +kernel
theorem dX11_walk_22 : decode cX11_walk 22 = .ok (.getfield 56, 3) := by decide +kernel
theorem dX11_walk_25 : decode cX11_walk 25 = .ok (.aload_n 0, 1) := by decide +kernel
theorem dX11_walk_26 : decode cX11_walk 26 = .ok (.getfield 49, 3) := by decide +kernel
theorem dX11_walk_29 : decode cX11_walk 29 = .ok (.invokevirtual 220, 3) := by decide +kernel
theorem dX11_walk_32 : decode cX11_walk 32 = .ok (.aload_n 0, 1) := by decide +kernel
theorem dX11_walk_33 : decode cX11_walk 33 = .ok (.getfield 49, 3) := by decide +kernel
theorem dX11_walk_36 : decode cX11_walk 36 = .ok (.getfield 231, 3) := by decide +kernel
theorem dX11_walk_39 : decode cX11_walk 39 = .ok (.istore_n 3, 1) := by decide +kernel
theorem dX11_walk_40 : decode cX11_walk 40 = .ok (.iconst 0, 1) := by decide +kernel
theorem dX11_walk_41 : decode cX11_walk 41 = .ok (.istore 4, 2) := by decide +kernel
theorem dX11_walk_43 : decode cX11_walk 43 = .ok (.iload 4, 2) := by decide +kernel
theorem dX11_walk_45 : decode cX11_walk 45 = .ok (.iload_n 1, 1) := by decide +kernel
theorem dX11_walk_46 : decode cX11_walk 46 = .ok (.if_icmp .ge 23, 3) := by decide +kernel
theorem dX11_walk_49 : decode cX11_walk 49 = .ok (.aload_n 0, 1) := by decide +kernel
theorem dX11_walk_50 : decode cX11_walk 50 = .ok (.aload_n 0, 1) := by decide +kernel
theorem dX11_walk_51 : decode cX11_walk 51 = .ok (.getfield 87, 3) := by decide +kernel
theorem dX11_walk_54 : decode cX11_walk 54 = .ok (.iload 4, 2) := by decide +kernel
theorem dX11_walk_56 : decode cX11_walk 56 = .ok (.iaload, 1) := by decide +kernel
theorem dX11_walk_57 : decode cX11_walk 57 = .ok (.invokevirtual 251, 3) := by decide +kernel
theorem dX11_walk_60 : decode cX11_walk 60 = .ok (.ifCond .lt 9, 3) := by decide +kernel
theorem dX11_walk_63 : decode cX11_walk 63 = .ok (.iinc 4 1, 3) := by decide +kernel
theorem dX11_walk_66 : decode cX11_walk 66 = .ok (.goto (-23), 3) := by decide +kernel
theorem dX11_walk_69 : decode cX11_walk 69 = .ok (.iload 4, 2) := by decide +kernel
theorem dX11_walk_71 : decode cX11_walk 71 = .ok (.ifCond .le 13, 3) := by decide +kernel
theorem dX11_walk_74 : decode cX11_walk 74 = .ok (.aload_n 0, 1) := by decide +kernel
theorem dX11_walk_75 : decode cX11_walk 75 = .ok (.getfield 56, 3) := by decide +kernel
theorem dX11_walk_78 : decode cX11_walk 78 = .ok (.iload 4, 2) := by decide +kernel
theorem dX11_walk_80 : decode cX11_walk 80 = .ok (.invokevirtual 228, 3) := by decide +kernel
theorem dX11_walk_83 : decode cX11_walk 83 = .ok (.pop, 1) := by decide +kernel
theorem dX11_walk_84 : decode cX11_walk 84 = .ok (.aload_n 0, 1) := by decide +kernel
theorem dX11_walk_85 : decode cX11_walk 85 = .ok (.getfield 19, 3) := by decide +kernel
theorem dX11_walk_88 : decode cX11_walk 88 = .ok (.iload 4, 2) := by decide +kernel
theorem dX11_walk_90 : decode cX11_walk 90 = .ok (.iload_n 1, 1) := by decide +kernel
theorem dX11_walk_91 : decode cX11_walk 91 = .ok (.if_icmp .ge 7, 3) := by decide +kernel
theorem dX11_walk_94 : decode cX11_walk 94 = .ok (.lconst 1, 1) := by decide +kernel
theorem dX11_walk_95 : decode cX11_walk 95 = .ok (.goto 4, 3) := by decide +kernel
theorem dX11_walk_98 : decode cX11_walk 98 = .ok (.lconst 0, 1) := by decide +kernel
theorem dX11_walk_99 : decode cX11_walk 99 = .ok (.aload_n 0, 1) := by decide +kernel
theorem dX11_walk_100 : decode cX11_walk 100 = .ok (.getfield 49, 3) := by decide +kernel
theorem dX11_walk_103 : decode cX11_walk 103 = .ok (.getfield 231, 3) := by decide +kernel
theorem dX11_walk_106 : decode cX11_walk 106 = .ok (.iload_n 3, 1) := by decide +kernel
theorem dX11_walk_107 : decode cX11_walk 107 = .ok (.isub, 1) := by decide +kernel
theorem dX11_walk_108 : decode cX11_walk 108 = .ok (.i2l, 1) := by decide +kernel
theorem dX11_walk_109 : decode cX11_walk 109 = .ok (.invokevirtual 205, 3) := by decide +kernel
theorem dX11_walk_112 : decode cX11_walk 112 = .ok (.iload 4, 2) := by decide +kernel
theorem dX11_walk_114 : decode cX11_walk 114 = .ok (.ireturn, 1) := by decide +kernel
theorem dX11_readActs_0 : decode cX11_readActs 0 = .ok (.aload_n 0, 1) := by decide +kernel
theorem dX11_readActs_1 : decode cX11_readActs 1 = .ok (.getfield 10, 3) := by decide +kernel
theorem dX11_readActs_4 : decode cX11_readActs 4 = .ok (.bipush 60, 2) := by decide +kernel
theorem dX11_readActs_6 : decode cX11_readActs 6 = .ok (.invokevirtual 254, 3) := by decide +kernel
theorem dX11_readActs_9 : decode cX11_readActs 9 = .ok (.iconst 0, 1) := by decide +kernel
theorem dX11_readActs_10 : decode cX11_readActs 10 = .ok (.istore_n 1, 1) := by decide +kernel
theorem dX11_readActs_11 : decode cX11_readActs 11 = .ok (.iload_n 1, 1) := by decide +kernel
theorem dX11_readActs_12 : decode cX11_readActs 12 = .ok (.bipush 60, 2) := by decide +kernel
theorem dX11_readActs_14 : decode cX11_readActs 14 = .ok (.if_icmp .ge 30, 3) := by decide +kernel
theorem dX11_readActs_17 : decode cX11_readActs 17 = .ok (.aload_n 0, 1) := by decide +kernel
theorem dX11_readActs_18 : decode cX11_readActs 18 = .ok (.getfield 10, 3) := by decide +kernel
theorem dX11_readActs_21 : decode cX11_readActs 21 = .ok (.invokevirtual 258, 3) := by decide +kernel
theorem dX11_readActs_24 : decode cX11_readActs 24 = .ok (.iconst (-1), 1) := by decide +kernel
theorem dX11_readActs_25 : decode cX11_readActs 25 = .ok (.if_icmp .eq 19, 3) := by decide +kernel
theorem dX11_readActs_28 : decode cX11_readActs 28 = .ok (.aload_n 0, 1) := by decide +kernel
theorem dX11_readActs_29 : decode cX11_readActs 29 = .ok (.getfield 87, 3) := by decide +kernel
theorem dX11_readActs_32 : decode cX11_readActs 32 = .ok (.iload_n 1, 1) := by decide +kernel
theorem dX11_readActs_33 : decode cX11_readActs 33 = .ok (.aload_n 0, 1) := by decide +kernel
theorem dX11_readActs_34 : decode cX11_readActs 34 = .ok (.invokevirtual 261, 3) := by decide +kernel
theorem dX11_readActs_37 : decode cX11_readActs 37 = .ok (.iastore, 1) := by decide +kernel
theorem dX11_readActs_38 : decode cX11_readActs 38 = .ok (.iinc 1 1, 3) := by decide +kernel
theorem dX11_readActs_41 : decode cX11_readActs 41 = .ok (.goto (-30), 3) := by decide +kernel
theorem dX11_readActs_44 : decode cX11_readActs 44 = .ok (.iload_n 1, 1) := by decide +kernel
theorem dX11_readActs_45 : decode cX11_readActs 45 = .ok (.ireturn, 1) := by decide +kernel
theorem dX11_readAct_0 : decode cX11_readAct 0 = .ok (.aload_n 0, 1) := by decide +kernel
theorem dX11_readAct_1 : decode cX11_readAct 1 = .ok (.getfield 10, 3) := by decide +kernel
theorem dX11_readAct_4 : decode cX11_readAct 4 = .ok (.invokevirtual 258, 3) := by decide +kernel
theorem dX11_readAct_7 : decode cX11_readAct 7 = .ok (.istore_n 1, 1) := by decide +kernel
theorem dX11_readAct_8 : decode cX11_readAct 8 = .ok (.iload_n 1, 1) := by decide +kernel
theorem dX11_readAct_9 : decode cX11_readAct 9 = .ok (.lookupswitch 111 #[(62, 51), (108, 62), (115, 62), (116, 62), (118, 85)], 51) := by decide +kernel
theorem dX11_readAct_60 : decode cX11_readAct 60 = .ok (.aload_n 0, 1) := by decide +kernel
theorem dX11_readAct_61 : decode cX11_readAct 61 = .ok (.getfield 10, 3) := by decide +kernel
theorem dX11_readAct_64 : decode cX11_readAct 64 = .ok (.invokevirtual 264, 3) := by decide +kernel
theorem dX11_readAct_67 : decode cX11_readAct 67 = .ok (.iload_n 1, 1) := by decide +kernel
theorem dX11_readAct_68 : decode cX11_readAct 68 = .ok (.iconst 4, 1) := by decide +kernel
theorem dX11_readAct_69 : decode cX11_readAct 69 = .ok (.ishl, 1) := by decide +kernel
theorem dX11_readAct_70 : decode cX11_readAct 70 = .ok (.ireturn, 1) := by decide +kernel
theorem dX11_readAct_71 : decode cX11_readAct 71 = .ok (.aload_n 0, 1) := by decide +kernel
theorem dX11_readAct_72 : decode cX11_readAct 72 = .ok (.getfield 10, 3) := by decide +kernel
theorem dX11_readAct_75 : decode cX11_readAct 75 = .ok (.invokevirtual 264, 3) := by decide +kernel
theorem dX11_readAct_78 : decode cX11_readAct 78 = .ok (.iload_n 1, 1) := by decide +kernel
theorem dX11_readAct_79 : decode cX11_readAct 79 = .ok (.iconst 4, 1) := by decide +kernel
theorem dX11_readAct_80 : decode cX11_readAct 80 = .ok (.ishl, 1) := by decide +kernel
theorem dX11_readAct_81 : decode cX11_readAct 81 = .ok (.aload_n 0, 1) := by decide +kernel
theorem dX11_readAct_82 : decode cX11_readAct 82 = .ok (.getfield 10, 3) := by decide +kernel
theorem dX11_readAct_85 : decode cX11_readAct 85 = .ok (.iconst 1, 1) := by decide +kernel
theorem dX11_readAct_86 : decode cX11_readAct 86 = .ok (.iconst 0, 1) := by decide +kernel
theorem dX11_readAct_87 : decode cX11_readAct 87 = .ok (.bipush 9, 2) := by decide +kernel
theorem dX11_readAct_89 : decode cX11_readAct 89 = .ok (.invokevirtual 267, 3) := by decide +kernel
theorem dX11_readAct_92 : decode cX11_readAct 92 = .ok (.ior, 1) := by decide +kernel
theorem dX11_readAct_93 : decode cX11_readAct 93 = .ok (.ireturn, 1) := by decide +kernel
theorem dX11_readAct_94 : decode cX11_readAct 94 = .ok (.aload_n 0, 1) := by decide +kernel
theorem dX11_readAct_95 : decode cX11_readAct 95 = .ok (.getfield 10, 3) := by decide +kernel
theorem dX11_readAct_98 : decode cX11_readAct 98 = .ok (.invokevirtual 264, 3) := by decide +kernel
theorem dX11_readAct_101 : decode cX11_readAct 101 = .ok (.aload_n 0, 1) := by decide +kernel
theorem dX11_readAct_102 : decode cX11_readAct 102 = .ok (.getfield 10, 3) := by decide +kernel
theorem dX11_readAct_105 : decode cX11_readAct 105 = .ok (.iconst 0, 1) := by decide +kernel
theorem dX11_readAct_106 : decode cX11_readAct 106 = .ok (.invokevirtual 271, 3) := by decide +kernel
theorem dX11_readAct_109 : decode cX11_readAct 109 = .ok (.istore_n 2, 1) := by decide +kernel
theorem dX11_readAct_110 : decode cX11_readAct 110 = .ok (.iload_n 2, 1) := by decide +kernel
theorem dX11_readAct_111 : decode cX11_readAct 111 = .ok (.ifCond .lt 9, 3) := by decide +kernel
theorem dX11_readAct_114 : decode cX11_readAct 114 = .ok (.iload_n 1, 1) := by decide +kernel
theorem dX11_readAct_115 : decode cX11_readAct 115 = .ok (.iconst 4, 1) := by decide +kernel
theorem dX11_readAct_116 : decode cX11_readAct 116 = .ok (.ishl, 1) := by decide +kernel
theorem dX11_readAct_117 : decode cX11_readAct 117 = .ok (.iload_n 2, 1) := by decide +kernel
theorem dX11_readAct_118 : decode cX11_readAct 118 = .ok (.ior, 1) := by decide +kernel
theorem dX11_readAct_119 : decode cX11_readAct 119 = .ok (.ireturn, 1) := by decide +kernel
theorem dX11_readAct_120 : decode cX11_readAct 120 = .ok (.aload_n 0, 1) := by decide +kernel
theorem dX11_readAct_121 : decode cX11_readAct 121 = .ok (.getfield 10, 3) := by decide +kernel
theorem dX11_readAct_124 : decode cX11_readAct 124 = .ok (.invokevirtual 274, 3) := by decide +kernel
theorem dX11_readAct_127 : decode cX11_readAct 127 = .ok (.iconst 0, 1) := by decide +kernel
theorem dX11_readAct_128 : decode cX11_readAct 128 = .ok (.ireturn, 1) := by decide +kernel
theorem dX11_perform_0 : decode cX11_perform 0 = .ok (.iload_n 1, 1) := by decide +kernel
theorem dX11_perform_1 : decode cX11_perform 1 = .ok (.bipush 15, 2) := by decide +kernel
theorem dX11_perform_3 : decode cX11_perform 3 = .ok (.iand, 1) := by decide +kernel
theorem dX11_perform_4 : decode cX11_perform 4 = .ok (.istore_n 2, 1) := by decide +kernel
theorem dX11_perform_5 : decode cX11_perform 5 = .ok (.iload_n 1, 1) := by decide +kernel
theorem dX11_perform_6 : decode cX11_perform 6 = .ok (.iconst 4, 1) := by decide +kernel
theorem dX11_perform_7 : decode cX11_perform 7 = .ok (.ishr, 1) := by decide +kernel
theorem dX11_perform_8 : decode cX11_perform 8 = .ok (.lookupswitch 124 #[(62, 52), (108, 85), (115, 107), (116, 72), (118, 98)], 52) := by decide +kernel
theorem dX11_perform_60 : decode cX11_perform 60 = .ok (.aload_n 0, 1) := by decide +kernel
theorem dX11_perform_61 : decode cX11_perform 61 = .ok (.getfield 49, 3) := by decide +kernel
theorem dX11_perform_64 : decode cX11_perform 64 = .ok (.aload_n 0, 1) := by decide +kernel
theorem dX11_perform_65 : decode cX11_perform 65 = .ok (.getfield 26, 3) := by decide +kernel
theorem dX11_perform_68 : decode cX11_perform 68 = .ok (.aload_n 0, 1) := by decide +kernel
theorem dX11_perform_69 : decode cX11_perform 69 = .ok (.getfield 35, 3) := by decide +kernel
theorem dX11_perform_72 : decode cX11_perform 72 = .ok (.aload_n 0, 1) := by decide +kernel
theorem dX11_perform_73 : decode cX11_perform 73 = .ok (.getfield 94, 3) := by decide +kernel
theorem dX11_perform_76 : decode cX11_perform 76 = .ok (.invokevirtual 224, 3) := by decide +kernel
theorem dX11_perform_79 : decode cX11_perform 79 = .ok (.ireturn, 1) := by decide +kernel
theorem dX11_perform_80 : decode cX11_perform 80 = .ok (.aload_n 0, 1) := by decide +kernel
theorem dX11_perform_81 : decode cX11_perform 81 = .ok (.getfield 49, 3) := by decide +kernel
theorem dX11_perform_84 : decode cX11_perform 84 = .ok (.aload_n 0, 1) := by decide +kernel
theorem dX11_perform_85 : decode cX11_perform 85 = .ok (.getfield 35, 3) := by decide +kernel
theorem dX11_perform_88 : decode cX11_perform 88 = .ok (.iload_n 2, 1) := by decide +kernel
theorem dX11_perform_89 : decode cX11_perform 89 = .ok (.invokevirtual 234, 3) := by decide +kernel
theorem dX11_perform_92 : decode cX11_perform 92 = .ok (.ireturn, 1) := by decide +kernel
theorem dX11_perform_93 : decode cX11_perform 93 = .ok (.aload_n 0, 1) := by decide +kernel
theorem dX11_perform_94 : decode cX11_perform 94 = .ok (.getfield 49, 3) := by decide +kernel
theorem dX11_perform_97 : decode cX11_perform 97 = .ok (.aload_n 0, 1) := by decide +kernel
theorem dX11_perform_98 : decode cX11_perform 98 = .ok (.getfield 35, 3) := by decide +kernel
theorem dX11_perform_101 : decode cX11_perform 101 = .ok (.iload_n 2, 1) := by decide +kernel
theorem dX11_perform_102 : decode cX11_perform 102 = .ok (.invokevirtual 238, 3) := by decide +kernel
theorem dX11_perform_105 : decode cX11_perform 105 = .ok (.ireturn, 1) := by decide +kernel
theorem dX11_perform_106 : decode cX11_perform 106 = .ok (.aload_n 0, 1) := by decide +kernel
theorem dX11_perform_107 : decode cX11_perform 107 = .ok (.getfield 49, 3) := by decide +kernel
theorem dX11_perform_110 : decode cX11_perform 110 = .ok (.iload_n 2, 1) := by decide +kernel
theorem dX11_perform_111 : decode cX11_perform 111 = .ok (.invokevirtual 241, 3) := by decide +kernel
theorem dX11_perform_114 : decode cX11_perform 114 = .ok (.ireturn, 1) := by decide +kernel
theorem dX11_perform_115 : decode cX11_perform 115 = .ok (.aload_n 0, 1) := by decide +kernel
theorem dX11_perform_116 : decode cX11_perform 116 = .ok (.getfield 49, 3) := by decide +kernel
theorem dX11_perform_119 : decode cX11_perform 119 = .ok (.aload_n 0, 1) := by decide +kernel
theorem dX11_perform_120 : decode cX11_perform 120 = .ok (.getfield 26, 3) := by decide +kernel
theorem dX11_perform_123 : decode cX11_perform 123 = .ok (.aload_n 0, 1) := by decide +kernel
theorem dX11_perform_124 : decode cX11_perform 124 = .ok (.getfield 42, 3) := by decide +kernel
theorem dX11_perform_127 : decode cX11_perform 127 = .ok (.iload_n 2, 1) := by decide +kernel
theorem dX11_perform_128 : decode cX11_perform 128 = .ok (.invokevirtual 244, 3) := by decide +kernel
theorem dX11_perform_131 : decode cX11_perform 131 = .ok (.ireturn, 1) := by decide +kernel
theorem dX11_perform_132 : decode cX11_perform 132 = .ok (.iconst (-1), 1) := by decide +kernel
theorem dX11_perform_133 : decode cX11_perform 133 = .ok (.ireturn, 1) := by decide +kernel
theorem dX11_undo_0 : decode cX11_undo 0 = .ok (.aload_n 0, 1) := by decide +kernel
theorem dX11_undo_1 : decode cX11_undo 1 = .ok (.getfield 56, 3) := by decide +kernel
theorem dX11_undo_4 : decode cX11_undo 4 = .ok (.aload_n 0, 1) := by decide +kernel
theorem dX11_undo_5 : decode cX11_undo 5 = .ok (.getfield 49, 3) := by decide +kernel
theorem dX11_undo_8 : decode cX11_undo 8 = .ok (.invokevirtual 277, 3) := by decide +kernel
theorem dX11_undo_11 : decode cX11_undo 11 = .ok (.ireturn, 1) := by decide +kernel
theorem dX11_ahead_0 : decode cX11_ahead 0 = .ok (.aload_n 0, 1) := by decide +kernel
theorem dX11_ahead_1 : decode cX11_ahead 1 = .ok (.getfield 49, 3) := by decide +kernel
theorem dX11_ahead_4 : decode cX11_ahead 4 = .ok (.getfield 162, 3) := by decide +kernel
theorem dX11_ahead_7 : decode cX11_ahead 7 = .ok (.ifCond .ne 6, 3) := by decide +kernel
theorem dX11_ahead_10 : decode cX11_ahead 10 = .ok (.bipush (-3), 2) := by decide +kernel
theorem dX11_ahead_12 : decode cX11_ahead 12 = .ok (.ireturn, 1) := by decide +kernel
theorem dX11_ahead_13 : decode cX11_ahead 13 = .ok (.iload_n 1, 1) := by decide +kernel
theorem dX11_ahead_14 : decode cX11_ahead 14 = .ok (.ifCond .lt 9, 3) := by decide +kernel
theorem dX11_ahead_17 : decode cX11_ahead 17 = .ok (.iload_n 1, 1) := by decide +kernel
theorem dX11_ahead_18 : decode cX11_ahead 18 = .ok (.bipush 12, 2) := by decide +kernel
theorem dX11_ahead_20 : decode cX11_ahead 20 = .ok (.if_icmp .le 5, 3) := by decide +kernel
theorem dX11_ahead_23 : decode cX11_ahead 23 = .ok (.iconst (-1), 1) := by decide +kernel
theorem dX11_ahead_24 : decode cX11_ahead 24 = .ok (.ireturn, 1) := by decide +kernel
theorem dX11_ahead_25 : decode cX11_ahead 25 = .ok (.aload_n 0, 1) := by decide +kernel
theorem dX11_ahead_26 : decode cX11_ahead 26 = .ok (.getfield 65, 3) := by decide +kernel
theorem dX11_ahead_29 : decode cX11_ahead 29 = .ok (.aload_n 0, 1) := by decide +kernel
theorem dX11_ahead_30 : decode cX11_ahead 30 = .ok (.getfield 49, 3) := by decide +kernel
theorem dX11_ahead_33 : decode cX11_ahead 33 = .ok (.aload_n 0, 1) := by decide +kernel
theorem dX11_ahead_34 : decode cX11_ahead 34 = .ok (.getfield 94, 3) := by decide +kernel
theorem dX11_ahead_37 : decode cX11_ahead 37 = .ok (.iload_n 1, 1) := by decide +kernel
theorem dX11_ahead_38 : decode cX11_ahead 38 = .ok (.invokevirtual 281, 3) := by decide +kernel
theorem dX11_ahead_41 : decode cX11_ahead 41 = .ok (.ireturn, 1) := by decide +kernel
theorem dX11_first_0 : decode cX11_first 0 = .ok (.aload_n 0, 1) := by decide +kernel
theorem dX11_first_1 : decode cX11_first 1 = .ok (.getfield 49, 3) := by decide +kernel
theorem dX11_first_4 : decode cX11_first 4 = .ok (.getfield 162, 3) := by decide +kernel
theorem dX11_first_7 : decode cX11_first 7 = .ok (.ifCond .ne 8, 3) := by decide +kernel
theorem dX11_first_10 : decode cX11_first 10 = .ok (.bipush (-3), 2) := by decide +kernel
theorem dX11_first_12 : decode cX11_first 12 = .ok (.goto 18, 3) := by decide +kernel
theorem dX11_first_15 : decode cX11_first 15 = .ok (.aload_n 0, 1) := by decide +kernel
theorem dX11_first_16 : decode cX11_first 16 = .ok (.getfield 65, 3) := by decide +kernel
theorem dX11_first_19 : decode cX11_first 19 = .ok (.aload_n 0, 1) := by decide +kernel
theorem dX11_first_20 : decode cX11_first 20 = .ok (.getfield 49, 3) := by decide +kernel
theorem dX11_first_23 : decode cX11_first 23 = .ok (.aload_n 0, 1) := by decide +kernel
theorem dX11_first_24 : decode cX11_first 24 = .ok (.getfield 94, 3) := by decide +kernel
theorem dX11_first_27 : decode cX11_first 27 = .ok (.invokevirtual 285, 3) := by decide +kernel
theorem dX11_first_30 : decode cX11_first 30 = .ok (.ireturn, 1) := by decide +kernel
theorem dX11_bears_0 : decode cX11_bears 0 = .ok (.aload_n 0, 1) := by decide +kernel
theorem dX11_bears_1 : decode cX11_bears 1 = .ok (.getfield 49, 3) := by decide +kernel
theorem dX11_bears_4 : decode cX11_bears 4 = .ok (.getfield 162, 3) := by decide +kernel
theorem dX11_bears_7 : decode cX11_bears 7 = .ok (.ifCond .ne 8, 3) := by decide +kernel
theorem dX11_bears_10 : decode cX11_bears 10 = .ok (.bipush (-3), 2) := by decide +kernel
theorem dX11_bears_12 : decode cX11_bears 12 = .ok (.goto 18, 3) := by decide +kernel
theorem dX11_bears_15 : decode cX11_bears 15 = .ok (.aload_n 0, 1) := by decide +kernel
theorem dX11_bears_16 : decode cX11_bears 16 = .ok (.getfield 65, 3) := by decide +kernel
theorem dX11_bears_19 : decode cX11_bears 19 = .ok (.aload_n 0, 1) := by decide +kernel
theorem dX11_bears_20 : decode cX11_bears 20 = .ok (.getfield 49, 3) := by decide +kernel
theorem dX11_bears_23 : decode cX11_bears 23 = .ok (.aload_n 0, 1) := by decide +kernel
theorem dX11_bears_24 : decode cX11_bears 24 = .ok (.getfield 94, 3) := by decide +kernel
theorem dX11_bears_27 : decode cX11_bears 27 = .ok (.invokevirtual 289, 3) := by decide +kernel
theorem dX11_bears_30 : decode cX11_bears 30 = .ok (.ireturn, 1) := by decide +kernel
theorem dX11_hush_0 : decode cX11_hush 0 = .ok (.aload_n 0, 1) := by decide +kernel
theorem dX11_hush_1 : decode cX11_hush 1 = .ok (.getfield 49, 3) := by decide +kernel
theorem dX11_hush_4 : decode cX11_hush 4 = .ok (.getfield 162, 3) := by decide +kernel
theorem dX11_hush_7 : decode cX11_hush 7 = .ok (.ifCond .ne 8, 3) := by decide +kernel
theorem dX11_hush_10 : decode cX11_hush 10 = .ok (.bipush (-3), 2) := by decide +kernel
theorem dX11_hush_12 : decode cX11_hush 12 = .ok (.goto 18, 3) := by decide +kernel
theorem dX11_hush_15 : decode cX11_hush 15 = .ok (.aload_n 0, 1) := by decide +kernel
theorem dX11_hush_16 : decode cX11_hush 16 = .ok (.getfield 65, 3) := by decide +kernel
theorem dX11_hush_19 : decode cX11_hush 19 = .ok (.aload_n 0, 1) := by decide +kernel
theorem dX11_hush_20 : decode cX11_hush 20 = .ok (.getfield 49, 3) := by decide +kernel
theorem dX11_hush_23 : decode cX11_hush 23 = .ok (.aload_n 0, 1) := by decide +kernel
theorem dX11_hush_24 : decode cX11_hush 24 = .ok (.getfield 94, 3) := by decide +kernel
theorem dX11_hush_27 : decode cX11_hush 27 = .ok (.invokevirtual 292, 3) := by decide +kernel
theorem dX11_hush_30 : decode cX11_hush 30 = .ok (.ireturn, 1) := by decide +kernel
theorem dX11_which_0 : decode cX11_which 0 = .ok (.aload_n 0, 1) := by decide +kernel
theorem dX11_which_1 : decode cX11_which 1 = .ok (.getfield 49, 3) := by decide +kernel
theorem dX11_which_4 : decode cX11_which 4 = .ok (.getfield 162, 3) := by decide +kernel
theorem dX11_which_7 : decode cX11_which 7 = .ok (.ifCond .ne 8, 3) := by decide +kernel
theorem dX11_which_10 : decode cX11_which 10 = .ok (.bipush (-3), 2) := by decide +kernel
theorem dX11_which_12 : decode cX11_which 12 = .ok (.goto 18, 3) := by decide +kernel
theorem dX11_which_15 : decode cX11_which 15 = .ok (.aload_n 0, 1) := by decide +kernel
theorem dX11_which_16 : decode cX11_which 16 = .ok (.getfield 65, 3) := by decide +kernel
theorem dX11_which_19 : decode cX11_which 19 = .ok (.aload_n 0, 1) := by decide +kernel
theorem dX11_which_20 : decode cX11_which 20 = .ok (.getfield 49, 3) := by decide +kernel
theorem dX11_which_23 : decode cX11_which 23 = .ok (.aload_n 0, 1) := by decide +kernel
theorem dX11_which_24 : decode cX11_which 24 = .ok (.getfield 94, 3) := by decide +kernel
theorem dX11_which_27 : decode cX11_which 27 = .ok (.invokevirtual 295, 3) := by decide +kernel
theorem dX11_which_30 : decode cX11_which 30 = .ok (.ireturn, 1) := by decide +kernel
theorem dX11_could_0 : decode cX11_could 0 = .ok (.aload_n 0, 1) := by decide +kernel
theorem dX11_could_1 : decode cX11_could 1 = .ok (.getfield 65, 3) := by decide +kernel
theorem dX11_could_4 : decode cX11_could 4 = .ok (.aload_n 0, 1) := by decide +kernel
theorem dX11_could_5 : decode cX11_could 5 = .ok (.getfield 49, 3) := by decide +kernel
theorem dX11_could_8 : decode cX11_could 8 = .ok (.invokevirtual 298, 3) := by decide +kernel
theorem dX11_could_11 : decode cX11_could 11 = .ok (.ireturn, 1) := by decide +kernel
theorem dX11_team_0 : decode cX11_team 0 = .ok (.iload_n 1, 1) := by decide +kernel
theorem dX11_team_1 : decode cX11_team 1 = .ok (.iconst 1, 1) := by decide +kernel
theorem dX11_team_2 : decode cX11_team 2 = .ok (.if_icmp .lt 9, 3) := by decide +kernel
theorem dX11_team_5 : decode cX11_team 5 = .ok (.iload_n 1, 1) := by decide +kernel
theorem dX11_team_6 : decode cX11_team 6 = .ok (.bipush 6, 2) := by decide +kernel
theorem dX11_team_8 : decode cX11_team 8 = .ok (.if_icmp .le 5, 3) := by decide +kernel
theorem dX11_team_11 : decode cX11_team 11 = .ok (.iconst (-1), 1) := by decide +kernel
theorem dX11_team_12 : decode cX11_team 12 = .ok (.ireturn, 1) := by decide +kernel
theorem dX11_team_13 : decode cX11_team 13 = .ok (.iload_n 1, 1) := by decide +kernel
theorem dX11_team_14 : decode cX11_team 14 = .ok (.aload_n 0, 1) := by decide +kernel
theorem dX11_team_15 : decode cX11_team 15 = .ok (.getfield 35, 3) := by decide +kernel
theorem dX11_team_18 : decode cX11_team 18 = .ok (.getfield 137, 3) := by decide +kernel
theorem dX11_team_21 : decode cX11_team 21 = .ok (.if_icmp .le 8, 3) := by decide +kernel
theorem dX11_team_24 : decode cX11_team 24 = .ok (.bipush (-2), 2) := by decide +kernel
theorem dX11_team_26 : decode cX11_team 26 = .ok (.goto 19, 3) := by decide +kernel
theorem dX11_team_29 : decode cX11_team 29 = .ok (.aload_n 0, 1) := by decide +kernel
theorem dX11_team_30 : decode cX11_team 30 = .ok (.getfield 74, 3) := by decide +kernel
theorem dX11_team_33 : decode cX11_team 33 = .ok (.aload_n 0, 1) := by decide +kernel
theorem dX11_team_34 : decode cX11_team 34 = .ok (.getfield 49, 3) := by decide +kernel
theorem dX11_team_37 : decode cX11_team 37 = .ok (.aload_n 0, 1) := by decide +kernel
theorem dX11_team_38 : decode cX11_team 38 = .ok (.getfield 94, 3) := by decide +kernel
theorem dX11_team_41 : decode cX11_team 41 = .ok (.iload_n 1, 1) := by decide +kernel
theorem dX11_team_42 : decode cX11_team 42 = .ok (.invokevirtual 301, 3) := by decide +kernel
theorem dX11_team_45 : decode cX11_team 45 = .ok (.ireturn, 1) := by decide +kernel
theorem dX11_fewest_0 : decode cX11_fewest 0 = .ok (.aload_n 0, 1) := by decide +kernel
theorem dX11_fewest_1 : decode cX11_fewest 1 = .ok (.getfield 74, 3) := by decide +kernel
theorem dX11_fewest_4 : decode cX11_fewest 4 = .ok (.aload_n 0, 1) := by decide +kernel
theorem dX11_fewest_5 : decode cX11_fewest 5 = .ok (.getfield 49, 3) := by decide +kernel
theorem dX11_fewest_8 : decode cX11_fewest 8 = .ok (.aload_n 0, 1) := by decide +kernel
theorem dX11_fewest_9 : decode cX11_fewest 9 = .ok (.getfield 94, 3) := by decide +kernel
theorem dX11_fewest_12 : decode cX11_fewest 12 = .ok (.invokevirtual 304, 3) := by decide +kernel
theorem dX11_fewest_15 : decode cX11_fewest 15 = .ok (.ireturn, 1) := by decide +kernel
theorem dX11_change_0 : decode cX11_change 0 = .ok (.aload_n 0, 1) := by decide +kernel
theorem dX11_change_1 : decode cX11_change 1 = .ok (.getfield 74, 3) := by decide +kernel
theorem dX11_change_4 : decode cX11_change 4 = .ok (.aload_n 0, 1) := by decide +kernel
theorem dX11_change_5 : decode cX11_change 5 = .ok (.getfield 49, 3) := by decide +kernel
theorem dX11_change_8 : decode cX11_change 8 = .ok (.aload_n 0, 1) := by decide +kernel
theorem dX11_change_9 : decode cX11_change 9 = .ok (.getfield 94, 3) := by decide +kernel
theorem dX11_change_12 : decode cX11_change 12 = .ok (.invokevirtual 307, 3) := by decide +kernel
theorem dX11_change_15 : decode cX11_change 15 = .ok (.ireturn, 1) := by decide +kernel
theorem dX11_props_0 : decode cX11_props 0 = .ok (.aload_n 0, 1) := by decide +kernel
theorem dX11_props_1 : decode cX11_props 1 = .ok (.getfield 74, 3) := by decide +kernel
theorem dX11_props_4 : decode cX11_props 4 = .ok (.aload_n 0, 1) := by decide +kernel
theorem dX11_props_5 : decode cX11_props 5 = .ok (.getfield 49, 3) := by decide +kernel
theorem dX11_props_8 : decode cX11_props 8 = .ok (.aload_n 0, 1) := by decide +kernel
theorem dX11_props_9 : decode cX11_props 9 = .ok (.getfield 94, 3) := by decide +kernel
theorem dX11_props_12 : decode cX11_props 12 = .ok (.invokevirtual 310, 3) := by decide +kernel
theorem dX11_props_15 : decode cX11_props 15 = .ok (.ireturn, 1) := by decide +kernel
theorem dX11_rest_0 : decode cX11_rest 0 = .ok (.aload_n 0, 1) := by decide +kernel
theorem dX11_rest_1 : decode cX11_rest 1 = .ok (.getfield 35, 3) := by decide +kernel
theorem dX11_rest_4 : decode cX11_rest 4 = .ok (.iload_n 1, 1) := by decide +kernel
theorem dX11_rest_5 : decode cX11_rest 5 = .ok (.invokevirtual 143, 3) := by decide +kernel
theorem dX11_rest_8 : decode cX11_rest 8 = .ok (.ifCond .ne 5, 3) := by decide +kernel
theorem dX11_rest_11 : decode cX11_rest 11 = .ok (.iconst (-1), 1) := by decide +kernel
theorem dX11_rest_12 : decode cX11_rest 12 = .ok (.ireturn, 1) := by decide +kernel
theorem dX11_rest_13 : decode cX11_rest 13 = .ok (.aload_n 0, 1) := by decide +kernel
theorem dX11_rest_14 : decode cX11_rest 14 = .ok (.getfield 19, 3) := by decide +kernel
theorem dX11_rest_17 : decode cX11_rest 17 = .ok (.aload_n 0, 1) := by decide +kernel
theorem dX11_rest_18 : decode cX11_rest 18 = .ok (.getfield 35, 3) := by decide +kernel
theorem dX11_rest_21 : decode cX11_rest 21 = .ok (.aload_n 0, 1) := by decide +kernel
theorem dX11_rest_22 : decode cX11_rest 22 = .ok (.getfield 94, 3) := by decide +kernel
theorem dX11_rest_25 : decode cX11_rest 25 = .ok (.iload_n 1, 1) := by decide +kernel
theorem dX11_rest_26 : decode cX11_rest 26 = .ok (.iconst 1, 1) := by decide +kernel
theorem dX11_rest_27 : decode cX11_rest 27 = .ok (.iload_n 1, 1) := by decide +kernel
theorem dX11_rest_28 : decode cX11_rest 28 = .ok (.ishl, 1) := by decide +kernel
theorem dX11_rest_29 : decode cX11_rest 29 = .ok (.iconst 0, 1) := by decide +kernel
theorem dX11_rest_30 : decode cX11_rest 30 = .ok (.aload_n 0, 1) := by decide +kernel
theorem dX11_rest_31 : decode cX11_rest 31 = .ok (.getfield 49, 3) := by decide +kernel
theorem dX11_rest_34 : decode cX11_rest 34 = .ok (.getfield 113, 3) := by decide +kernel
theorem dX11_rest_37 : decode cX11_rest 37 = .ok (.invokevirtual 165, 3) := by decide +kernel
theorem dX11_rest_40 : decode cX11_rest 40 = .ok (.i2l, 1) := by decide +kernel
theorem dX11_rest_41 : decode cX11_rest 41 = .ok (.invokevirtual 313, 3) := by decide +kernel
theorem dX11_rest_44 : decode cX11_rest 44 = .ok (.aload_n 0, 1) := by decide +kernel
theorem dX11_rest_45 : decode cX11_rest 45 = .ok (.getfield 49, 3) := by decide +kernel
theorem dX11_rest_48 : decode cX11_rest 48 = .ok (.getfield 159, 3) := by decide +kernel
theorem dX11_rest_51 : decode cX11_rest 51 = .ok (.iload_n 1, 1) := by decide +kernel
theorem dX11_rest_52 : decode cX11_rest 52 = .ok (.iaload, 1) := by decide +kernel
theorem dX11_rest_53 : decode cX11_rest 53 = .ok (.iconst 1, 1) := by decide +kernel
theorem dX11_rest_54 : decode cX11_rest 54 = .ok (.iadd, 1) := by decide +kernel
theorem dX11_rest_55 : decode cX11_rest 55 = .ok (.iconst 2, 1) := by decide +kernel
theorem dX11_rest_56 : decode cX11_rest 56 = .ok (.idiv, 1) := by decide +kernel
theorem dX11_rest_57 : decode cX11_rest 57 = .ok (.ireturn, 1) := by decide +kernel
theorem dX11_slant_0 : decode cX11_slant 0 = .ok (.aload_n 0, 1) := by decide +kernel
theorem dX11_slant_1 : decode cX11_slant 1 = .ok (.getfield 74, 3) := by decide +kernel
theorem dX11_slant_4 : decode cX11_slant 4 = .ok (.aload_n 0, 1) := by decide +kernel
theorem dX11_slant_5 : decode cX11_slant 5 = .ok (.getfield 49, 3) := by decide +kernel
theorem dX11_slant_8 : decode cX11_slant 8 = .ok (.invokevirtual 316, 3) := by decide +kernel
theorem dX11_slant_11 : decode cX11_slant 11 = .ok (.ireturn, 1) := by decide +kernel
theorem dX11_cover_0 : decode cX11_cover 0 = .ok (.aload_n 0, 1) := by decide +kernel
theorem dX11_cover_1 : decode cX11_cover 1 = .ok (.getfield 42, 3) := by decide +kernel
theorem dX11_cover_4 : decode cX11_cover 4 = .ok (.iload_n 1, 1) := by decide +kernel
theorem dX11_cover_5 : decode cX11_cover 5 = .ok (.invokevirtual 319, 3) := by decide +kernel
theorem dX11_cover_8 : decode cX11_cover 8 = .ok (.ifCond .eq 14, 3) := by decide +kernel
theorem dX11_cover_11 : decode cX11_cover 11 = .ok (.aload_n 0, 1) := by decide +kernel
theorem dX11_cover_12 : decode cX11_cover 12 = .ok (.getfield 83, 3) := by decide +kernel
theorem dX11_cover_15 : decode cX11_cover 15 = .ok (.iload_n 1, 1) := by decide +kernel
theorem dX11_cover_16 : decode cX11_cover 16 = .ok (.invokevirtual 322, 3) := by decide +kernel
theorem dX11_cover_19 : decode cX11_cover 19 = .ok (.goto 4, 3) := by decide +kernel
theorem dX11_cover_22 : decode cX11_cover 22 = .ok (.iconst (-1), 1) := by decide +kernel
theorem dX11_cover_23 : decode cX11_cover 23 = .ok (.ireturn, 1) := by decide +kernel
theorem dX11_lighter_0 : decode cX11_lighter 0 = .ok (.iload_n 1, 1) := by decide +kernel
theorem dX11_lighter_1 : decode cX11_lighter 1 = .ok (.ifCond .lt 8, 3) := by decide +kernel
theorem dX11_lighter_4 : decode cX11_lighter 4 = .ok (.iload_n 1, 1) := by decide +kernel
theorem dX11_lighter_5 : decode cX11_lighter 5 = .ok (.iconst 4, 1) := by decide +kernel
theorem dX11_lighter_6 : decode cX11_lighter 6 = .ok (.if_icmp .lt 5, 3) := by decide +kernel
theorem dX11_lighter_9 : decode cX11_lighter 9 = .ok (.iconst (-1), 1) := by decide +kernel
theorem dX11_lighter_10 : decode cX11_lighter 10 = .ok (.ireturn, 1) := by decide +kernel
theorem dX11_lighter_11 : decode cX11_lighter 11 = .ok (.aload_n 0, 1) := by decide +kernel
theorem dX11_lighter_12 : decode cX11_lighter 12 = .ok (.getfield 42, 3) := by decide +kernel
theorem dX11_lighter_15 : decode cX11_lighter 15 = .ok (.getfield 325, 3) := by decide +kernel
theorem dX11_lighter_18 : decode cX11_lighter 18 = .ok (.aload_n 0, 1) := by decide +kernel
theorem dX11_lighter_19 : decode cX11_lighter 19 = .ok (.getfield 42, 3) := by decide +kernel
theorem dX11_lighter_22 : decode cX11_lighter 22 = .ok (.iload_n 1, 1) := by decide +kernel
theorem dX11_lighter_23 : decode cX11_lighter 23 = .ok (.invokevirtual 328, 3) := by decide +kernel
theorem dX11_lighter_26 : decode cX11_lighter 26 = .ok (.iand, 1) := by decide +kernel
theorem dX11_lighter_27 : decode cX11_lighter 27 = .ok (.aload_n 0, 1) := by decide +kernel
theorem dX11_lighter_28 : decode cX11_lighter 28 = .ok (.getfield 49, 3) := by decide +kernel
theorem dX11_lighter_31 : decode cX11_lighter 31 = .ok (.getfield 186, 3) := by decide +kernel
theorem dX11_lighter_34 : decode cX11_lighter 34 = .ok (.iconst (-1), 1) := by decide +kernel
theorem dX11_lighter_35 : decode cX11_lighter 35 = .ok (.ixor, 1) := by decide +kernel
theorem dX11_lighter_36 : decode cX11_lighter 36 = .ok (.iand, 1) := by decide +kernel
theorem dX11_lighter_37 : decode cX11_lighter 37 = .ok (.istore_n 2, 1) := by decide +kernel
theorem dX11_lighter_38 : decode cX11_lighter 38 = .ok (.aload_n 0, 1) := by decide +kernel
theorem dX11_lighter_39 : decode cX11_lighter 39 = .ok (.getfield 19, 3) := by decide +kernel
theorem dX11_lighter_42 : decode cX11_lighter 42 = .ok (.iload_n 2, 1) := by decide +kernel
theorem dX11_lighter_43 : decode cX11_lighter 43 = .ok (.i2l, 1) := by decide +kernel
theorem dX11_lighter_44 : decode cX11_lighter 44 = .ok (.invokevirtual 313, 3) := by decide +kernel
theorem dX11_lighter_47 : decode cX11_lighter 47 = .ok (.aload_n 0, 1) := by decide +kernel
theorem dX11_lighter_48 : decode cX11_lighter 48 = .ok (.getfield 42, 3) := by decide +kernel
theorem dX11_lighter_51 : decode cX11_lighter 51 = .ok (.iload_n 2, 1) := by decide +kernel
theorem dX11_lighter_52 : decode cX11_lighter 52 = .ok (.invokevirtual 331, 3) := by decide +kernel
theorem dX11_lighter_55 : decode cX11_lighter 55 = .ok (.ireturn, 1) := by decide +kernel
theorem dX11_secret_0 : decode cX11_secret 0 = .ok (.iload_n 1, 1) := by decide +kernel
theorem dX11_secret_1 : decode cX11_secret 1 = .ok (.ifCond .lt 8, 3) := by decide +kernel
theorem dX11_secret_4 : decode cX11_secret 4 = .ok (.iload_n 1, 1) := by decide +kernel
theorem dX11_secret_5 : decode cX11_secret 5 = .ok (.iconst 4, 1) := by decide +kernel
theorem dX11_secret_6 : decode cX11_secret 6 = .ok (.if_icmp .le 7, 3) := by decide +kernel
theorem dX11_secret_9 : decode cX11_secret 9 = .ok (.iconst (-1), 1) := by decide +kernel
theorem dX11_secret_10 : decode cX11_secret 10 = .ok (.goto 11, 3) := by decide +kernel
theorem dX11_secret_13 : decode cX11_secret 13 = .ok (.aload_n 0, 1) := by decide +kernel
theorem dX11_secret_14 : decode cX11_secret 14 = .ok (.getfield 83, 3) := by decide +kernel
theorem dX11_secret_17 : decode cX11_secret 17 = .ok (.iload_n 1, 1) := by decide +kernel
theorem dX11_secret_18 : decode cX11_secret 18 = .ok (.invokevirtual 334, 3) := by decide +kernel
theorem dX11_secret_21 : decode cX11_secret 21 = .ok (.ireturn, 1) := by decide +kernel
theorem dX11_best_0 : decode cX11_best 0 = .ok (.aload_n 0, 1) := by decide +kernel
theorem dX11_best_1 : decode cX11_best 1 = .ok (.getfield 83, 3) := by decide +kernel
theorem dX11_best_4 : decode cX11_best 4 = .ok (.aload_n 0, 1) := by decide +kernel
theorem dX11_best_5 : decode cX11_best 5 = .ok (.getfield 49, 3) := by decide +kernel
theorem dX11_best_8 : decode cX11_best 8 = .ok (.getfield 186, 3) := by decide +kernel
theorem dX11_best_11 : decode cX11_best 11 = .ok (.invokevirtual 337, 3) := by decide +kernel
theorem dX11_best_14 : decode cX11_best 14 = .ok (.ireturn, 1) := by decide +kernel
theorem dX11_old_0 : decode cX11_old 0 = .ok (.aload_n 0, 1) := by decide +kernel
theorem dX11_old_1 : decode cX11_old 1 = .ok (.getfield 42, 3) := by decide +kernel
theorem dX11_old_4 : decode cX11_old 4 = .ok (.iload_n 1, 1) := by decide +kernel
theorem dX11_old_5 : decode cX11_old 5 = .ok (.invokevirtual 319, 3) := by decide +kernel
theorem dX11_old_8 : decode cX11_old 8 = .ok (.ifCond .eq 15, 3) := by decide +kernel
theorem dX11_old_11 : decode cX11_old 11 = .ok (.aload_n 0, 1) := by decide +kernel
theorem dX11_old_12 : decode cX11_old 12 = .ok (.getfield 83, 3) := by decide +kernel
theorem dX11_old_15 : decode cX11_old 15 = .ok (.iload_n 1, 1) := by decide +kernel
theorem dX11_old_16 : decode cX11_old 16 = .ok (.iload_n 2, 1) := by decide +kernel
theorem dX11_old_17 : decode cX11_old 17 = .ok (.invokevirtual 340, 3) := by decide +kernel
theorem dX11_old_20 : decode cX11_old 20 = .ok (.goto 4, 3) := by decide +kernel
theorem dX11_old_23 : decode cX11_old 23 = .ok (.iconst (-1), 1) := by decide +kernel
theorem dX11_old_24 : decode cX11_old 24 = .ok (.ireturn, 1) := by decide +kernel
theorem dX11_forget_0 : decode cX11_forget 0 = .ok (.aload_n 0, 1) := by decide +kernel
theorem dX11_forget_1 : decode cX11_forget 1 = .ok (.getfield 83, 3) := by decide +kernel
theorem dX11_forget_4 : decode cX11_forget 4 = .ok (.invokevirtual 344, 3) := by decide +kernel
theorem dX11_forget_7 : decode cX11_forget 7 = .ok (.ireturn, 1) := by decide +kernel
theorem dX11_worlds_0 : decode cX11_worlds 0 = .ok (.aload_n 0, 1) := by decide +kernel
theorem dX11_worlds_1 : decode cX11_worlds 1 = .ok (.getfield 83, 3) := by decide +kernel
theorem dX11_worlds_4 : decode cX11_worlds 4 = .ok (.invokevirtual 347, 3) := by decide +kernel
theorem dX11_worlds_7 : decode cX11_worlds 7 = .ok (.ireturn, 1) := by decide +kernel
theorem dX11_sure_0 : decode cX11_sure 0 = .ok (.aload_n 0, 1) := by decide +kernel
theorem dX11_sure_1 : decode cX11_sure 1 = .ok (.getfield 83, 3) := by decide +kernel
theorem dX11_sure_4 : decode cX11_sure 4 = .ok (.invokevirtual 350, 3) := by decide +kernel
theorem dX11_sure_7 : decode cX11_sure 7 = .ok (.ireturn, 1) := by decide +kernel
theorem dX11_ask_0 : decode cX11_ask 0 = .ok (.aload_n 0, 1) := by decide +kernel
theorem dX11_ask_1 : decode cX11_ask 1 = .ok (.getfield 83, 3) := by decide +kernel
theorem dX11_ask_4 : decode cX11_ask 4 = .ok (.invokevirtual 353, 3) := by decide +kernel
theorem dX11_ask_7 : decode cX11_ask 7 = .ok (.ireturn, 1) := by decide +kernel
theorem dX11_widow_0 : decode cX11_widow 0 = .ok (.aload_n 0, 1) := by decide +kernel
theorem dX11_widow_1 : decode cX11_widow 1 = .ok (.getfield 42, 3) := by decide +kernel
theorem dX11_widow_4 : decode cX11_widow 4 = .ok (.iload_n 1, 1) := by decide +kernel
theorem dX11_widow_5 : decode cX11_widow 5 = .ok (.invokevirtual 319, 3) := by decide +kernel
theorem dX11_widow_8 : decode cX11_widow 8 = .ok (.ifCond .eq 13, 3) := by decide +kernel
theorem dX11_widow_11 : decode cX11_widow 11 = .ok (.iload_n 2, 1) := by decide +kernel
theorem dX11_widow_12 : decode cX11_widow 12 = .ok (.ifCond .lt 9, 3) := by decide +kernel
theorem dX11_widow_15 : decode cX11_widow 15 = .ok (.iload_n 2, 1) := by decide +kernel
theorem dX11_widow_16 : decode cX11_widow 16 = .ok (.bipush 12, 2) := by decide +kernel
theorem dX11_widow_18 : decode cX11_widow 18 = .ok (.if_icmp .le 5, 3) := by decide +kernel
theorem dX11_widow_21 : decode cX11_widow 21 = .ok (.iconst (-1), 1) := by decide +kernel
theorem dX11_widow_22 : decode cX11_widow 22 = .ok (.ireturn, 1) := by decide +kernel
theorem dX11_widow_23 : decode cX11_widow 23 = .ok (.iload_n 1, 1) := by decide +kernel
theorem dX11_widow_24 : decode cX11_widow 24 = .ok (.invokestatic 200, 3) := by decide +kernel
theorem dX11_widow_27 : decode cX11_widow 27 = .ok (.istore_n 3, 1) := by decide +kernel
theorem dX11_widow_28 : decode cX11_widow 28 = .ok (.iload_n 3, 1) := by decide +kernel
theorem dX11_widow_29 : decode cX11_widow 29 = .ok (.bipush 6, 2) := by decide +kernel
theorem dX11_widow_31 : decode cX11_widow 31 = .ok (.if_icmp .gt 15, 3) := by decide +kernel
theorem dX11_widow_34 : decode cX11_widow 34 = .ok (.iload_n 1, 1) := by decide +kernel
theorem dX11_widow_35 : decode cX11_widow 35 = .ok (.aload_n 0, 1) := by decide +kernel
theorem dX11_widow_36 : decode cX11_widow 36 = .ok (.getfield 49, 3) := by decide +kernel
theorem dX11_widow_39 : decode cX11_widow 39 = .ok (.getfield 186, 3) := by decide +kernel
theorem dX11_widow_42 : decode cX11_widow 42 = .ok (.iand, 1) := by decide +kernel
theorem dX11_widow_43 : decode cX11_widow 43 = .ok (.ifCond .eq 6, 3) := by decide +kernel
theorem dX11_widow_46 : decode cX11_widow 46 = .ok (.bipush (-3), 2) := by decide +kernel
theorem dX11_widow_48 : decode cX11_widow 48 = .ok (.ireturn, 1) := by decide +kernel
theorem dX11_widow_49 : decode cX11_widow 49 = .ok (.iload_n 3, 1) := by decide +kernel
theorem dX11_widow_50 : decode cX11_widow 50 = .ok (.aload_n 0, 1) := by decide +kernel
theorem dX11_widow_51 : decode cX11_widow 51 = .ok (.getfield 26, 3) := by decide +kernel
theorem dX11_widow_54 : decode cX11_widow 54 = .ok (.getfield 124, 3) := by decide +kernel
theorem dX11_widow_57 : decode cX11_widow 57 = .ok (.aload_n 0, 1) := by decide +kernel
theorem dX11_widow_58 : decode cX11_widow 58 = .ok (.getfield 49, 3) := by decide +kernel
theorem dX11_widow_61 : decode cX11_widow 61 = .ok (.getfield 113, 3) := by decide +kernel
theorem dX11_widow_64 : decode cX11_widow 64 = .ok (.isub, 1) := by decide +kernel
theorem dX11_widow_65 : decode cX11_widow 65 = .ok (.if_icmp .le 6, 3) := by decide +kernel
theorem dX11_widow_68 : decode cX11_widow 68 = .ok (.bipush (-2), 2) := by decide +kernel
theorem dX11_widow_70 : decode cX11_widow 70 = .ok (.ireturn, 1) := by decide +kernel
theorem dX11_widow_71 : decode cX11_widow 71 = .ok (.iconst 0, 1) := by decide +kernel
theorem dX11_widow_72 : decode cX11_widow 72 = .ok (.iload_n 3, 1) := by decide +kernel
theorem dX11_widow_73 : decode cX11_widow 73 = .ok (.iload_n 2, 1) := by decide +kernel
theorem dX11_widow_74 : decode cX11_widow 74 = .ok (.aload_n 0, 1) := by decide +kernel
theorem dX11_widow_75 : decode cX11_widow 75 = .ok (.getfield 49, 3) := by decide +kernel
theorem dX11_widow_78 : decode cX11_widow 78 = .ok (.getfield 113, 3) := by decide +kernel
theorem dX11_widow_81 : decode cX11_widow 81 = .ok (.isub, 1) := by decide +kernel
theorem dX11_widow_82 : decode cX11_widow 82 = .ok (.invokestatic 356, 3) := by decide +kernel
theorem dX11_widow_85 : decode cX11_widow 85 = .ok (.invokestatic 361, 3) := by decide +kernel
theorem dX11_widow_88 : decode cX11_widow 88 = .ok (.istore 4, 2) := by decide +kernel
theorem dX11_widow_90 : decode cX11_widow 90 = .ok (.aload_n 0, 1) := by decide +kernel
theorem dX11_widow_91 : decode cX11_widow 91 = .ok (.getfield 83, 3) := by decide +kernel
theorem dX11_widow_94 : decode cX11_widow 94 = .ok (.iload_n 1, 1) := by decide +kernel
theorem dX11_widow_95 : decode cX11_widow 95 = .ok (.iload 4, 2) := by decide +kernel
theorem dX11_widow_97 : decode cX11_widow 97 = .ok (.invokevirtual 364, 3) := by decide +kernel
theorem dX11_widow_100 : decode cX11_widow 100 = .ok (.ireturn, 1) := by decide +kernel
theorem dX11_claim_0 : decode cX11_claim 0 = .ok (.iload_n 1, 1) := by decide +kernel
theorem dX11_claim_1 : decode cX11_claim 1 = .ok (.ifCond .lt 28, 3) := by decide +kernel
theorem dX11_claim_4 : decode cX11_claim 4 = .ok (.iload_n 1, 1) := by decide +kernel
theorem dX11_claim_5 : decode cX11_claim 5 = .ok (.iconst 4, 1) := by decide +kernel
theorem dX11_claim_6 : decode cX11_claim 6 = .ok (.if_icmp .ge 23, 3) := by decide +kernel
theorem dX11_claim_9 : decode cX11_claim 9 = .ok (.aload_n 0, 1) := by decide +kernel
theorem dX11_claim_10 : decode cX11_claim 10 = .ok (.getfield 42, 3) := by decide +kernel
theorem dX11_claim_13 : decode cX11_claim 13 = .ok (.iload_n 2, 1) := by decide +kernel
theorem dX11_claim_14 : decode cX11_claim 14 = .ok (.invokevirtual 171, 3) := by decide +kernel
theorem dX11_claim_17 : decode cX11_claim 17 = .ok (.ifCond .eq 12, 3) := by decide +kernel
theorem dX11_claim_20 : decode cX11_claim 20 = .ok (.iload_n 3, 1) := by decide +kernel
theorem dX11_claim_21 : decode cX11_claim 21 = .ok (.ifCond .lt 8, 3) := by decide +kernel
theorem dX11_claim_24 : decode cX11_claim 24 = .ok (.iload_n 3, 1) := by decide +kernel
theorem dX11_claim_25 : decode cX11_claim 25 = .ok (.iconst 1, 1) := by decide +kernel
theorem dX11_claim_26 : decode cX11_claim 26 = .ok (.if_icmp .le 5, 3) := by decide +kernel
theorem dX11_claim_29 : decode cX11_claim 29 = .ok (.iconst (-1), 1) := by decide +kernel
theorem dX11_claim_30 : decode cX11_claim 30 = .ok (.ireturn, 1) := by decide +kernel
theorem dX11_claim_31 : decode cX11_claim 31 = .ok (.aload_n 0, 1) := by decide +kernel
theorem dX11_claim_32 : decode cX11_claim 32 = .ok (.getfield 83, 3) := by decide +kernel
theorem dX11_claim_35 : decode cX11_claim 35 = .ok (.iload_n 1, 1) := by decide +kernel
theorem dX11_claim_36 : decode cX11_claim 36 = .ok (.iload_n 2, 1) := by decide +kernel
theorem dX11_claim_37 : decode cX11_claim 37 = .ok (.iload_n 3, 1) := by decide +kernel
theorem dX11_claim_38 : decode cX11_claim 38 = .ok (.invokevirtual 367, 3) := by decide +kernel
theorem dX11_claim_41 : decode cX11_claim 41 = .ok (.ireturn, 1) := by decide +kernel
theorem dX11_unsaid_0 : decode cX11_unsaid 0 = .ok (.aload_n 0, 1) := by decide +kernel
theorem dX11_unsaid_1 : decode cX11_unsaid 1 = .ok (.getfield 83, 3) := by decide +kernel
theorem dX11_unsaid_4 : decode cX11_unsaid 4 = .ok (.invokevirtual 370, 3) := by decide +kernel
theorem dX11_unsaid_7 : decode cX11_unsaid 7 = .ok (.ireturn, 1) := by decide +kernel
theorem dX11_believe_0 : decode cX11_believe 0 = .ok (.aload_n 0, 1) := by decide +kernel
theorem dX11_believe_1 : decode cX11_believe 1 = .ok (.getfield 83, 3) := by decide +kernel
theorem dX11_believe_4 : decode cX11_believe 4 = .ok (.invokevirtual 373, 3) := by decide +kernel
theorem dX11_believe_7 : decode cX11_believe 7 = .ok (.ireturn, 1) := by decide +kernel
theorem dX11_slips_0 : decode cX11_slips 0 = .ok (.iload_n 1, 1) := by decide +kernel
theorem dX11_slips_1 : decode cX11_slips 1 = .ok (.ifCond .lt 9, 3) := by decide +kernel
theorem dX11_slips_4 : decode cX11_slips 4 = .ok (.iload_n 1, 1) := by decide +kernel
theorem dX11_slips_5 : decode cX11_slips 5 = .ok (.bipush 10, 2) := by decide +kernel
theorem dX11_slips_7 : decode cX11_slips 7 = .ok (.if_icmp .le 5, 3) := by decide +kernel
theorem dX11_slips_10 : decode cX11_slips 10 = .ok (.iconst (-1), 1) := by decide +kernel
theorem dX11_slips_11 : decode cX11_slips 11 = .ok (.ireturn, 1) := by decide +kernel
theorem dX11_slips_12 : decode cX11_slips 12 = .ok (.aload_n 0, 1) := by decide +kernel
theorem dX11_slips_13 : decode cX11_slips 13 = .ok (.getfield 49, 3) := by decide +kernel
theorem dX11_slips_16 : decode cX11_slips 16 = .ok (.getfield 162, 3) := by decide +kernel
theorem dX11_slips_19 : decode cX11_slips 19 = .ok (.ifCond .ne 8, 3) := by decide +kernel
theorem dX11_slips_22 : decode cX11_slips 22 = .ok (.bipush (-3), 2) := by decide +kernel
theorem dX11_slips_24 : decode cX11_slips 24 = .ok (.goto 19, 3) := by decide +kernel
theorem dX11_slips_27 : decode cX11_slips 27 = .ok (.aload_n 0, 1) := by decide +kernel
theorem dX11_slips_28 : decode cX11_slips 28 = .ok (.getfield 74, 3) := by decide +kernel
theorem dX11_slips_31 : decode cX11_slips 31 = .ok (.aload_n 0, 1) := by decide +kernel
theorem dX11_slips_32 : decode cX11_slips 32 = .ok (.getfield 49, 3) := by decide +kernel
theorem dX11_slips_35 : decode cX11_slips 35 = .ok (.aload_n 0, 1) := by decide +kernel
theorem dX11_slips_36 : decode cX11_slips 36 = .ok (.getfield 94, 3) := by decide +kernel
theorem dX11_slips_39 : decode cX11_slips 39 = .ok (.iload_n 1, 1) := by decide +kernel
theorem dX11_slips_40 : decode cX11_slips 40 = .ok (.invokevirtual 376, 3) := by decide +kernel
theorem dX11_slips_43 : decode cX11_slips 43 = .ok (.ireturn, 1) := by decide +kernel
theorem dX11_rests_0 : decode cX11_rests 0 = .ok (.iload_n 1, 1) := by decide +kernel
theorem dX11_rests_1 : decode cX11_rests 1 = .ok (.ifCond .lt 9, 3) := by decide +kernel
theorem dX11_rests_4 : decode cX11_rests 4 = .ok (.iload_n 1, 1) := by decide +kernel
theorem dX11_rests_5 : decode cX11_rests 5 = .ok (.bipush 20, 2) := by decide +kernel
theorem dX11_rests_7 : decode cX11_rests 7 = .ok (.if_icmp .le 5, 3) := by decide +kernel
theorem dX11_rests_10 : decode cX11_rests 10 = .ok (.iconst (-1), 1) := by decide +kernel
theorem dX11_rests_11 : decode cX11_rests 11 = .ok (.ireturn, 1) := by decide +kernel
theorem dX11_rests_12 : decode cX11_rests 12 = .ok (.iconst 0, 1) := by decide +kernel
theorem dX11_rests_13 : decode cX11_rests 13 = .ok (.istore_n 2, 1) := by decide +kernel
theorem dX11_rests_14 : decode cX11_rests 14 = .ok (.aload_n 0, 1) := by decide +kernel
theorem dX11_rests_15 : decode cX11_rests 15 = .ok (.getfield 19, 3) := by decide +kernel
theorem dX11_rests_18 : decode cX11_rests 18 = .ok (.invokevirtual 379, 3) := by decide +kernel
theorem dX11_rests_21 : decode cX11_rests 21 = .ok (.iconst 0, 1) := by decide +kernel
theorem dX11_rests_22 : decode cX11_rests 22 = .ok (.istore_n 3, 1) := by decide +kernel
theorem dX11_rests_23 : decode cX11_rests 23 = .ok (.iload_n 3, 1) := by decide +kernel
theorem dX11_rests_24 : decode cX11_rests 24 = .ok (.bipush 9, 2) := by decide +kernel
theorem dX11_rests_26 : decode cX11_rests 26 = .ok (.if_icmp .gt 64, 3) := by decide +kernel
theorem dX11_rests_29 : decode cX11_rests 29 = .ok (.iconst 0, 1) := by decide +kernel
theorem dX11_rests_30 : decode cX11_rests 30 = .ok (.istore 4, 2) := by decide +kernel
theorem dX11_rests_32 : decode cX11_rests 32 = .ok (.iload 4, 2) := by decide +kernel
theorem dX11_rests_34 : decode cX11_rests 34 = .ok (.bipush 9, 2) := by decide +kernel
theorem dX11_rests_36 : decode cX11_rests 36 = .ok (.if_icmp .gt 48, 3) := by decide +kernel
theorem dX11_rests_39 : decode cX11_rests 39 = .ok (.iload_n 3, 1) := by decide +kernel
theorem dX11_rests_40 : decode cX11_rests 40 = .ok (.iload 4, 2) := by decide +kernel
theorem dX11_rests_42 : decode cX11_rests 42 = .ok (.iload_n 1, 1) := by decide +kernel
theorem dX11_rests_43 : decode cX11_rests 43 = .ok (.invokestatic 382, 3) := by decide +kernel
theorem dX11_rests_46 : decode cX11_rests 46 = .ok (.ifCond .eq 32, 3) := by decide +kernel
theorem dX11_rests_49 : decode cX11_rests 49 = .ok (.iload 4, 2) := by decide +kernel
theorem dX11_rests_51 : decode cX11_rests 51 = .ok (.iload_n 3, 1) := by decide +kernel
theorem dX11_rests_52 : decode cX11_rests 52 = .ok (.iload_n 1, 1) := by decide +kernel
theorem dX11_rests_53 : decode cX11_rests 53 = .ok (.invokestatic 382, 3) := by decide +kernel
theorem dX11_rests_56 : decode cX11_rests 56 = .ok (.ifCond .eq 22, 3) := by decide +kernel
theorem dX11_rests_59 : decode cX11_rests 59 = .ok (.iload_n 2, 1) := by decide +kernel
theorem dX11_rests_60 : decode cX11_rests 60 = .ok (.ifCond .ne 15, 3) := by decide +kernel
theorem dX11_rests_63 : decode cX11_rests 63 = .ok (.aload_n 0, 1) := by decide +kernel
theorem dX11_rests_64 : decode cX11_rests 64 = .ok (.getfield 19, 3) := by decide +kernel
theorem dX11_rests_67 : decode cX11_rests 67 = .ok (.iload_n 3, 1) := by decide +kernel
theorem dX11_rests_68 : decode cX11_rests 68 = .ok (.i2l, 1) := by decide +kernel
theorem dX11_rests_69 : decode cX11_rests 69 = .ok (.iload 4, 2) := by decide +kernel
theorem dX11_rests_71 : decode cX11_rests 71 = .ok (.i2l, 1) := by decide +kernel
theorem dX11_rests_72 : decode cX11_rests 72 = .ok (.invokevirtual 205, 3) := by decide +kernel
theorem dX11_rests_75 : decode cX11_rests 75 = .ok (.iinc 2 1, 3) := by decide +kernel
theorem dX11_rests_78 : decode cX11_rests 78 = .ok (.iinc 4 1, 3) := by decide +kernel
theorem dX11_rests_81 : decode cX11_rests 81 = .ok (.goto (-49), 3) := by decide +kernel
theorem dX11_rests_84 : decode cX11_rests 84 = .ok (.iinc 3 1, 3) := by decide +kernel
theorem dX11_rests_87 : decode cX11_rests 87 = .ok (.goto (-64), 3) := by decide +kernel
theorem dX11_rests_90 : decode cX11_rests 90 = .ok (.iload_n 2, 1) := by decide +kernel
theorem dX11_rests_91 : decode cX11_rests 91 = .ok (.ireturn, 1) := by decide +kernel
theorem dX11_isBestBid_0 : decode cX11_isBestBid 0 = .ok (.iload_n 0, 1) := by decide +kernel
theorem dX11_isBestBid_1 : decode cX11_isBestBid 1 = .ok (.iload_n 1, 1) := by decide +kernel
theorem dX11_isBestBid_2 : decode cX11_isBestBid 2 = .ok (.iload_n 2, 1) := by decide +kernel
theorem dX11_isBestBid_3 : decode cX11_isBestBid 3 = .ok (.invokestatic 386, 3) := by decide +kernel
theorem dX11_isBestBid_6 : decode cX11_isBestBid 6 = .ok (.istore_n 3, 1) := by decide +kernel
theorem dX11_isBestBid_7 : decode cX11_isBestBid 7 = .ok (.iconst 0, 1) := by decide +kernel
theorem dX11_isBestBid_8 : decode cX11_isBestBid 8 = .ok (.istore 4, 2) := by decide +kernel
theorem dX11_isBestBid_10 : decode cX11_isBestBid 10 = .ok (.iload 4, 2) := by decide +kernel
theorem dX11_isBestBid_12 : decode cX11_isBestBid 12 = .ok (.bipush 9, 2) := by decide +kernel
theorem dX11_isBestBid_14 : decode cX11_isBestBid 14 = .ok (.if_icmp .gt 22, 3) := by decide +kernel
theorem dX11_isBestBid_17 : decode cX11_isBestBid 17 = .ok (.iload 4, 2) := by decide +kernel
theorem dX11_isBestBid_19 : decode cX11_isBestBid 19 = .ok (.iload_n 1, 1) := by decide +kernel
theorem dX11_isBestBid_20 : decode cX11_isBestBid 20 = .ok (.iload_n 2, 1) := by decide +kernel
theorem dX11_isBestBid_21 : decode cX11_isBestBid 21 = .ok (.invokestatic 386, 3) := by decide +kernel
theorem dX11_isBestBid_24 : decode cX11_isBestBid 24 = .ok (.iload_n 3, 1) := by decide +kernel
theorem dX11_isBestBid_25 : decode cX11_isBestBid 25 = .ok (.if_icmp .le 5, 3) := by decide +kernel
theorem dX11_isBestBid_28 : decode cX11_isBestBid 28 = .ok (.iconst 0, 1) := by decide +kernel
theorem dX11_isBestBid_29 : decode cX11_isBestBid 29 = .ok (.ireturn, 1) := by decide +kernel
theorem dX11_isBestBid_30 : decode cX11_isBestBid 30 = .ok (.iinc 4 1, 3) := by decide +kernel
theorem dX11_isBestBid_33 : decode cX11_isBestBid 33 = .ok (.goto (-23), 3) := by decide +kernel
theorem dX11_isBestBid_36 : decode cX11_isBestBid 36 = .ok (.iconst 1, 1) := by decide +kernel
theorem dX11_isBestBid_37 : decode cX11_isBestBid 37 = .ok (.ireturn, 1) := by decide +kernel
theorem dX11_bidGets_0 : decode cX11_bidGets 0 = .ok (.iload_n 0, 1) := by decide +kernel
theorem dX11_bidGets_1 : decode cX11_bidGets 1 = .ok (.iload_n 1, 1) := by decide +kernel
theorem dX11_bidGets_2 : decode cX11_bidGets 2 = .ok (.if_icmp .le 5, 3) := by decide +kernel
theorem dX11_bidGets_5 : decode cX11_bidGets 5 = .ok (.iconst 0, 1) := by decide +kernel
theorem dX11_bidGets_6 : decode cX11_bidGets 6 = .ok (.ireturn, 1) := by decide +kernel
theorem dX11_bidGets_7 : decode cX11_bidGets 7 = .ok (.iload_n 2, 1) := by decide +kernel
theorem dX11_bidGets_8 : decode cX11_bidGets 8 = .ok (.iload_n 0, 1) := by decide +kernel
theorem dX11_bidGets_9 : decode cX11_bidGets 9 = .ok (.iload_n 1, 1) := by decide +kernel
theorem dX11_bidGets_10 : decode cX11_bidGets 10 = .ok (.if_icmp .ne 9, 3) := by decide +kernel
theorem dX11_bidGets_13 : decode cX11_bidGets 13 = .ok (.iload_n 0, 1) := by decide +kernel
theorem dX11_bidGets_14 : decode cX11_bidGets 14 = .ok (.iconst 2, 1) := by decide +kernel
theorem dX11_bidGets_15 : decode cX11_bidGets 15 = .ok (.idiv, 1) := by decide +kernel
theorem dX11_bidGets_16 : decode cX11_bidGets 16 = .ok (.goto 4, 3) := by decide +kernel
theorem dX11_bidGets_19 : decode cX11_bidGets 19 = .ok (.iload_n 0, 1) := by decide +kernel
theorem dX11_bidGets_20 : decode cX11_bidGets 20 = .ok (.invokestatic 356, 3) := by decide +kernel
theorem dX11_bidGets_23 : decode cX11_bidGets 23 = .ok (.ireturn, 1) := by decide +kernel
theorem dX11_law_0 : decode cX11_law 0 = .ok (.aload_n 0, 1) := by decide +kernel
theorem dX11_law_1 : decode cX11_law 1 = .ok (.getfield 98, 3) := by decide +kernel
theorem dX11_law_4 : decode cX11_law 4 = .ok (.aload_n 0, 1) := by decide +kernel
theorem dX11_law_5 : decode cX11_law 5 = .ok (.getfield 10, 3) := by decide +kernel
theorem dX11_law_8 : decode cX11_law 8 = .ok (.invokevirtual 142, 3) := by decide +kernel
theorem dX11_law_11 : decode cX11_law 11 = .ok (.istore_n 1, 1) := by decide +kernel
theorem dX11_law_12 : decode cX11_law 12 = .ok (.iload_n 1, 1) := by decide +kernel
theorem dX11_law_13 : decode cX11_law 13 = .ok (.ifCond .lt 9, 3) := by decide +kernel
theorem dX11_law_16 : decode cX11_law 16 = .ok (.sipush (-10000), 3) := by decide +kernel
theorem dX11_law_19 : decode cX11_law 19 = .ok (.iload_n 1, 1) := by decide +kernel
theorem dX11_law_20 : decode cX11_law 20 = .ok (.isub, 1) := by decide +kernel
theorem dX11_law_21 : decode cX11_law 21 = .ok (.ireturn, 1) := by decide +kernel
theorem dX11_law_22 : decode cX11_law 22 = .ok (.aload_n 0, 1) := by decide +kernel
theorem dX11_law_23 : decode cX11_law 23 = .ok (.getfield 49, 3) := by decide +kernel
theorem dX11_law_26 : decode cX11_law 26 = .ok (.getfield 162, 3) := by decide +kernel
theorem dX11_law_29 : decode cX11_law 29 = .ok (.ifCond .ne 7, 3) := by decide +kernel
theorem dX11_law_32 : decode cX11_law 32 = .ok (.sipush (-20000), 3) := by decide +kernel
theorem dX11_law_35 : decode cX11_law 35 = .ok (.ireturn, 1) := by decide +kernel
theorem dX11_law_36 : decode cX11_law 36 = .ok (.aload_n 0, 1) := by decide +kernel
theorem dX11_law_37 : decode cX11_law 37 = .ok (.getfield 65, 3) := by decide +kernel
theorem dX11_law_40 : decode cX11_law 40 = .ok (.aload_n 0, 1) := by decide +kernel
theorem dX11_law_41 : decode cX11_law 41 = .ok (.getfield 49, 3) := by decide +kernel
theorem dX11_law_44 : decode cX11_law 44 = .ok (.aload_n 0, 1) := by decide +kernel
theorem dX11_law_45 : decode cX11_law 45 = .ok (.getfield 98, 3) := by decide +kernel
theorem dX11_law_48 : decode cX11_law 48 = .ok (.invokevirtual 285, 3) := by decide +kernel
theorem dX11_law_51 : decode cX11_law 51 = .ok (.invokestatic 389, 3) := by decide +kernel
theorem dX11_law_54 : decode cX11_law 54 = .ok (.istore_n 2, 1) := by decide +kernel
theorem dX11_law_55 : decode cX11_law 55 = .ok (.aload_n 0, 1) := by decide +kernel
theorem dX11_law_56 : decode cX11_law 56 = .ok (.getfield 65, 3) := by decide +kernel
theorem dX11_law_59 : decode cX11_law 59 = .ok (.aload_n 0, 1) := by decide +kernel
theorem dX11_law_60 : decode cX11_law 60 = .ok (.getfield 49, 3) := by decide +kernel
theorem dX11_law_63 : decode cX11_law 63 = .ok (.aload_n 0, 1) := by decide +kernel
theorem dX11_law_64 : decode cX11_law 64 = .ok (.getfield 94, 3) := by decide +kernel
theorem dX11_law_67 : decode cX11_law 67 = .ok (.invokevirtual 285, 3) := by decide +kernel
theorem dX11_law_70 : decode cX11_law 70 = .ok (.invokestatic 389, 3) := by decide +kernel
theorem dX11_law_73 : decode cX11_law 73 = .ok (.istore_n 3, 1) := by decide +kernel
theorem dX11_law_74 : decode cX11_law 74 = .ok (.aload_n 0, 1) := by decide +kernel
theorem dX11_law_75 : decode cX11_law 75 = .ok (.getfield 19, 3) := by decide +kernel
theorem dX11_law_78 : decode cX11_law 78 = .ok (.iload_n 2, 1) := by decide +kernel
theorem dX11_law_79 : decode cX11_law 79 = .ok (.i2l, 1) := by decide +kernel
theorem dX11_law_80 : decode cX11_law 80 = .ok (.iload_n 3, 1) := by decide +kernel
theorem dX11_law_81 : decode cX11_law 81 = .ok (.i2l, 1) := by decide +kernel
theorem dX11_law_82 : decode cX11_law 82 = .ok (.invokevirtual 205, 3) := by decide +kernel
theorem dX11_law_85 : decode cX11_law 85 = .ok (.iload_n 2, 1) := by decide +kernel
theorem dX11_law_86 : decode cX11_law 86 = .ok (.iload_n 3, 1) := by decide +kernel
theorem dX11_law_87 : decode cX11_law 87 = .ok (.isub, 1) := by decide +kernel
theorem dX11_law_88 : decode cX11_law 88 = .ok (.ireturn, 1) := by decide +kernel
theorem dX11_cornerOrTwelve_0 : decode cX11_cornerOrTwelve 0 = .ok (.iload_n 0, 1) := by decide +kernel
theorem dX11_cornerOrTwelve_1 : decode cX11_cornerOrTwelve 1 = .ok (.ifCond .ge 8, 3) := by decide +kernel
theorem dX11_cornerOrTwelve_4 : decode cX11_cornerOrTwelve 4 = .ok (.bipush 12, 2) := by decide +kernel
theorem dX11_cornerOrTwelve_6 : decode cX11_cornerOrTwelve 6 = .ok (.goto 4, 3) := by decide +kernel
theorem dX11_cornerOrTwelve_9 : decode cX11_cornerOrTwelve 9 = .ok (.iload_n 0, 1) := by decide +kernel
theorem dX11_cornerOrTwelve_10 : decode cX11_cornerOrTwelve 10 = .ok (.ireturn, 1) := by decide +kernel
theorem dX11_years_0 : decode cX11_years 0 = .ok (.iload_n 2, 1) := by decide +kernel
theorem dX11_years_1 : decode cX11_years 1 = .ok (.iconst 1, 1) := by decide +kernel
theorem dX11_years_2 : decode cX11_years 2 = .ok (.if_icmp .lt 9, 3) := by decide +kernel
theorem dX11_years_5 : decode cX11_years 5 = .ok (.iload_n 2, 1) := by decide +kernel
theorem dX11_years_6 : decode cX11_years 6 = .ok (.bipush 60, 2) := by decide +kernel
theorem dX11_years_8 : decode cX11_years 8 = .ok (.if_icmp .le 7, 3) := by decide +kernel
theorem dX11_years_11 : decode cX11_years 11 = .ok (.iconst (-1), 1) := by decide +kernel
theorem dX11_years_12 : decode cX11_years 12 = .ok (.goto 20, 3) := by decide +kernel
theorem dX11_years_15 : decode cX11_years 15 = .ok (.aload_n 0, 1) := by decide +kernel
theorem dX11_years_16 : decode cX11_years 16 = .ok (.getfield 65, 3) := by decide +kernel
theorem dX11_years_19 : decode cX11_years 19 = .ok (.aload_n 0, 1) := by decide +kernel
theorem dX11_years_20 : decode cX11_years 20 = .ok (.getfield 49, 3) := by decide +kernel
theorem dX11_years_23 : decode cX11_years 23 = .ok (.aload_n 0, 1) := by decide +kernel
theorem dX11_years_24 : decode cX11_years 24 = .ok (.getfield 94, 3) := by decide +kernel
theorem dX11_years_27 : decode cX11_years 27 = .ok (.iload_n 1, 1) := by decide +kernel
theorem dX11_years_28 : decode cX11_years 28 = .ok (.iload_n 2, 1) := by decide +kernel
theorem dX11_years_29 : decode cX11_years 29 = .ok (.invokevirtual 392, 3) := by decide +kernel
theorem dX11_years_32 : decode cX11_years 32 = .ok (.ireturn, 1) := by decide +kernel
theorem dX11_keep_0 : decode cX11_keep 0 = .ok (.aload_n 0, 1) := by decide +kernel
theorem dX11_keep_1 : decode cX11_keep 1 = .ok (.getfield 56, 3) := by decide +kernel
theorem dX11_keep_4 : decode cX11_keep 4 = .ok (.iload_n 1, 1) := by decide +kernel
theorem dX11_keep_5 : decode cX11_keep 5 = .ok (.aload_n 0, 1) := by decide +kernel
theorem dX11_keep_6 : decode cX11_keep 6 = .ok (.getfield 49, 3) := by decide +kernel
theorem dX11_keep_9 : decode cX11_keep 9 = .ok (.invokevirtual 396, 3) := by decide +kernel
theorem dX11_keep_12 : decode cX11_keep 12 = .ok (.ireturn, 1) := by decide +kernel
theorem dX11_again_0 : decode cX11_again 0 = .ok (.aload_n 0, 1) := by decide +kernel
theorem dX11_again_1 : decode cX11_again 1 = .ok (.getfield 56, 3) := by decide +kernel
theorem dX11_again_4 : decode cX11_again 4 = .ok (.iload_n 1, 1) := by decide +kernel
theorem dX11_again_5 : decode cX11_again 5 = .ok (.aload_n 0, 1) := by decide +kernel
theorem dX11_again_6 : decode cX11_again 6 = .ok (.getfield 49, 3) := by decide +kernel
theorem dX11_again_9 : decode cX11_again 9 = .ok (.invokevirtual 400, 3) := by decide +kernel
theorem dX11_again_12 : decode cX11_again 12 = .ok (.ireturn, 1) := by decide +kernel
theorem dX11_count_0 : decode cX11_count 0 = .ok (.iload_n 1, 1) := by decide +kernel
theorem dX11_count_1 : decode cX11_count 1 = .ok (.tableswitch 218 0 15 #[79, 87, 95, 103, 111, 119, 127, 135, 143, 159, 167, 175, 183, 191, 199, 207], 79) := by decide +kernel
theorem dX11_count_80 : decode cX11_count 80 = .ok (.aload_n 0, 1) := by decide +kernel
theorem dX11_count_81 : decode cX11_count 81 = .ok (.getfield 26, 3) := by decide +kernel
theorem dX11_count_84 : decode cX11_count 84 = .ok (.getfield 124, 3) := by decide +kernel
theorem dX11_count_87 : decode cX11_count 87 = .ok (.ireturn, 1) := by decide +kernel
theorem dX11_count_88 : decode cX11_count 88 = .ok (.aload_n 0, 1) := by decide +kernel
theorem dX11_count_89 : decode cX11_count 89 = .ok (.getfield 35, 3) := by decide +kernel
theorem dX11_count_92 : decode cX11_count 92 = .ok (.getfield 137, 3) := by decide +kernel
theorem dX11_count_95 : decode cX11_count 95 = .ok (.ireturn, 1) := by decide +kernel
theorem dX11_count_96 : decode cX11_count 96 = .ok (.aload_n 0, 1) := by decide +kernel
theorem dX11_count_97 : decode cX11_count 97 = .ok (.getfield 42, 3) := by decide +kernel
theorem dX11_count_100 : decode cX11_count 100 = .ok (.getfield 141, 3) := by decide +kernel
theorem dX11_count_103 : decode cX11_count 103 = .ok (.ireturn, 1) := by decide +kernel
theorem dX11_count_104 : decode cX11_count 104 = .ok (.aload_n 0, 1) := by decide +kernel
theorem dX11_count_105 : decode cX11_count 105 = .ok (.getfield 49, 3) := by decide +kernel
theorem dX11_count_108 : decode cX11_count 108 = .ok (.getfield 113, 3) := by decide +kernel
theorem dX11_count_111 : decode cX11_count 111 = .ok (.ireturn, 1) := by decide +kernel
theorem dX11_count_112 : decode cX11_count 112 = .ok (.aload_n 0, 1) := by decide +kernel
theorem dX11_count_113 : decode cX11_count 113 = .ok (.getfield 49, 3) := by decide +kernel
theorem dX11_count_116 : decode cX11_count 116 = .ok (.getfield 194, 3) := by decide +kernel
theorem dX11_count_119 : decode cX11_count 119 = .ok (.ireturn, 1) := by decide +kernel
theorem dX11_count_120 : decode cX11_count 120 = .ok (.aload_n 0, 1) := by decide +kernel
theorem dX11_count_121 : decode cX11_count 121 = .ok (.getfield 49, 3) := by decide +kernel
theorem dX11_count_124 : decode cX11_count 124 = .ok (.getfield 162, 3) := by decide +kernel
theorem dX11_count_127 : decode cX11_count 127 = .ok (.ireturn, 1) := by decide +kernel
theorem dX11_count_128 : decode cX11_count 128 = .ok (.aload_n 0, 1) := by decide +kernel
theorem dX11_count_129 : decode cX11_count 129 = .ok (.getfield 49, 3) := by decide +kernel
theorem dX11_count_132 : decode cX11_count 132 = .ok (.getfield 189, 3) := by decide +kernel
theorem dX11_count_135 : decode cX11_count 135 = .ok (.ireturn, 1) := by decide +kernel
theorem dX11_count_136 : decode cX11_count 136 = .ok (.aload_n 0, 1) := by decide +kernel
theorem dX11_count_137 : decode cX11_count 137 = .ok (.getfield 49, 3) := by decide +kernel
theorem dX11_count_140 : decode cX11_count 140 = .ok (.getfield 186, 3) := by decide +kernel
theorem dX11_count_143 : decode cX11_count 143 = .ok (.ireturn, 1) := by decide +kernel
theorem dX11_count_144 : decode cX11_count 144 = .ok (.aload_n 0, 1) := by decide +kernel
theorem dX11_count_145 : decode cX11_count 145 = .ok (.getfield 49, 3) := by decide +kernel
theorem dX11_count_148 : decode cX11_count 148 = .ok (.getfield 117, 3) := by decide +kernel
theorem dX11_count_151 : decode cX11_count 151 = .ok (.ifCond .eq 7, 3) := by decide +kernel
theorem dX11_count_154 : decode cX11_count 154 = .ok (.iconst 1, 1) := by decide +kernel
theorem dX11_count_155 : decode cX11_count 155 = .ok (.goto 4, 3) := by decide +kernel
theorem dX11_count_158 : decode cX11_count 158 = .ok (.iconst 0, 1) := by decide +kernel
theorem dX11_count_159 : decode cX11_count 159 = .ok (.ireturn, 1) := by decide +kernel
theorem dX11_count_160 : decode cX11_count 160 = .ok (.aload_n 0, 1) := by decide +kernel
theorem dX11_count_161 : decode cX11_count 161 = .ok (.getfield 49, 3) := by decide +kernel
theorem dX11_count_164 : decode cX11_count 164 = .ok (.getfield 231, 3) := by decide +kernel
theorem dX11_count_167 : decode cX11_count 167 = .ok (.ireturn, 1) := by decide +kernel
theorem dX11_count_168 : decode cX11_count 168 = .ok (.aload_n 0, 1) := by decide +kernel
theorem dX11_count_169 : decode cX11_count 169 = .ok (.getfield 83, 3) := by decide +kernel
theorem dX11_count_172 : decode cX11_count 172 = .ok (.getfield 403, 3) := by decide +kernel
theorem dX11_count_175 : decode cX11_count 175 = .ok (.ireturn, 1) := by decide +kernel
theorem dX11_count_176 : decode cX11_count 176 = .ok (.aload_n 0, 1) := by decide +kernel
theorem dX11_count_177 : decode cX11_count 177 = .ok (.getfield 83, 3) := by decide +kernel
theorem dX11_count_180 : decode cX11_count 180 = .ok (.getfield 406, 3) := by decide +kernel
theorem dX11_count_183 : decode cX11_count 183 = .ok (.ireturn, 1) := by decide +kernel
theorem dX11_count_184 : decode cX11_count 184 = .ok (.aload_n 0, 1) := by decide +kernel
theorem dX11_count_185 : decode cX11_count 185 = .ok (.getfield 56, 3) := by decide +kernel
theorem dX11_count_188 : decode cX11_count 188 = .ok (.getfield 409, 3) := by decide +kernel
theorem dX11_count_191 : decode cX11_count 191 = .ok (.ireturn, 1) := by decide +kernel
theorem dX11_count_192 : decode cX11_count 192 = .ok (.aload_n 0, 1) := by decide +kernel
theorem dX11_count_193 : decode cX11_count 193 = .ok (.getfield 19, 3) := by decide +kernel
theorem dX11_count_196 : decode cX11_count 196 = .ok (.invokevirtual 410, 3) := by decide +kernel
theorem dX11_count_199 : decode cX11_count 199 = .ok (.ireturn, 1) := by decide +kernel
theorem dX11_count_200 : decode cX11_count 200 = .ok (.aload_n 0, 1) := by decide +kernel
theorem dX11_count_201 : decode cX11_count 201 = .ok (.getfield 10, 3) := by decide +kernel
theorem dX11_count_204 : decode cX11_count 204 = .ok (.invokevirtual 127, 3) := by decide +kernel
theorem dX11_count_207 : decode cX11_count 207 = .ok (.ireturn, 1) := by decide +kernel
theorem dX11_count_208 : decode cX11_count 208 = .ok (.aload_n 0, 1) := by decide +kernel
theorem dX11_count_209 : decode cX11_count 209 = .ok (.getfield 49, 3) := by decide +kernel
theorem dX11_count_212 : decode cX11_count 212 = .ok (.getfield 186, 3) := by decide +kernel
theorem dX11_count_215 : decode cX11_count 215 = .ok (.invokestatic 200, 3) := by decide +kernel
theorem dX11_count_218 : decode cX11_count 218 = .ok (.ireturn, 1) := by decide +kernel
theorem dX11_count_219 : decode cX11_count 219 = .ok (.iconst (-1), 1) := by decide +kernel
theorem dX11_count_220 : decode cX11_count 220 = .ok (.ireturn, 1) := by decide +kernel
theorem dX11_row_0 : decode cX11_row 0 = .ok (.iload_n 1, 1) := by decide +kernel
theorem dX11_row_1 : decode cX11_row 1 = .ok (.ifCond .lt 14, 3) := by decide +kernel
theorem dX11_row_4 : decode cX11_row 4 = .ok (.iload_n 1, 1) := by decide +kernel
theorem dX11_row_5 : decode cX11_row 5 = .ok (.aload_n 0, 1) := by decide +kernel
theorem dX11_row_6 : decode cX11_row 6 = .ok (.getfield 19, 3) := by decide +kernel
theorem dX11_row_9 : decode cX11_row 9 = .ok (.invokevirtual 410, 3) := by decide +kernel
theorem dX11_row_12 : decode cX11_row 12 = .ok (.if_icmp .lt 14, 3) := by decide +kernel
theorem dX11_row_15 : decode cX11_row 15 = .ok (.new 146, 3) := by decide +kernel
theorem dX11_row_18 : decode cX11_row 18 = .ok (.dup, 1) := by decide +kernel
theorem dX11_row_19 : decode cX11_row 19 = .ok (.ldc_w 411, 3) := by decide +kernel
theorem dX11_row_22 : decode cX11_row 22 = .ok (.invokespecial 150, 3) := by decide +kernel
theorem dX11_row_25 : decode cX11_row 25 = .ok (.athrow, 1) := by decide +kernel
theorem dX11_row_26 : decode cX11_row 26 = .ok (.aload_n 0, 1) := by decide +kernel
theorem dX11_row_27 : decode cX11_row 27 = .ok (.getfield 19, 3) := by decide +kernel
theorem dX11_row_30 : decode cX11_row 30 = .ok (.iload_n 1, 1) := by decide +kernel
theorem dX11_row_31 : decode cX11_row 31 = .ok (.invokevirtual 413, 3) := by decide +kernel
theorem dX11_row_34 : decode cX11_row 34 = .ok (.lreturn, 1) := by decide +kernel
theorem dX11_within_0 : decode cX11_within 0 = .ok (.iload_n 0, 1) := by decide +kernel
theorem dX11_within_1 : decode cX11_within 1 = .ok (.iload_n 1, 1) := by decide +kernel
theorem dX11_within_2 : decode cX11_within 2 = .ok (.if_icmp .ge 7, 3) := by decide +kernel
theorem dX11_within_5 : decode cX11_within 5 = .ok (.iload_n 1, 1) := by decide +kernel
theorem dX11_within_6 : decode cX11_within 6 = .ok (.goto 13, 3) := by decide +kernel
theorem dX11_within_9 : decode cX11_within 9 = .ok (.iload_n 0, 1) := by decide +kernel
theorem dX11_within_10 : decode cX11_within 10 = .ok (.iload_n 2, 1) := by decide +kernel
theorem dX11_within_11 : decode cX11_within 11 = .ok (.if_icmp .le 7, 3) := by decide +kernel
theorem dX11_within_14 : decode cX11_within 14 = .ok (.iload_n 2, 1) := by decide +kernel
theorem dX11_within_15 : decode cX11_within 15 = .ok (.goto 4, 3) := by decide +kernel
theorem dX11_within_18 : decode cX11_within 18 = .ok (.iload_n 0, 1) := by decide +kernel
theorem dX11_within_19 : decode cX11_within 19 = .ok (.ireturn, 1) := by decide +kernel
theorem dX12_init_0 : decode cX12_init 0 = .ok (.aload_n 0, 1) := by decide +kernel
theorem dX12_init_1 : decode cX12_init 1 = .ok (.invokespecial 3, 3) := by decide +kernel
theorem dX12_init_4 : decode cX12_init 4 = .ok (.aload_n 0, 1) := by decide +kernel
theorem dX12_init_5 : decode cX12_init 5 = .ok (.bipush 29, 2) := by decide +kernel
theorem dX12_init_7 : decode cX12_init 7 = .ok (.newarray .int, 2) := by decide +kernel
theorem dX12_init_9 : decode cX12_init 9 = .ok (.putfield 9, 3) := by decide +kernel
theorem dX12_init_12 : decode cX12_init 12 = .ok (.aload_n 0, 1) := by decide +kernel
theorem dX12_init_13 : decode cX12_init 13 = .ok (.iconst 1, 1) := by decide +kernel
theorem dX12_init_14 : decode cX12_init 14 = .ok (.putfield 13, 3) := by decide +kernel
theorem dX12_init_17 : decode cX12_init 17 = .ok (.aload_n 0, 1) := by decide +kernel
theorem dX12_init_18 : decode cX12_init 18 = .ok (.bipush 12, 2) := by decide +kernel
theorem dX12_init_20 : decode cX12_init 20 = .ok (.newarray .int, 2) := by decide +kernel
theorem dX12_init_22 : decode cX12_init 22 = .ok (.putfield 17, 3) := by decide +kernel
theorem dX12_init_25 : decode cX12_init 25 = .ok (.aload_n 0, 1) := by decide +kernel
theorem dX12_init_26 : decode cX12_init 26 = .ok (.bipush 8, 2) := by decide +kernel
theorem dX12_init_28 : decode cX12_init 28 = .ok (.newarray .int, 2) := by decide +kernel
theorem dX12_init_30 : decode cX12_init 30 = .ok (.putfield 20, 3) := by decide +kernel
theorem dX12_init_33 : decode cX12_init 33 = .ok (.aload_n 0, 1) := by decide +kernel
theorem dX12_init_34 : decode cX12_init 34 = .ok (.bipush 8, 2) := by decide +kernel
theorem dX12_init_36 : decode cX12_init 36 = .ok (.newarray .int, 2) := by decide +kernel
theorem dX12_init_38 : decode cX12_init 38 = .ok (.putfield 23, 3) := by decide +kernel
theorem dX12_init_41 : decode cX12_init 41 = .ok (.aload_n 0, 1) := by decide +kernel
theorem dX12_init_42 : decode cX12_init 42 = .ok (.bipush 32, 2) := by decide +kernel
theorem dX12_init_44 : decode cX12_init 44 = .ok (.newarray .int, 2) := by decide +kernel
theorem dX12_init_46 : decode cX12_init 46 = .ok (.putfield 26, 3) := by decide +kernel
theorem dX12_init_49 : decode cX12_init 49 = .ok (.aload_n 0, 1) := by decide +kernel
theorem dX12_init_50 : decode cX12_init 50 = .ok (.bipush 80, 2) := by decide +kernel
theorem dX12_init_52 : decode cX12_init 52 = .ok (.newarray .byte, 2) := by decide +kernel
theorem dX12_init_54 : decode cX12_init 54 = .ok (.putfield 29, 3) := by decide +kernel
theorem dX12_init_57 : decode cX12_init 57 = .ok (.aload_n 0, 1) := by decide +kernel
theorem dX12_init_58 : decode cX12_init 58 = .ok (.bipush 16, 2) := by decide +kernel
theorem dX12_init_60 : decode cX12_init 60 = .ok (.newarray .long, 2) := by decide +kernel
theorem dX12_init_62 : decode cX12_init 62 = .ok (.putfield 33, 3) := by decide +kernel
theorem dX12_init_65 : decode cX12_init 65 = .ok (.aload_n 0, 1) := by decide +kernel
theorem dX12_init_66 : decode cX12_init 66 = .ok (.bipush 44, 2) := by decide +kernel
theorem dX12_init_68 : decode cX12_init 68 = .ok (.newarray .int, 2) := by decide +kernel
theorem dX12_init_70 : decode cX12_init 70 = .ok (.putfield 37, 3) := by decide +kernel
theorem dX12_init_73 : decode cX12_init 73 = .ok (.aload_n 0, 1) := by decide +kernel
theorem dX12_init_74 : decode cX12_init 74 = .ok (.bipush 40, 2) := by decide +kernel
theorem dX12_init_76 : decode cX12_init 76 = .ok (.newarray .byte, 2) := by decide +kernel
theorem dX12_init_78 : decode cX12_init 78 = .ok (.putfield 40, 3) := by decide +kernel
theorem dX12_init_81 : decode cX12_init 81 = .ok (.aload_n 0, 1) := by decide +kernel
theorem dX12_init_82 : decode cX12_init 82 = .ok (.bipush 40, 2) := by decide +kernel
theorem dX12_init_84 : decode cX12_init 84 = .ok (.newarray .byte, 2) := by decide +kernel
theorem dX12_init_86 : decode cX12_init 86 = .ok (.putfield 43, 3) := by decide +kernel
theorem dX12_init_89 : decode cX12_init 89 = .ok (.aload_n 0, 1) := by decide +kernel
theorem dX12_init_90 : decode cX12_init 90 = .ok (.bipush 7, 2) := by decide +kernel
theorem dX12_init_92 : decode cX12_init 92 = .ok (.newarray .int, 2) := by decide +kernel
theorem dX12_init_94 : decode cX12_init 94 = .ok (.putfield 46, 3) := by decide +kernel
theorem dX12_init_97 : decode cX12_init 97 = .ok (.aload_n 0, 1) := by decide +kernel
theorem dX12_init_98 : decode cX12_init 98 = .ok (.sipush 348, 3) := by decide +kernel
theorem dX12_init_101 : decode cX12_init 101 = .ok (.newarray .int, 2) := by decide +kernel
theorem dX12_init_103 : decode cX12_init 103 = .ok (.putfield 49, 3) := by decide +kernel
theorem dX12_init_106 : decode cX12_init 106 = .ok (.aload_n 0, 1) := by decide +kernel
theorem dX12_init_107 : decode cX12_init 107 = .ok (.bipush 29, 2) := by decide +kernel
theorem dX12_init_109 : decode cX12_init 109 = .ok (.newarray .int, 2) := by decide +kernel
theorem dX12_init_111 : decode cX12_init 111 = .ok (.putfield 52, 3) := by decide +kernel
theorem dX12_init_114 : decode cX12_init 114 = .ok (.aload_n 0, 1) := by decide +kernel
theorem dX12_init_115 : decode cX12_init 115 = .ok (.bipush 29, 2) := by decide +kernel
theorem dX12_init_117 : decode cX12_init 117 = .ok (.newarray .int, 2) := by decide +kernel
theorem dX12_init_119 : decode cX12_init 119 = .ok (.putfield 55, 3) := by decide +kernel
theorem dX12_init_122 : decode cX12_init 122 = .ok (.aload_n 0, 1) := by decide +kernel
theorem dX12_init_123 : decode cX12_init 123 = .ok (.sipush 160, 3) := by decide +kernel
theorem dX12_init_126 : decode cX12_init 126 = .ok (.newarray .int, 2) := by decide +kernel
theorem dX12_init_128 : decode cX12_init 128 = .ok (.putfield 58, 3) := by decide +kernel
theorem dX12_init_131 : decode cX12_init 131 = .ok (.aload_n 0, 1) := by decide +kernel
theorem dX12_init_132 : decode cX12_init 132 = .ok (.bipush 12, 2) := by decide +kernel
theorem dX12_init_134 : decode cX12_init 134 = .ok (.newarray .int, 2) := by decide +kernel
theorem dX12_init_136 : decode cX12_init 136 = .ok (.putfield 61, 3) := by decide +kernel
theorem dX12_init_139 : decode cX12_init 139 = .ok (.aload_n 0, 1) := by decide +kernel
theorem dX12_init_140 : decode cX12_init 140 = .ok (.bipush 6, 2) := by decide +kernel
theorem dX12_init_142 : decode cX12_init 142 = .ok (.newarray .int, 2) := by decide +kernel
theorem dX12_init_144 : decode cX12_init 144 = .ok (.putfield 64, 3) := by decide +kernel
theorem dX12_init_147 : decode cX12_init 147 = .ok (.aload_n 0, 1) := by decide +kernel
theorem dX12_init_148 : decode cX12_init 148 = .ok (.bipush 8, 2) := by decide +kernel
theorem dX12_init_150 : decode cX12_init 150 = .ok (.newarray .int, 2) := by decide +kernel
theorem dX12_init_152 : decode cX12_init 152 = .ok (.putfield 67, 3) := by decide +kernel
theorem dX12_init_155 : decode cX12_init 155 = .ok (.aload_n 0, 1) := by decide +kernel
theorem dX12_init_156 : decode cX12_init 156 = .ok (.bipush 8, 2) := by decide +kernel
theorem dX12_init_158 : decode cX12_init 158 = .ok (.newarray .int, 2) := by decide +kernel
theorem dX12_init_160 : decode cX12_init 160 = .ok (.putfield 70, 3) := by decide +kernel
theorem dX12_init_163 : decode cX12_init 163 = .ok (.aload_n 0, 1) := by decide +kernel
theorem dX12_init_164 : decode cX12_init 164 = .ok (.bipush 6, 2) := by decide +kernel
theorem dX12_init_166 : decode cX12_init 166 = .ok (.newarray .int, 2) := by decide +kernel
theorem dX12_init_168 : decode cX12_init 168 = .ok (.putfield 73, 3) := by decide +kernel
theorem dX12_init_171 : decode cX12_init 171 = .ok (.aload_n 0, 1) := by decide +kernel
theorem dX12_init_172 : decode cX12_init 172 = .ok (.bipush 48, 2) := by decide +kernel
theorem dX12_init_174 : decode cX12_init 174 = .ok (.newarray .int, 2) := by decide +kernel
theorem dX12_init_176 : decode cX12_init 176 = .ok (.putfield 76, 3) := by decide +kernel
theorem dX12_init_179 : decode cX12_init 179 = .ok (.aload_n 0, 1) := by decide +kernel
theorem dX12_init_180 : decode cX12_init 180 = .ok (.bipush 58, 2) := by decide +kernel
theorem dX12_init_182 : decode cX12_init 182 = .ok (.newarray .int, 2) := by decide +kernel
theorem dX12_init_184 : decode cX12_init 184 = .ok (.putfield 79, 3) := by decide +kernel
theorem dX12_init_187 : decode cX12_init 187 = .ok (.aload_n 0, 1) := by decide +kernel
theorem dX12_init_188 : decode cX12_init 188 = .ok (.iconst 2, 1) := by decide +kernel
theorem dX12_init_189 : decode cX12_init 189 = .ok (.newarray .boolean, 2) := by decide +kernel
theorem dX12_init_191 : decode cX12_init 191 = .ok (.putfield 82, 3) := by decide +kernel
theorem dX12_init_194 : decode cX12_init 194 = .ok (.aload_n 0, 1) := by decide +kernel
theorem dX12_init_195 : decode cX12_init 195 = .ok (.iconst 2, 1) := by decide +kernel
theorem dX12_init_196 : decode cX12_init 196 = .ok (.newarray .int, 2) := by decide +kernel
theorem dX12_init_198 : decode cX12_init 198 = .ok (.putfield 86, 3) := by decide +kernel
theorem dX12_init_201 : decode cX12_init 201 = .ok (.aload_n 0, 1) := by decide +kernel
theorem dX12_init_202 : decode cX12_init 202 = .ok (.getfield 9, 3) := by decide +kernel
theorem dX12_init_205 : decode cX12_init 205 = .ok (.bipush 25, 2) := by decide +kernel
theorem dX12_init_207 : decode cX12_init 207 = .ok (.bipush 60, 2) := by decide +kernel
theorem dX12_init_209 : decode cX12_init 209 = .ok (.iastore, 1) := by decide +kernel
theorem dX12_init_210 : decode cX12_init 210 = .ok (.return_, 1) := by decide +kernel
theorem dX12_thrown_0 : decode cX12_thrown 0 = .ok (.aload_n 0, 1) := by decide +kernel
theorem dX12_thrown_1 : decode cX12_thrown 1 = .ok (.getfield 89, 3) := by decide +kernel
theorem dX12_thrown_4 : decode cX12_thrown 4 = .ok (.ireturn, 1) := by decide +kernel
theorem dX12_in_0 : decode cX12_in 0 = .ok (.iload_n 0, 1) := by decide +kernel
theorem dX12_in_1 : decode cX12_in 1 = .ok (.iload_n 1, 1) := by decide +kernel
theorem dX12_in_2 : decode cX12_in 2 = .ok (.if_icmp .lt 12, 3) := by decide +kernel
theorem dX12_in_5 : decode cX12_in 5 = .ok (.iload_n 0, 1) := by decide +kernel
theorem dX12_in_6 : decode cX12_in 6 = .ok (.iload_n 2, 1) := by decide +kernel
theorem dX12_in_7 : decode cX12_in 7 = .ok (.if_icmp .gt 7, 3) := by decide +kernel
theorem dX12_in_10 : decode cX12_in 10 = .ok (.iconst 1, 1) := by decide +kernel
theorem dX12_in_11 : decode cX12_in 11 = .ok (.goto 4, 3) := by decide +kernel
theorem dX12_in_14 : decode cX12_in 14 = .ok (.iconst 0, 1) := by decide +kernel
theorem dX12_in_15 : decode cX12_in 15 = .ok (.ireturn, 1) := by decide +kernel
theorem dX12_has_0 : decode cX12_has 0 = .ok (.iload_n 0, 1) := by decide +kernel
theorem dX12_has_1 : decode cX12_has 1 = .ok (.iload_n 1, 1) := by decide +kernel
theorem dX12_has_2 : decode cX12_has 2 = .ok (.ishr, 1) := by decide +kernel
theorem dX12_has_3 : decode cX12_has 3 = .ok (.iconst 1, 1) := by decide +kernel
theorem dX12_has_4 : decode cX12_has 4 = .ok (.iand, 1) := by decide +kernel
theorem dX12_has_5 : decode cX12_has 5 = .ok (.iconst 1, 1) := by decide +kernel
theorem dX12_has_6 : decode cX12_has 6 = .ok (.if_icmp .ne 7, 3) := by decide +kernel
theorem dX12_has_9 : decode cX12_has 9 = .ok (.iconst 1, 1) := by decide +kernel
theorem dX12_has_10 : decode cX12_has 10 = .ok (.goto 4, 3) := by decide +kernel
theorem dX12_has_13 : decode cX12_has 13 = .ok (.iconst 0, 1) := by decide +kernel
theorem dX12_has_14 : decode cX12_has 14 = .ok (.ireturn, 1) := by decide +kernel
theorem dX12_lost_0 : decode cX12_lost 0 = .ok (.aload_n 0, 1) := by decide +kernel
theorem dX12_lost_1 : decode cX12_lost 1 = .ok (.iconst 1, 1) := by decide +kernel
theorem dX12_lost_2 : decode cX12_lost 2 = .ok (.putfield 89, 3) := by decide +kernel
theorem dX12_lost_5 : decode cX12_lost 5 = .ok (.iconst 0, 1) := by decide +kernel
theorem dX12_lost_6 : decode cX12_lost 6 = .ok (.ireturn, 1) := by decide +kernel
theorem dX12_tell_0 : decode cX12_tell 0 = .ok (.aload_n 0, 1) := by decide +kernel
theorem dX12_tell_1 : decode cX12_tell 1 = .ok (.getfield 33, 3) := by decide +kernel
theorem dX12_tell_4 : decode cX12_tell 4 = .ok (.aload_n 0, 1) := by decide +kernel
theorem dX12_tell_5 : decode cX12_tell 5 = .ok (.getfield 92, 3) := by decide +kernel
theorem dX12_tell_8 : decode cX12_tell 8 = .ok (.lload_n 1, 1) := by decide +kernel
theorem dX12_tell_9 : decode cX12_tell 9 = .ok (.lastore, 1) := by decide +kernel
theorem dX12_tell_10 : decode cX12_tell 10 = .ok (.aload_n 0, 1) := by decide +kernel
theorem dX12_tell_11 : decode cX12_tell 11 = .ok (.dup, 1) := by decide +kernel
theorem dX12_tell_12 : decode cX12_tell 12 = .ok (.getfield 92, 3) := by decide +kernel
theorem dX12_tell_15 : decode cX12_tell 15 = .ok (.iconst 1, 1) := by decide +kernel
theorem dX12_tell_16 : decode cX12_tell 16 = .ok (.iadd, 1) := by decide +kernel
theorem dX12_tell_17 : decode cX12_tell 17 = .ok (.putfield 92, 3) := by decide +kernel
theorem dX12_tell_20 : decode cX12_tell 20 = .ok (.return_, 1) := by decide +kernel
theorem dX12_isMan_0 : decode cX12_isMan 0 = .ok (.iload_n 1, 1) := by decide +kernel
theorem dX12_isMan_1 : decode cX12_isMan 1 = .ok (.iconst 0, 1) := by decide +kernel
theorem dX12_isMan_2 : decode cX12_isMan 2 = .ok (.aload_n 0, 1) := by decide +kernel
theorem dX12_isMan_3 : decode cX12_isMan 3 = .ok (.getfield 95, 3) := by decide +kernel
theorem dX12_isMan_6 : decode cX12_isMan 6 = .ok (.iconst 1, 1) := by decide +kernel
theorem dX12_isMan_7 : decode cX12_isMan 7 = .ok (.isub, 1) := by decide +kernel
theorem dX12_isMan_8 : decode cX12_isMan 8 = .ok (.invokestatic 98, 3) := by decide +kernel
theorem dX12_isMan_11 : decode cX12_isMan 11 = .ok (.ireturn, 1) := by decide +kernel
theorem dX12_isSaying_0 : decode cX12_isSaying 0 = .ok (.iload_n 1, 1) := by decide +kernel
theorem dX12_isSaying_1 : decode cX12_isSaying 1 = .ok (.iconst 0, 1) := by decide +kernel
theorem dX12_isSaying_2 : decode cX12_isSaying 2 = .ok (.aload_n 0, 1) := by decide +kernel
theorem dX12_isSaying_3 : decode cX12_isSaying 3 = .ok (.getfield 102, 3) := by decide +kernel
theorem dX12_isSaying_6 : decode cX12_isSaying 6 = .ok (.iconst 1, 1) := by decide +kernel
theorem dX12_isSaying_7 : decode cX12_isSaying 7 = .ok (.isub, 1) := by decide +kernel
theorem dX12_isSaying_8 : decode cX12_isSaying 8 = .ok (.invokestatic 98, 3) := by decide +kernel
theorem dX12_isSaying_11 : decode cX12_isSaying 11 = .ok (.ireturn, 1) := by decide +kernel
theorem dX12_areSayings_0 : decode cX12_areSayings 0 = .ok (.iload_n 1, 1) := by decide +kernel
theorem dX12_areSayings_1 : decode cX12_areSayings 1 = .ok (.iconst 0, 1) := by decide +kernel
theorem dX12_areSayings_2 : decode cX12_areSayings 2 = .ok (.iconst 1, 1) := by decide +kernel
theorem dX12_areSayings_3 : decode cX12_areSayings 3 = .ok (.aload_n 0, 1) := by decide +kernel
theorem dX12_areSayings_4 : decode cX12_areSayings 4 = .ok (.getfield 102, 3) := by decide +kernel
theorem dX12_areSayings_7 : decode cX12_areSayings 7 = .ok (.ishl, 1) := by decide +kernel
theorem dX12_areSayings_8 : decode cX12_areSayings 8 = .ok (.iconst 1, 1) := by decide +kernel
theorem dX12_areSayings_9 : decode cX12_areSayings 9 = .ok (.isub, 1) := by decide +kernel
theorem dX12_areSayings_10 : decode cX12_areSayings 10 = .ok (.invokestatic 98, 3) := by decide +kernel
theorem dX12_areSayings_13 : decode cX12_areSayings 13 = .ok (.ireturn, 1) := by decide +kernel
theorem dX12_isSeventh_0 : decode cX12_isSeventh 0 = .ok (.iload_n 0, 1) := by decide +kernel
theorem dX12_isSeventh_1 : decode cX12_isSeventh 1 = .ok (.iconst 0, 1) := by decide +kernel
theorem dX12_isSeventh_2 : decode cX12_isSeventh 2 = .ok (.iconst 3, 1) := by decide +kernel
theorem dX12_isSeventh_3 : decode cX12_isSeventh 3 = .ok (.invokestatic 98, 3) := by decide +kernel
theorem dX12_isSeventh_6 : decode cX12_isSeventh 6 = .ok (.ireturn, 1) := by decide +kernel
theorem dX12_sign_0 : decode cX12_sign 0 = .ok (.aload_n 0, 1) := by decide +kernel
theorem dX12_sign_1 : decode cX12_sign 1 = .ok (.iconst 0, 1) := by decide +kernel
theorem dX12_sign_2 : decode cX12_sign 2 = .ok (.putfield 89, 3) := by decide +kernel
theorem dX12_sign_5 : decode cX12_sign 5 = .ok (.aload_n 0, 1) := by decide +kernel
theorem dX12_sign_6 : decode cX12_sign 6 = .ok (.getfield 105, 3) := by decide +kernel
theorem dX12_sign_9 : decode cX12_sign 9 = .ok (.iconst 4, 1) := by decide +kernel
theorem dX12_sign_10 : decode cX12_sign 10 = .ok (.iadd, 1) := by decide +kernel
theorem dX12_sign_11 : decode cX12_sign 11 = .ok (.bipush 80, 2) := by decide +kernel
theorem dX12_sign_13 : decode cX12_sign 13 = .ok (.if_icmp .le 5, 3) := by decide +kernel
theorem dX12_sign_16 : decode cX12_sign 16 = .ok (.iconst (-1), 1) := by decide +kernel
theorem dX12_sign_17 : decode cX12_sign 17 = .ok (.ireturn, 1) := by decide +kernel
theorem dX12_sign_18 : decode cX12_sign 18 = .ok (.iconst 3, 1) := by decide +kernel
theorem dX12_sign_19 : decode cX12_sign 19 = .ok (.istore_n 2, 1) := by decide +kernel
theorem dX12_sign_20 : decode cX12_sign 20 = .ok (.iload_n 2, 1) := by decide +kernel
theorem dX12_sign_21 : decode cX12_sign 21 = .ok (.ifCond .lt 32, 3) := by decide +kernel
theorem dX12_sign_24 : decode cX12_sign 24 = .ok (.aload_n 0, 1) := by decide +kernel
theorem dX12_sign_25 : decode cX12_sign 25 = .ok (.getfield 29, 3) := by decide +kernel
theorem dX12_sign_28 : decode cX12_sign 28 = .ok (.aload_n 0, 1) := by decide +kernel
theorem dX12_sign_29 : decode cX12_sign 29 = .ok (.dup, 1) := by decide +kernel
theorem dX12_sign_30 : decode cX12_sign 30 = .ok (.getfield 105, 3) := by decide +kernel
theorem dX12_sign_33 : decode cX12_sign 33 = .ok (.dup_x1, 1) := by decide +kernel
theorem dX12_sign_34 : decode cX12_sign 34 = .ok (.iconst 1, 1) := by decide +kernel
theorem dX12_sign_35 : decode cX12_sign 35 = .ok (.iadd, 1) := by decide +kernel
theorem dX12_sign_36 : decode cX12_sign 36 = .ok (.putfield 105, 3) := by decide +kernel
theorem dX12_sign_39 : decode cX12_sign 39 = .ok (.iload_n 1, 1) := by decide +kernel
theorem dX12_sign_40 : decode cX12_sign 40 = .ok (.bipush 8, 2) := by decide +kernel
theorem dX12_sign_42 : decode cX12_sign 42 = .ok (.iload_n 2, 1) := by decide +kernel
theorem dX12_sign_43 : decode cX12_sign 43 = .ok (.imul, 1) := by decide +kernel
theorem dX12_sign_44 : decode cX12_sign 44 = .ok (.ishr, 1) := by decide +kernel
theorem dX12_sign_45 : decode cX12_sign 45 = .ok (.i2b, 1) := by decide +kernel
theorem dX12_sign_46 : decode cX12_sign 46 = .ok (.bastore, 1) := by decide +kernel
theorem dX12_sign_47 : decode cX12_sign 47 = .ok (.iinc 2 (-1), 3) := by decide +kernel
theorem dX12_sign_50 : decode cX12_sign 50 = .ok (.goto (-30), 3) := by decide +kernel
theorem dX12_sign_53 : decode cX12_sign 53 = .ok (.aload_n 0, 1) := by decide +kernel
theorem dX12_sign_54 : decode cX12_sign 54 = .ok (.getfield 105, 3) := by decide +kernel
theorem dX12_sign_57 : decode cX12_sign 57 = .ok (.ireturn, 1) := by decide +kernel
theorem dX12_end_0 : decode cX12_end 0 = .ok (.aload_n 0, 1) := by decide +kernel
theorem dX12_end_1 : decode cX12_end 1 = .ok (.iconst 0, 1) := by decide +kernel
theorem dX12_end_2 : decode cX12_end 2 = .ok (.putfield 89, 3) := by decide +kernel
theorem dX12_end_5 : decode cX12_end 5 = .ok (.iload_n 1, 1) := by decide +kernel
theorem dX12_end_6 : decode cX12_end 6 = .ok (.iconst 0, 1) := by decide +kernel
theorem dX12_end_7 : decode cX12_end 7 = .ok (.aload_n 0, 1) := by decide +kernel
theorem dX12_end_8 : decode cX12_end 8 = .ok (.getfield 105, 3) := by decide +kernel
theorem dX12_end_11 : decode cX12_end 11 = .ok (.invokestatic 98, 3) := by decide +kernel
theorem dX12_end_14 : decode cX12_end 14 = .ok (.ifCond .ne 5, 3) := by decide +kernel
theorem dX12_end_17 : decode cX12_end 17 = .ok (.iconst 0, 1) := by decide +kernel
theorem dX12_end_18 : decode cX12_end 18 = .ok (.ireturn, 1) := by decide +kernel
theorem dX12_end_19 : decode cX12_end 19 = .ok (.aload_n 0, 1) := by decide +kernel
theorem dX12_end_20 : decode cX12_end 20 = .ok (.iload_n 1, 1) := by decide +kernel
theorem dX12_end_21 : decode cX12_end 21 = .ok (.putfield 105, 3) := by decide +kernel
theorem dX12_end_24 : decode cX12_end 24 = .ok (.iconst 1, 1) := by decide +kernel
theorem dX12_end_25 : decode cX12_end 25 = .ok (.ireturn, 1) := by decide +kernel
theorem dX12_begin_0 : decode cX12_begin 0 = .ok (.aload_n 0, 1) := by decide +kernel
theorem dX12_begin_1 : decode cX12_begin 1 = .ok (.aload_n 1, 1) := by decide +kernel
theorem dX12_begin_2 : decode cX12_begin 2 = .ok (.putfield 108, 3) := by decide +kernel
theorem dX12_begin_5 : decode cX12_begin 5 = .ok (.aload_n 0, 1) := by decide +kernel
theorem dX12_begin_6 : decode cX12_begin 6 = .ok (.iload_n 2, 1) := by decide +kernel
theorem dX12_begin_7 : decode cX12_begin 7 = .ok (.putfield 111, 3) := by decide +kernel
theorem dX12_begin_10 : decode cX12_begin 10 = .ok (.aload_n 0, 1) := by decide +kernel
theorem dX12_begin_11 : decode cX12_begin 11 = .ok (.iload_n 3, 1) := by decide +kernel
theorem dX12_begin_12 : decode cX12_begin 12 = .ok (.putfield 114, 3) := by decide +kernel
theorem dX12_begin_15 : decode cX12_begin 15 = .ok (.aload_n 0, 1) := by decide +kernel
theorem dX12_begin_16 : decode cX12_begin 16 = .ok (.iconst 0, 1) := by decide +kernel
theorem dX12_begin_17 : decode cX12_begin 17 = .ok (.putfield 117, 3) := by decide +kernel
theorem dX12_begin_20 : decode cX12_begin 20 = .ok (.aload_n 0, 1) := by decide +kernel
theorem dX12_begin_21 : decode cX12_begin 21 = .ok (.iconst (-1), 1) := by decide +kernel
theorem dX12_begin_22 : decode cX12_begin 22 = .ok (.putfield 120, 3) := by decide +kernel
theorem dX12_begin_25 : decode cX12_begin 25 = .ok (.return_, 1) := by decide +kernel
theorem dX12_beginText_0 : decode cX12_beginText 0 = .ok (.aload_n 0, 1) := by decide +kernel
theorem dX12_beginText_1 : decode cX12_beginText 1 = .ok (.aload_n 0, 1) := by decide +kernel
theorem dX12_beginText_2 : decode cX12_beginText 2 = .ok (.getfield 29, 3) := by decide +kernel
theorem dX12_beginText_5 : decode cX12_beginText 5 = .ok (.aload_n 0, 1) := by decide +kernel
theorem dX12_beginText_6 : decode cX12_beginText 6 = .ok (.getfield 105, 3) := by decide +kernel
theorem dX12_beginText_9 : decode cX12_beginText 9 = .ok (.iload_n 1, 1) := by decide +kernel
theorem dX12_beginText_10 : decode cX12_beginText 10 = .ok (.invokevirtual 123, 3) := by decide +kernel
theorem dX12_beginText_13 : decode cX12_beginText 13 = .ok (.aload_n 0, 1) := by decide +kernel
theorem dX12_beginText_14 : decode cX12_beginText 14 = .ok (.iconst 0, 1) := by decide +kernel
theorem dX12_beginText_15 : decode cX12_beginText 15 = .ok (.putfield 105, 3) := by decide +kernel
theorem dX12_beginText_18 : decode cX12_beginText 18 = .ok (.return_, 1) := by decide +kernel
theorem dX12_here_0 : decode cX12_here 0 = .ok (.aload_n 0, 1) := by decide +kernel
theorem dX12_here_1 : decode cX12_here 1 = .ok (.getfield 117, 3) := by decide +kernel
theorem dX12_here_4 : decode cX12_here 4 = .ok (.aload_n 0, 1) := by decide +kernel
theorem dX12_here_5 : decode cX12_here 5 = .ok (.getfield 111, 3) := by decide +kernel
theorem dX12_here_8 : decode cX12_here 8 = .ok (.if_icmp .ge 30, 3) := by decide +kernel
theorem dX12_here_11 : decode cX12_here 11 = .ok (.aload_n 0, 1) := by decide +kernel
theorem dX12_here_12 : decode cX12_here 12 = .ok (.getfield 117, 3) := by decide +kernel
theorem dX12_here_15 : decode cX12_here 15 = .ok (.aload_n 0, 1) := by decide +kernel
theorem dX12_here_16 : decode cX12_here 16 = .ok (.getfield 114, 3) := by decide +kernel
theorem dX12_here_19 : decode cX12_here 19 = .ok (.if_icmp .ge 19, 3) := by decide +kernel
theorem dX12_here_22 : decode cX12_here 22 = .ok (.aload_n 0, 1) := by decide +kernel
theorem dX12_here_23 : decode cX12_here 23 = .ok (.getfield 108, 3) := by decide +kernel
theorem dX12_here_26 : decode cX12_here 26 = .ok (.aload_n 0, 1) := by decide +kernel
theorem dX12_here_27 : decode cX12_here 27 = .ok (.getfield 117, 3) := by decide +kernel
theorem dX12_here_30 : decode cX12_here 30 = .ok (.baload, 1) := by decide +kernel
theorem dX12_here_31 : decode cX12_here 31 = .ok (.sipush 255, 3) := by decide +kernel
theorem dX12_here_34 : decode cX12_here 34 = .ok (.iand, 1) := by decide +kernel
theorem dX12_here_35 : decode cX12_here 35 = .ok (.goto 4, 3) := by decide +kernel
theorem dX12_here_38 : decode cX12_here 38 = .ok (.iconst (-1), 1) := by decide +kernel
theorem dX12_here_39 : decode cX12_here 39 = .ok (.ireturn, 1) := by decide +kernel
theorem dX12_fine_0 : decode cX12_fine 0 = .ok (.aload_n 0, 1) := by decide +kernel
theorem dX12_fine_1 : decode cX12_fine 1 = .ok (.getfield 120, 3) := by decide +kernel
theorem dX12_fine_4 : decode cX12_fine 4 = .ok (.iconst (-1), 1) := by decide +kernel
theorem dX12_fine_5 : decode cX12_fine 5 = .ok (.if_icmp .ne 7, 3) := by decide +kernel
theorem dX12_fine_8 : decode cX12_fine 8 = .ok (.iconst 1, 1) := by decide +kernel
theorem dX12_fine_9 : decode cX12_fine 9 = .ok (.goto 4, 3) := by decide +kernel
theorem dX12_fine_12 : decode cX12_fine 12 = .ok (.iconst 0, 1) := by decide +kernel
theorem dX12_fine_13 : decode cX12_fine 13 = .ok (.ireturn, 1) := by decide +kernel
theorem dX12_fault_0 : decode cX12_fault 0 = .ok (.aload_n 0, 1) := by decide +kernel
theorem dX12_fault_1 : decode cX12_fault 1 = .ok (.invokevirtual 127, 3) := by decide +kernel
theorem dX12_fault_4 : decode cX12_fault 4 = .ok (.ifCond .eq 8, 3) := by decide +kernel
theorem dX12_fault_7 : decode cX12_fault 7 = .ok (.aload_n 0, 1) := by decide +kernel
theorem dX12_fault_8 : decode cX12_fault 8 = .ok (.iload_n 1, 1) := by decide +kernel
theorem dX12_fault_9 : decode cX12_fault 9 = .ok (.putfield 120, 3) := by decide +kernel
theorem dX12_fault_12 : decode cX12_fault 12 = .ok (.return_, 1) := by decide +kernel
theorem dX12_passes_0 : decode cX12_passes 0 = .ok (.aload_n 0, 1) := by decide +kernel
theorem dX12_passes_1 : decode cX12_passes 1 = .ok (.invokevirtual 127, 3) := by decide +kernel
theorem dX12_passes_4 : decode cX12_passes 4 = .ok (.ifCond .eq 11, 3) := by decide +kernel
theorem dX12_passes_7 : decode cX12_passes 7 = .ok (.aload_n 0, 1) := by decide +kernel
theorem dX12_passes_8 : decode cX12_passes 8 = .ok (.invokevirtual 131, 3) := by decide +kernel
theorem dX12_passes_11 : decode cX12_passes 11 = .ok (.iload_n 1, 1) := by decide +kernel
theorem dX12_passes_12 : decode cX12_passes 12 = .ok (.if_icmp .eq 5, 3) := by decide +kernel
theorem dX12_passes_15 : decode cX12_passes 15 = .ok (.iconst 0, 1) := by decide +kernel
theorem dX12_passes_16 : decode cX12_passes 16 = .ok (.ireturn, 1) := by decide +kernel
theorem dX12_passes_17 : decode cX12_passes 17 = .ok (.aload_n 0, 1) := by decide +kernel
theorem dX12_passes_18 : decode cX12_passes 18 = .ok (.dup, 1) := by decide +kernel
theorem dX12_passes_19 : decode cX12_passes 19 = .ok (.getfield 117, 3) := by decide +kernel
theorem dX12_passes_22 : decode cX12_passes 22 = .ok (.iconst 1, 1) := by decide +kernel
theorem dX12_passes_23 : decode cX12_passes 23 = .ok (.iadd, 1) := by decide +kernel
theorem dX12_passes_24 : decode cX12_passes 24 = .ok (.putfield 117, 3) := by decide +kernel
theorem dX12_passes_27 : decode cX12_passes 27 = .ok (.iconst 1, 1) := by decide +kernel
theorem dX12_passes_28 : decode cX12_passes 28 = .ok (.ireturn, 1) := by decide +kernel
theorem dX12_need_0 : decode cX12_need 0 = .ok (.aload_n 0, 1) := by decide +kernel
theorem dX12_need_1 : decode cX12_need 1 = .ok (.iload_n 1, 1) := by decide +kernel
theorem dX12_need_2 : decode cX12_need 2 = .ok (.invokevirtual 135, 3) := by decide +kernel
theorem dX12_need_5 : decode cX12_need 5 = .ok (.ifCond .ne 11, 3) := by decide +kernel
theorem dX12_need_8 : decode cX12_need 8 = .ok (.aload_n 0, 1) := by decide +kernel
theorem dX12_need_9 : decode cX12_need 9 = .ok (.aload_n 0, 1) := by decide +kernel
theorem dX12_need_10 : decode cX12_need 10 = .ok (.getfield 117, 3) := by decide +kernel
theorem dX12_need_13 : decode cX12_need 13 = .ok (.invokevirtual 139, 3) := by decide +kernel
theorem dX12_need_16 : decode cX12_need 16 = .ok (.return_, 1) := by decide +kernel
theorem dX12_oneOf_0 : decode cX12_oneOf 0 = .ok (.aload_n 0, 1) := by decide +kernel
theorem dX12_oneOf_1 : decode cX12_oneOf 1 = .ok (.invokevirtual 127, 3) := by decide +kernel
theorem dX12_oneOf_4 : decode cX12_oneOf 4 = .ok (.ifCond .ne 5, 3) := by decide +kernel
theorem dX12_oneOf_7 : decode cX12_oneOf 7 = .ok (.iconst 0, 1) := by decide +kernel
theorem dX12_oneOf_8 : decode cX12_oneOf 8 = .ok (.ireturn, 1) := by decide +kernel
theorem dX12_oneOf_9 : decode cX12_oneOf 9 = .ok (.aload_n 0, 1) := by decide +kernel
theorem dX12_oneOf_10 : decode cX12_oneOf 10 = .ok (.invokevirtual 131, 3) := by decide +kernel
theorem dX12_oneOf_13 : decode cX12_oneOf 13 = .ok (.iload_n 1, 1) := by decide +kernel
theorem dX12_oneOf_14 : decode cX12_oneOf 14 = .ok (.iload_n 1, 1) := by decide +kernel
theorem dX12_oneOf_15 : decode cX12_oneOf 15 = .ok (.iload_n 2, 1) := by decide +kernel
theorem dX12_oneOf_16 : decode cX12_oneOf 16 = .ok (.iadd, 1) := by decide +kernel
theorem dX12_oneOf_17 : decode cX12_oneOf 17 = .ok (.iconst 1, 1) := by decide +kernel
theorem dX12_oneOf_18 : decode cX12_oneOf 18 = .ok (.isub, 1) := by decide +kernel
theorem dX12_oneOf_19 : decode cX12_oneOf 19 = .ok (.invokestatic 98, 3) := by decide +kernel
theorem dX12_oneOf_22 : decode cX12_oneOf 22 = .ok (.ifCond .ne 13, 3) := by decide +kernel
theorem dX12_oneOf_25 : decode cX12_oneOf 25 = .ok (.aload_n 0, 1) := by decide +kernel
theorem dX12_oneOf_26 : decode cX12_oneOf 26 = .ok (.aload_n 0, 1) := by decide +kernel
theorem dX12_oneOf_27 : decode cX12_oneOf 27 = .ok (.getfield 117, 3) := by decide +kernel
theorem dX12_oneOf_30 : decode cX12_oneOf 30 = .ok (.invokevirtual 139, 3) := by decide +kernel
theorem dX12_oneOf_33 : decode cX12_oneOf 33 = .ok (.iconst 0, 1) := by decide +kernel
theorem dX12_oneOf_34 : decode cX12_oneOf 34 = .ok (.ireturn, 1) := by decide +kernel
theorem dX12_oneOf_35 : decode cX12_oneOf 35 = .ok (.aload_n 0, 1) := by decide +kernel
theorem dX12_oneOf_36 : decode cX12_oneOf 36 = .ok (.dup, 1) := by decide +kernel
theorem dX12_oneOf_37 : decode cX12_oneOf 37 = .ok (.getfield 117, 3) := by decide +kernel
theorem dX12_oneOf_40 : decode cX12_oneOf 40 = .ok (.iconst 1, 1) := by decide +kernel
theorem dX12_oneOf_41 : decode cX12_oneOf 41 = .ok (.iadd, 1) := by decide +kernel
theorem dX12_oneOf_42 : decode cX12_oneOf 42 = .ok (.putfield 117, 3) := by decide +kernel
theorem dX12_oneOf_45 : decode cX12_oneOf 45 = .ok (.aload_n 0, 1) := by decide +kernel
theorem dX12_oneOf_46 : decode cX12_oneOf 46 = .ok (.getfield 108, 3) := by decide +kernel
theorem dX12_oneOf_49 : decode cX12_oneOf 49 = .ok (.aload_n 0, 1) := by decide +kernel
theorem dX12_oneOf_50 : decode cX12_oneOf 50 = .ok (.getfield 117, 3) := by decide +kernel
theorem dX12_oneOf_53 : decode cX12_oneOf 53 = .ok (.iconst 1, 1) := by decide +kernel
theorem dX12_oneOf_54 : decode cX12_oneOf 54 = .ok (.isub, 1) := by decide +kernel
theorem dX12_oneOf_55 : decode cX12_oneOf 55 = .ok (.baload, 1) := by decide +kernel
theorem dX12_oneOf_56 : decode cX12_oneOf 56 = .ok (.iload_n 1, 1) := by decide +kernel
theorem dX12_oneOf_57 : decode cX12_oneOf 57 = .ok (.isub, 1) := by decide +kernel
theorem dX12_oneOf_58 : decode cX12_oneOf 58 = .ok (.ireturn, 1) := by decide +kernel
theorem dX12_number_0 : decode cX12_number 0 = .ok (.aload_n 0, 1) := by decide +kernel
theorem dX12_number_1 : decode cX12_number 1 = .ok (.bipush 48, 2) := by decide +kernel
theorem dX12_number_3 : decode cX12_number 3 = .ok (.bipush 10, 2) := by decide +kernel
theorem dX12_number_5 : decode cX12_number 5 = .ok (.invokevirtual 143, 3) := by decide +kernel
theorem dX12_number_8 : decode cX12_number 8 = .ok (.istore_n 2, 1) := by decide +kernel
theorem dX12_number_9 : decode cX12_number 9 = .ok (.iconst 1, 1) := by decide +kernel
theorem dX12_number_10 : decode cX12_number 10 = .ok (.istore_n 3, 1) := by decide +kernel
theorem dX12_number_11 : decode cX12_number 11 = .ok (.iload_n 3, 1) := by decide +kernel
theorem dX12_number_12 : decode cX12_number 12 = .ok (.iload_n 1, 1) := by decide +kernel
theorem dX12_number_13 : decode cX12_number 13 = .ok (.if_icmp .ge 44, 3) := by decide +kernel
theorem dX12_number_16 : decode cX12_number 16 = .ok (.aload_n 0, 1) := by decide +kernel
theorem dX12_number_17 : decode cX12_number 17 = .ok (.invokevirtual 127, 3) := by decide +kernel
theorem dX12_number_20 : decode cX12_number 20 = .ok (.ifCond .eq 37, 3) := by decide +kernel
theorem dX12_number_23 : decode cX12_number 23 = .ok (.aload_n 0, 1) := by decide +kernel
theorem dX12_number_24 : decode cX12_number 24 = .ok (.invokevirtual 131, 3) := by decide +kernel
theorem dX12_number_27 : decode cX12_number 27 = .ok (.bipush 48, 2) := by decide +kernel
theorem dX12_number_29 : decode cX12_number 29 = .ok (.bipush 57, 2) := by decide +kernel
theorem dX12_number_31 : decode cX12_number 31 = .ok (.invokestatic 98, 3) := by decide +kernel
theorem dX12_number_34 : decode cX12_number 34 = .ok (.ifCond .eq 23, 3) := by decide +kernel
theorem dX12_number_37 : decode cX12_number 37 = .ok (.bipush 10, 2) := by decide +kernel
theorem dX12_number_39 : decode cX12_number 39 = .ok (.iload_n 2, 1) := by decide +kernel
theorem dX12_number_40 : decode cX12_number 40 = .ok (.imul, 1) := by decide +kernel
theorem dX12_number_41 : decode cX12_number 41 = .ok (.aload_n 0, 1) := by decide +kernel
theorem dX12_number_42 : decode cX12_number 42 = .ok (.bipush 48, 2) := by decide +kernel
theorem dX12_number_44 : decode cX12_number 44 = .ok (.bipush 10, 2) := by decide +kernel
theorem dX12_number_46 : decode cX12_number 46 = .ok (.invokevirtual 143, 3) := by decide +kernel
theorem dX12_number_49 : decode cX12_number 49 = .ok (.iadd, 1) := by decide +kernel
theorem dX12_number_50 : decode cX12_number 50 = .ok (.istore_n 2, 1) := by decide +kernel
theorem dX12_number_51 : decode cX12_number 51 = .ok (.iinc 3 1, 3) := by decide +kernel
theorem dX12_number_54 : decode cX12_number 54 = .ok (.goto (-43), 3) := by decide +kernel
theorem dX12_number_57 : decode cX12_number 57 = .ok (.iload_n 2, 1) := by decide +kernel
theorem dX12_number_58 : decode cX12_number 58 = .ok (.ireturn, 1) := by decide +kernel
theorem dX12_wasRight_0 : decode cX12_wasRight 0 = .ok (.aload_n 0, 1) := by decide +kernel
theorem dX12_wasRight_1 : decode cX12_wasRight 1 = .ok (.getfield 117, 3) := by decide +kernel
theorem dX12_wasRight_4 : decode cX12_wasRight 4 = .ok (.aload_n 0, 1) := by decide +kernel
theorem dX12_wasRight_5 : decode cX12_wasRight 5 = .ok (.getfield 111, 3) := by decide +kernel
theorem dX12_wasRight_8 : decode cX12_wasRight 8 = .ok (.if_icmp .ge 11, 3) := by decide +kernel
theorem dX12_wasRight_11 : decode cX12_wasRight 11 = .ok (.aload_n 0, 1) := by decide +kernel
theorem dX12_wasRight_12 : decode cX12_wasRight 12 = .ok (.aload_n 0, 1) := by decide +kernel
theorem dX12_wasRight_13 : decode cX12_wasRight 13 = .ok (.getfield 117, 3) := by decide +kernel
theorem dX12_wasRight_16 : decode cX12_wasRight 16 = .ok (.invokevirtual 139, 3) := by decide +kernel
theorem dX12_wasRight_19 : decode cX12_wasRight 19 = .ok (.aload_n 0, 1) := by decide +kernel
theorem dX12_wasRight_20 : decode cX12_wasRight 20 = .ok (.invokevirtual 127, 3) := by decide +kernel
theorem dX12_wasRight_23 : decode cX12_wasRight 23 = .ok (.ireturn, 1) := by decide +kernel
theorem dX12_told_0 : decode cX12_told 0 = .ok (.aload_n 0, 1) := by decide +kernel
theorem dX12_told_1 : decode cX12_told 1 = .ok (.iconst 0, 1) := by decide +kernel
theorem dX12_told_2 : decode cX12_told 2 = .ok (.putfield 147, 3) := by decide +kernel
theorem dX12_told_5 : decode cX12_told 5 = .ok (.aload_n 0, 1) := by decide +kernel
theorem dX12_told_6 : decode cX12_told 6 = .ok (.dup, 1) := by decide +kernel
theorem dX12_told_7 : decode cX12_told 7 = .ok (.getfield 150, 3) := by decide +kernel
theorem dX12_told_10 : decode cX12_told 10 = .ok (.iconst 1, 1) := by decide +kernel
theorem dX12_told_11 : decode cX12_told 11 = .ok (.iadd, 1) := by decide +kernel
theorem dX12_told_12 : decode cX12_told 12 = .ok (.putfield 150, 3) := by decide +kernel
theorem dX12_told_15 : decode cX12_told 15 = .ok (.return_, 1) := by decide +kernel
theorem dX12_way_0 : decode cX12_way 0 = .ok (.aload_n 0, 1) := by decide +kernel
theorem dX12_way_1 : decode cX12_way 1 = .ok (.iconst 0, 1) := by decide +kernel
theorem dX12_way_2 : decode cX12_way 2 = .ok (.putfield 89, 3) := by decide +kernel
theorem dX12_way_5 : decode cX12_way 5 = .ok (.aload_n 0, 1) := by decide +kernel
theorem dX12_way_6 : decode cX12_way 6 = .ok (.bipush 12, 2) := by decide +kernel
theorem dX12_way_8 : decode cX12_way 8 = .ok (.invokevirtual 153, 3) := by decide +kernel
theorem dX12_way_11 : decode cX12_way 11 = .ok (.iconst 0, 1) := by decide +kernel
