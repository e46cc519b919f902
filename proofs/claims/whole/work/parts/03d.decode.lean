theorem dX12_change_83 : decode cX12_change 83 = .ok (.ior, 1) := by decide +kernel
theorem dX12_change_84 : decode cX12_change 84 = .ok (.invokevirtual 230, 3) := by decide +kernel
theorem dX12_change_87 : decode cX12_change 87 = .ok (.istore 7, 2) := by decide +kernel
theorem dX12_change_89 : decode cX12_change 89 = .ok (.iload 7, 2) := by decide +kernel
theorem dX12_change_91 : decode cX12_change 91 = .ok (.iload_n 2, 1) := by decide +kernel
theorem dX12_change_92 : decode cX12_change 92 = .ok (.if_icmp .gt 6, 3) := by decide +kernel
theorem dX12_change_95 : decode cX12_change 95 = .ok (.goto 13, 3) := by decide +kernel
theorem dX12_change_98 : decode cX12_change 98 = .ok (.iload 7, 2) := by decide +kernel
theorem dX12_change_100 : decode cX12_change 100 = .ok (.istore_n 2, 1) := by decide +kernel
theorem dX12_change_101 : decode cX12_change 101 = .ok (.iload 5, 2) := by decide +kernel
theorem dX12_change_103 : decode cX12_change 103 = .ok (.istore_n 3, 1) := by decide +kernel
theorem dX12_change_104 : decode cX12_change 104 = .ok (.iload 6, 2) := by decide +kernel
theorem dX12_change_106 : decode cX12_change 106 = .ok (.istore 4, 2) := by decide +kernel
theorem dX12_change_108 : decode cX12_change 108 = .ok (.iinc 6 1, 3) := by decide +kernel
theorem dX12_change_111 : decode cX12_change 111 = .ok (.goto (-75), 3) := by decide +kernel
theorem dX12_change_114 : decode cX12_change 114 = .ok (.iinc 5 1, 3) := by decide +kernel
theorem dX12_change_117 : decode cX12_change 117 = .ok (.goto (-93), 3) := by decide +kernel
theorem dX12_change_120 : decode cX12_change 120 = .ok (.iload_n 2, 1) := by decide +kernel
theorem dX12_change_121 : decode cX12_change 121 = .ok (.iconst (-1), 1) := by decide +kernel
theorem dX12_change_122 : decode cX12_change 122 = .ok (.if_icmp .ne 6, 3) := by decide +kernel
theorem dX12_change_125 : decode cX12_change 125 = .ok (.bipush (-2), 2) := by decide +kernel
theorem dX12_change_127 : decode cX12_change 127 = .ok (.ireturn, 1) := by decide +kernel
theorem dX12_change_128 : decode cX12_change 128 = .ok (.aload_n 0, 1) := by decide +kernel
theorem dX12_change_129 : decode cX12_change 129 = .ok (.iconst 0, 1) := by decide +kernel
theorem dX12_change_130 : decode cX12_change 130 = .ok (.putfield 92, 3) := by decide +kernel
theorem dX12_change_133 : decode cX12_change 133 = .ok (.aload_n 0, 1) := by decide +kernel
theorem dX12_change_134 : decode cX12_change 134 = .ok (.iload_n 3, 1) := by decide +kernel
theorem dX12_change_135 : decode cX12_change 135 = .ok (.i2l, 1) := by decide +kernel
theorem dX12_change_136 : decode cX12_change 136 = .ok (.invokevirtual 253, 3) := by decide +kernel
theorem dX12_change_139 : decode cX12_change 139 = .ok (.aload_n 0, 1) := by decide +kernel
theorem dX12_change_140 : decode cX12_change 140 = .ok (.iload 4, 2) := by decide +kernel
theorem dX12_change_142 : decode cX12_change 142 = .ok (.i2l, 1) := by decide +kernel
theorem dX12_change_143 : decode cX12_change 143 = .ok (.invokevirtual 253, 3) := by decide +kernel
theorem dX12_change_146 : decode cX12_change 146 = .ok (.iload_n 2, 1) := by decide +kernel
theorem dX12_change_147 : decode cX12_change 147 = .ok (.ireturn, 1) := by decide +kernel
theorem dX12_props_0 : decode cX12_props 0 = .ok (.aload_n 0, 1) := by decide +kernel
theorem dX12_props_1 : decode cX12_props 1 = .ok (.iconst 0, 1) := by decide +kernel
theorem dX12_props_2 : decode cX12_props 2 = .ok (.putfield 89, 3) := by decide +kernel
theorem dX12_props_5 : decode cX12_props 5 = .ok (.aload_n 0, 1) := by decide +kernel
theorem dX12_props_6 : decode cX12_props 6 = .ok (.aload_n 0, 1) := by decide +kernel
theorem dX12_props_7 : decode cX12_props 7 = .ok (.getfield 9, 3) := by decide +kernel
theorem dX12_props_10 : decode cX12_props 10 = .ok (.invokevirtual 244, 3) := by decide +kernel
theorem dX12_props_13 : decode cX12_props 13 = .ok (.istore_n 1, 1) := by decide +kernel
theorem dX12_props_14 : decode cX12_props 14 = .ok (.iconst 0, 1) := by decide +kernel
theorem dX12_props_15 : decode cX12_props 15 = .ok (.istore_n 2, 1) := by decide +kernel
theorem dX12_props_16 : decode cX12_props 16 = .ok (.iconst 0, 1) := by decide +kernel
theorem dX12_props_17 : decode cX12_props 17 = .ok (.istore_n 3, 1) := by decide +kernel
theorem dX12_props_18 : decode cX12_props 18 = .ok (.iload_n 3, 1) := by decide +kernel
theorem dX12_props_19 : decode cX12_props 19 = .ok (.aload_n 0, 1) := by decide +kernel
theorem dX12_props_20 : decode cX12_props 20 = .ok (.getfield 95, 3) := by decide +kernel
theorem dX12_props_23 : decode cX12_props 23 = .ok (.if_icmp .ge 45, 3) := by decide +kernel
theorem dX12_props_26 : decode cX12_props 26 = .ok (.iload_n 2, 1) := by decide +kernel
theorem dX12_props_27 : decode cX12_props 27 = .ok (.iload_n 1, 1) := by decide +kernel
theorem dX12_props_28 : decode cX12_props 28 = .ok (.iload_n 3, 1) := by decide +kernel
theorem dX12_props_29 : decode cX12_props 29 = .ok (.invokestatic 201, 3) := by decide +kernel
theorem dX12_props_32 : decode cX12_props 32 = .ok (.ifCond .eq 27, 3) := by decide +kernel
theorem dX12_props_35 : decode cX12_props 35 = .ok (.aload_n 0, 1) := by decide +kernel
theorem dX12_props_36 : decode cX12_props 36 = .ok (.aload_n 0, 1) := by decide +kernel
theorem dX12_props_37 : decode cX12_props 37 = .ok (.getfield 9, 3) := by decide +kernel
theorem dX12_props_40 : decode cX12_props 40 = .ok (.iload_n 1, 1) := by decide +kernel
theorem dX12_props_41 : decode cX12_props 41 = .ok (.iconst 1, 1) := by decide +kernel
theorem dX12_props_42 : decode cX12_props 42 = .ok (.iload_n 3, 1) := by decide +kernel
theorem dX12_props_43 : decode cX12_props 43 = .ok (.ishl, 1) := by decide +kernel
theorem dX12_props_44 : decode cX12_props 44 = .ok (.iconst (-1), 1) := by decide +kernel
theorem dX12_props_45 : decode cX12_props 45 = .ok (.ixor, 1) := by decide +kernel
theorem dX12_props_46 : decode cX12_props 46 = .ok (.iand, 1) := by decide +kernel
theorem dX12_props_47 : decode cX12_props 47 = .ok (.invokevirtual 265, 3) := by decide +kernel
theorem dX12_props_50 : decode cX12_props 50 = .ok (.ifCond .ne 9, 3) := by decide +kernel
theorem dX12_props_53 : decode cX12_props 53 = .ok (.iconst 1, 1) := by decide +kernel
theorem dX12_props_54 : decode cX12_props 54 = .ok (.iload_n 3, 1) := by decide +kernel
theorem dX12_props_55 : decode cX12_props 55 = .ok (.ishl, 1) := by decide +kernel
theorem dX12_props_56 : decode cX12_props 56 = .ok (.goto 4, 3) := by decide +kernel
theorem dX12_props_59 : decode cX12_props 59 = .ok (.iconst 0, 1) := by decide +kernel
theorem dX12_props_60 : decode cX12_props 60 = .ok (.ior, 1) := by decide +kernel
theorem dX12_props_61 : decode cX12_props 61 = .ok (.istore_n 2, 1) := by decide +kernel
theorem dX12_props_62 : decode cX12_props 62 = .ok (.iinc 3 1, 3) := by decide +kernel
theorem dX12_props_65 : decode cX12_props 65 = .ok (.goto (-47), 3) := by decide +kernel
theorem dX12_props_68 : decode cX12_props 68 = .ok (.aload_n 0, 1) := by decide +kernel
theorem dX12_props_69 : decode cX12_props 69 = .ok (.iconst 0, 1) := by decide +kernel
theorem dX12_props_70 : decode cX12_props 70 = .ok (.putfield 92, 3) := by decide +kernel
theorem dX12_props_73 : decode cX12_props 73 = .ok (.aload_n 0, 1) := by decide +kernel
theorem dX12_props_74 : decode cX12_props 74 = .ok (.iload_n 2, 1) := by decide +kernel
theorem dX12_props_75 : decode cX12_props 75 = .ok (.invokestatic 214, 3) := by decide +kernel
theorem dX12_props_78 : decode cX12_props 78 = .ok (.i2l, 1) := by decide +kernel
theorem dX12_props_79 : decode cX12_props 79 = .ok (.invokevirtual 253, 3) := by decide +kernel
theorem dX12_props_82 : decode cX12_props 82 = .ok (.iload_n 2, 1) := by decide +kernel
theorem dX12_props_83 : decode cX12_props 83 = .ok (.ireturn, 1) := by decide +kernel
theorem dX12_rest_0 : decode cX12_rest 0 = .ok (.aload_n 0, 1) := by decide +kernel
theorem dX12_rest_1 : decode cX12_rest 1 = .ok (.iconst 0, 1) := by decide +kernel
theorem dX12_rest_2 : decode cX12_rest 2 = .ok (.putfield 89, 3) := by decide +kernel
theorem dX12_rest_5 : decode cX12_rest 5 = .ok (.aload_n 0, 1) := by decide +kernel
theorem dX12_rest_6 : decode cX12_rest 6 = .ok (.iload_n 1, 1) := by decide +kernel
theorem dX12_rest_7 : decode cX12_rest 7 = .ok (.invokevirtual 237, 3) := by decide +kernel
theorem dX12_rest_10 : decode cX12_rest 10 = .ok (.ifCond .ne 5, 3) := by decide +kernel
theorem dX12_rest_13 : decode cX12_rest 13 = .ok (.iconst (-1), 1) := by decide +kernel
theorem dX12_rest_14 : decode cX12_rest 14 = .ok (.ireturn, 1) := by decide +kernel
theorem dX12_rest_15 : decode cX12_rest 15 = .ok (.aload_n 0, 1) := by decide +kernel
theorem dX12_rest_16 : decode cX12_rest 16 = .ok (.getfield 9, 3) := by decide +kernel
theorem dX12_rest_19 : decode cX12_rest 19 = .ok (.aload_n 0, 1) := by decide +kernel
theorem dX12_rest_20 : decode cX12_rest 20 = .ok (.getfield 55, 3) := by decide +kernel
theorem dX12_rest_23 : decode cX12_rest 23 = .ok (.iconst 0, 1) := by decide +kernel
theorem dX12_rest_24 : decode cX12_rest 24 = .ok (.invokestatic 257, 3) := by decide +kernel
theorem dX12_rest_27 : decode cX12_rest 27 = .ok (.aload_n 0, 1) := by decide +kernel
theorem dX12_rest_28 : decode cX12_rest 28 = .ok (.getfield 55, 3) := by decide +kernel
theorem dX12_rest_31 : decode cX12_rest 31 = .ok (.iload_n 1, 1) := by decide +kernel
theorem dX12_rest_32 : decode cX12_rest 32 = .ok (.iconst 0, 1) := by decide +kernel
theorem dX12_rest_33 : decode cX12_rest 33 = .ok (.iastore, 1) := by decide +kernel
theorem dX12_rest_34 : decode cX12_rest 34 = .ok (.aload_n 0, 1) := by decide +kernel
theorem dX12_rest_35 : decode cX12_rest 35 = .ok (.iconst 0, 1) := by decide +kernel
theorem dX12_rest_36 : decode cX12_rest 36 = .ok (.putfield 92, 3) := by decide +kernel
theorem dX12_rest_39 : decode cX12_rest 39 = .ok (.aload_n 0, 1) := by decide +kernel
theorem dX12_rest_40 : decode cX12_rest 40 = .ok (.aload_n 0, 1) := by decide +kernel
theorem dX12_rest_41 : decode cX12_rest 41 = .ok (.aload_n 0, 1) := by decide +kernel
theorem dX12_rest_42 : decode cX12_rest 42 = .ok (.getfield 55, 3) := by decide +kernel
theorem dX12_rest_45 : decode cX12_rest 45 = .ok (.iload_n 1, 1) := by decide +kernel
theorem dX12_rest_46 : decode cX12_rest 46 = .ok (.iconst 1, 1) := by decide +kernel
theorem dX12_rest_47 : decode cX12_rest 47 = .ok (.iload_n 1, 1) := by decide +kernel
theorem dX12_rest_48 : decode cX12_rest 48 = .ok (.ishl, 1) := by decide +kernel
theorem dX12_rest_49 : decode cX12_rest 49 = .ok (.invokevirtual 226, 3) := by decide +kernel
theorem dX12_rest_52 : decode cX12_rest 52 = .ok (.i2l, 1) := by decide +kernel
theorem dX12_rest_53 : decode cX12_rest 53 = .ok (.invokevirtual 253, 3) := by decide +kernel
theorem dX12_rest_56 : decode cX12_rest 56 = .ok (.aload_n 0, 1) := by decide +kernel
theorem dX12_rest_57 : decode cX12_rest 57 = .ok (.getfield 9, 3) := by decide +kernel
theorem dX12_rest_60 : decode cX12_rest 60 = .ok (.iload_n 1, 1) := by decide +kernel
theorem dX12_rest_61 : decode cX12_rest 61 = .ok (.iaload, 1) := by decide +kernel
theorem dX12_rest_62 : decode cX12_rest 62 = .ok (.iconst 1, 1) := by decide +kernel
theorem dX12_rest_63 : decode cX12_rest 63 = .ok (.iadd, 1) := by decide +kernel
theorem dX12_rest_64 : decode cX12_rest 64 = .ok (.iconst 2, 1) := by decide +kernel
theorem dX12_rest_65 : decode cX12_rest 65 = .ok (.idiv, 1) := by decide +kernel
theorem dX12_rest_66 : decode cX12_rest 66 = .ok (.ireturn, 1) := by decide +kernel
theorem dX12_slant_0 : decode cX12_slant 0 = .ok (.aload_n 0, 1) := by decide +kernel
theorem dX12_slant_1 : decode cX12_slant 1 = .ok (.iconst 0, 1) := by decide +kernel
theorem dX12_slant_2 : decode cX12_slant 2 = .ok (.putfield 89, 3) := by decide +kernel
theorem dX12_slant_5 : decode cX12_slant 5 = .ok (.aload_n 0, 1) := by decide +kernel
theorem dX12_slant_6 : decode cX12_slant 6 = .ok (.aload_n 0, 1) := by decide +kernel
theorem dX12_slant_7 : decode cX12_slant 7 = .ok (.getfield 9, 3) := by decide +kernel
theorem dX12_slant_10 : decode cX12_slant 10 = .ok (.invokevirtual 244, 3) := by decide +kernel
theorem dX12_slant_13 : decode cX12_slant 13 = .ok (.istore_n 1, 1) := by decide +kernel
theorem dX12_slant_14 : decode cX12_slant 14 = .ok (.iconst (-1), 1) := by decide +kernel
theorem dX12_slant_15 : decode cX12_slant 15 = .ok (.istore_n 2, 1) := by decide +kernel
theorem dX12_slant_16 : decode cX12_slant 16 = .ok (.iconst (-1), 1) := by decide +kernel
theorem dX12_slant_17 : decode cX12_slant 17 = .ok (.istore_n 3, 1) := by decide +kernel
theorem dX12_slant_18 : decode cX12_slant 18 = .ok (.iconst (-1), 1) := by decide +kernel
theorem dX12_slant_19 : decode cX12_slant 19 = .ok (.istore 4, 2) := by decide +kernel
theorem dX12_slant_21 : decode cX12_slant 21 = .ok (.iconst 0, 1) := by decide +kernel
theorem dX12_slant_22 : decode cX12_slant 22 = .ok (.istore 5, 2) := by decide +kernel
theorem dX12_slant_24 : decode cX12_slant 24 = .ok (.iload 5, 2) := by decide +kernel
theorem dX12_slant_26 : decode cX12_slant 26 = .ok (.aload_n 0, 1) := by decide +kernel
theorem dX12_slant_27 : decode cX12_slant 27 = .ok (.getfield 95, 3) := by decide +kernel
theorem dX12_slant_30 : decode cX12_slant 30 = .ok (.if_icmp .ge 99, 3) := by decide +kernel
theorem dX12_slant_33 : decode cX12_slant 33 = .ok (.iload 5, 2) := by decide +kernel
theorem dX12_slant_35 : decode cX12_slant 35 = .ok (.iconst 1, 1) := by decide +kernel
theorem dX12_slant_36 : decode cX12_slant 36 = .ok (.iadd, 1) := by decide +kernel
theorem dX12_slant_37 : decode cX12_slant 37 = .ok (.istore 6, 2) := by decide +kernel
theorem dX12_slant_39 : decode cX12_slant 39 = .ok (.iload 6, 2) := by decide +kernel
theorem dX12_slant_41 : decode cX12_slant 41 = .ok (.aload_n 0, 1) := by decide +kernel
theorem dX12_slant_42 : decode cX12_slant 42 = .ok (.getfield 95, 3) := by decide +kernel
theorem dX12_slant_45 : decode cX12_slant 45 = .ok (.if_icmp .ge 78, 3) := by decide +kernel
theorem dX12_slant_48 : decode cX12_slant 48 = .ok (.iload_n 1, 1) := by decide +kernel
theorem dX12_slant_49 : decode cX12_slant 49 = .ok (.iload 5, 2) := by decide +kernel
theorem dX12_slant_51 : decode cX12_slant 51 = .ok (.invokestatic 201, 3) := by decide +kernel
theorem dX12_slant_54 : decode cX12_slant 54 = .ok (.ifCond .eq 63, 3) := by decide +kernel
theorem dX12_slant_57 : decode cX12_slant 57 = .ok (.iload_n 1, 1) := by decide +kernel
theorem dX12_slant_58 : decode cX12_slant 58 = .ok (.iload 6, 2) := by decide +kernel
theorem dX12_slant_60 : decode cX12_slant 60 = .ok (.invokestatic 201, 3) := by decide +kernel
theorem dX12_slant_63 : decode cX12_slant 63 = .ok (.ifCond .eq 54, 3) := by decide +kernel
theorem dX12_slant_66 : decode cX12_slant 66 = .ok (.aload_n 0, 1) := by decide +kernel
theorem dX12_slant_67 : decode cX12_slant 67 = .ok (.getfield 23, 3) := by decide +kernel
theorem dX12_slant_70 : decode cX12_slant 70 = .ok (.iload 5, 2) := by decide +kernel
theorem dX12_slant_72 : decode cX12_slant 72 = .ok (.iaload, 1) := by decide +kernel
theorem dX12_slant_73 : decode cX12_slant 73 = .ok (.aload_n 0, 1) := by decide +kernel
theorem dX12_slant_74 : decode cX12_slant 74 = .ok (.getfield 23, 3) := by decide +kernel
theorem dX12_slant_77 : decode cX12_slant 77 = .ok (.iload 6, 2) := by decide +kernel
theorem dX12_slant_79 : decode cX12_slant 79 = .ok (.iaload, 1) := by decide +kernel
theorem dX12_slant_80 : decode cX12_slant 80 = .ok (.isub, 1) := by decide +kernel
theorem dX12_slant_81 : decode cX12_slant 81 = .ok (.invokestatic 330, 3) := by decide +kernel
theorem dX12_slant_84 : decode cX12_slant 84 = .ok (.iload_n 2, 1) := by decide +kernel
theorem dX12_slant_85 : decode cX12_slant 85 = .ok (.if_icmp .gt 6, 3) := by decide +kernel
theorem dX12_slant_88 : decode cX12_slant 88 = .ok (.goto 29, 3) := by decide +kernel
theorem dX12_slant_91 : decode cX12_slant 91 = .ok (.aload_n 0, 1) := by decide +kernel
theorem dX12_slant_92 : decode cX12_slant 92 = .ok (.getfield 23, 3) := by decide +kernel
theorem dX12_slant_95 : decode cX12_slant 95 = .ok (.iload 5, 2) := by decide +kernel
theorem dX12_slant_97 : decode cX12_slant 97 = .ok (.iaload, 1) := by decide +kernel
theorem dX12_slant_98 : decode cX12_slant 98 = .ok (.aload_n 0, 1) := by decide +kernel
theorem dX12_slant_99 : decode cX12_slant 99 = .ok (.getfield 23, 3) := by decide +kernel
theorem dX12_slant_102 : decode cX12_slant 102 = .ok (.iload 6, 2) := by decide +kernel
theorem dX12_slant_104 : decode cX12_slant 104 = .ok (.iaload, 1) := by decide +kernel
theorem dX12_slant_105 : decode cX12_slant 105 = .ok (.isub, 1) := by decide +kernel
theorem dX12_slant_106 : decode cX12_slant 106 = .ok (.invokestatic 330, 3) := by decide +kernel
theorem dX12_slant_109 : decode cX12_slant 109 = .ok (.istore_n 2, 1) := by decide +kernel
theorem dX12_slant_110 : decode cX12_slant 110 = .ok (.iload 5, 2) := by decide +kernel
theorem dX12_slant_112 : decode cX12_slant 112 = .ok (.istore_n 3, 1) := by decide +kernel
theorem dX12_slant_113 : decode cX12_slant 113 = .ok (.iload 6, 2) := by decide +kernel
theorem dX12_slant_115 : decode cX12_slant 115 = .ok (.istore 4, 2) := by decide +kernel
theorem dX12_slant_117 : decode cX12_slant 117 = .ok (.iinc 6 1, 3) := by decide +kernel
theorem dX12_slant_120 : decode cX12_slant 120 = .ok (.goto (-81), 3) := by decide +kernel
theorem dX12_slant_123 : decode cX12_slant 123 = .ok (.iinc 5 1, 3) := by decide +kernel
theorem dX12_slant_126 : decode cX12_slant 126 = .ok (.goto (-102), 3) := by decide +kernel
theorem dX12_slant_129 : decode cX12_slant 129 = .ok (.iload_n 2, 1) := by decide +kernel
theorem dX12_slant_130 : decode cX12_slant 130 = .ok (.iconst (-1), 1) := by decide +kernel
theorem dX12_slant_131 : decode cX12_slant 131 = .ok (.if_icmp .ne 6, 3) := by decide +kernel
theorem dX12_slant_134 : decode cX12_slant 134 = .ok (.bipush (-2), 2) := by decide +kernel
theorem dX12_slant_136 : decode cX12_slant 136 = .ok (.ireturn, 1) := by decide +kernel
theorem dX12_slant_137 : decode cX12_slant 137 = .ok (.aload_n 0, 1) := by decide +kernel
theorem dX12_slant_138 : decode cX12_slant 138 = .ok (.iconst 0, 1) := by decide +kernel
theorem dX12_slant_139 : decode cX12_slant 139 = .ok (.putfield 92, 3) := by decide +kernel
theorem dX12_slant_142 : decode cX12_slant 142 = .ok (.aload_n 0, 1) := by decide +kernel
theorem dX12_slant_143 : decode cX12_slant 143 = .ok (.iload_n 3, 1) := by decide +kernel
theorem dX12_slant_144 : decode cX12_slant 144 = .ok (.i2l, 1) := by decide +kernel
theorem dX12_slant_145 : decode cX12_slant 145 = .ok (.invokevirtual 253, 3) := by decide +kernel
theorem dX12_slant_148 : decode cX12_slant 148 = .ok (.aload_n 0, 1) := by decide +kernel
theorem dX12_slant_149 : decode cX12_slant 149 = .ok (.iload 4, 2) := by decide +kernel
theorem dX12_slant_151 : decode cX12_slant 151 = .ok (.i2l, 1) := by decide +kernel
theorem dX12_slant_152 : decode cX12_slant 152 = .ok (.invokevirtual 253, 3) := by decide +kernel
theorem dX12_slant_155 : decode cX12_slant 155 = .ok (.iload_n 2, 1) := by decide +kernel
theorem dX12_slant_156 : decode cX12_slant 156 = .ok (.ireturn, 1) := by decide +kernel
theorem dX12_doCover_0 : decode cX12_doCover 0 = .ok (.iconst 0, 1) := by decide +kernel
theorem dX12_doCover_1 : decode cX12_doCover 1 = .ok (.istore_n 3, 1) := by decide +kernel
theorem dX12_doCover_2 : decode cX12_doCover 2 = .ok (.iload_n 3, 1) := by decide +kernel
theorem dX12_doCover_3 : decode cX12_doCover 3 = .ok (.aload_n 0, 1) := by decide +kernel
theorem dX12_doCover_4 : decode cX12_doCover 4 = .ok (.getfield 102, 3) := by decide +kernel
theorem dX12_doCover_7 : decode cX12_doCover 7 = .ok (.if_icmp .ge 34, 3) := by decide +kernel
theorem dX12_doCover_10 : decode cX12_doCover 10 = .ok (.iload_n 2, 1) := by decide +kernel
theorem dX12_doCover_11 : decode cX12_doCover 11 = .ok (.iload_n 3, 1) := by decide +kernel
theorem dX12_doCover_12 : decode cX12_doCover 12 = .ok (.invokestatic 201, 3) := by decide +kernel
theorem dX12_doCover_15 : decode cX12_doCover 15 = .ok (.ifCond .eq 20, 3) := by decide +kernel
theorem dX12_doCover_18 : decode cX12_doCover 18 = .ok (.aload_n 0, 1) := by decide +kernel
theorem dX12_doCover_19 : decode cX12_doCover 19 = .ok (.getfield 26, 3) := by decide +kernel
theorem dX12_doCover_22 : decode cX12_doCover 22 = .ok (.iconst 4, 1) := by decide +kernel
theorem dX12_doCover_23 : decode cX12_doCover 23 = .ok (.iload_n 3, 1) := by decide +kernel
theorem dX12_doCover_24 : decode cX12_doCover 24 = .ok (.imul, 1) := by decide +kernel
theorem dX12_doCover_25 : decode cX12_doCover 25 = .ok (.iconst 3, 1) := by decide +kernel
theorem dX12_doCover_26 : decode cX12_doCover 26 = .ok (.iadd, 1) := by decide +kernel
theorem dX12_doCover_27 : decode cX12_doCover 27 = .ok (.iaload, 1) := by decide +kernel
theorem dX12_doCover_28 : decode cX12_doCover 28 = .ok (.iload_n 1, 1) := by decide +kernel
theorem dX12_doCover_29 : decode cX12_doCover 29 = .ok (.iand, 1) := by decide +kernel
theorem dX12_doCover_30 : decode cX12_doCover 30 = .ok (.ifCond .ne 5, 3) := by decide +kernel
theorem dX12_doCover_33 : decode cX12_doCover 33 = .ok (.iconst 0, 1) := by decide +kernel
theorem dX12_doCover_34 : decode cX12_doCover 34 = .ok (.ireturn, 1) := by decide +kernel
theorem dX12_doCover_35 : decode cX12_doCover 35 = .ok (.iinc 3 1, 3) := by decide +kernel
theorem dX12_doCover_38 : decode cX12_doCover 38 = .ok (.goto (-36), 3) := by decide +kernel
theorem dX12_doCover_41 : decode cX12_doCover 41 = .ok (.iconst 1, 1) := by decide +kernel
theorem dX12_doCover_42 : decode cX12_doCover 42 = .ok (.ireturn, 1) := by decide +kernel
theorem dX12_cover_0 : decode cX12_cover 0 = .ok (.aload_n 0, 1) := by decide +kernel
theorem dX12_cover_1 : decode cX12_cover 1 = .ok (.iconst 0, 1) := by decide +kernel
theorem dX12_cover_2 : decode cX12_cover 2 = .ok (.putfield 89, 3) := by decide +kernel
theorem dX12_cover_5 : decode cX12_cover 5 = .ok (.aload_n 0, 1) := by decide +kernel
theorem dX12_cover_6 : decode cX12_cover 6 = .ok (.iload_n 1, 1) := by decide +kernel
theorem dX12_cover_7 : decode cX12_cover 7 = .ok (.invokevirtual 333, 3) := by decide +kernel
theorem dX12_cover_10 : decode cX12_cover 10 = .ok (.ifCond .ne 5, 3) := by decide +kernel
theorem dX12_cover_13 : decode cX12_cover 13 = .ok (.iconst (-1), 1) := by decide +kernel
theorem dX12_cover_14 : decode cX12_cover 14 = .ok (.ireturn, 1) := by decide +kernel
theorem dX12_cover_15 : decode cX12_cover 15 = .ok (.iconst (-1), 1) := by decide +kernel
theorem dX12_cover_16 : decode cX12_cover 16 = .ok (.istore_n 2, 1) := by decide +kernel
theorem dX12_cover_17 : decode cX12_cover 17 = .ok (.iconst 0, 1) := by decide +kernel
theorem dX12_cover_18 : decode cX12_cover 18 = .ok (.istore_n 3, 1) := by decide +kernel
theorem dX12_cover_19 : decode cX12_cover 19 = .ok (.iload_n 3, 1) := by decide +kernel
theorem dX12_cover_20 : decode cX12_cover 20 = .ok (.bipush 16, 2) := by decide +kernel
theorem dX12_cover_22 : decode cX12_cover 22 = .ok (.if_icmp .ge 36, 3) := by decide +kernel
theorem dX12_cover_25 : decode cX12_cover 25 = .ok (.iload_n 2, 1) := by decide +kernel
theorem dX12_cover_26 : decode cX12_cover 26 = .ok (.iconst (-1), 1) := by decide +kernel
theorem dX12_cover_27 : decode cX12_cover 27 = .ok (.if_icmp .eq 14, 3) := by decide +kernel
theorem dX12_cover_30 : decode cX12_cover 30 = .ok (.iload_n 3, 1) := by decide +kernel
theorem dX12_cover_31 : decode cX12_cover 31 = .ok (.invokestatic 214, 3) := by decide +kernel
theorem dX12_cover_34 : decode cX12_cover 34 = .ok (.iload_n 2, 1) := by decide +kernel
theorem dX12_cover_35 : decode cX12_cover 35 = .ok (.invokestatic 214, 3) := by decide +kernel
theorem dX12_cover_38 : decode cX12_cover 38 = .ok (.if_icmp .ge 14, 3) := by decide +kernel
theorem dX12_cover_41 : decode cX12_cover 41 = .ok (.aload_n 0, 1) := by decide +kernel
theorem dX12_cover_42 : decode cX12_cover 42 = .ok (.iload_n 3, 1) := by decide +kernel
theorem dX12_cover_43 : decode cX12_cover 43 = .ok (.iload_n 1, 1) := by decide +kernel
theorem dX12_cover_44 : decode cX12_cover 44 = .ok (.invokevirtual 336, 3) := by decide +kernel
theorem dX12_cover_47 : decode cX12_cover 47 = .ok (.ifCond .eq 5, 3) := by decide +kernel
theorem dX12_cover_50 : decode cX12_cover 50 = .ok (.iload_n 3, 1) := by decide +kernel
theorem dX12_cover_51 : decode cX12_cover 51 = .ok (.istore_n 2, 1) := by decide +kernel
theorem dX12_cover_52 : decode cX12_cover 52 = .ok (.iinc 3 1, 3) := by decide +kernel
theorem dX12_cover_55 : decode cX12_cover 55 = .ok (.goto (-36), 3) := by decide +kernel
theorem dX12_cover_58 : decode cX12_cover 58 = .ok (.iload_n 2, 1) := by decide +kernel
theorem dX12_cover_59 : decode cX12_cover 59 = .ok (.iconst (-1), 1) := by decide +kernel
theorem dX12_cover_60 : decode cX12_cover 60 = .ok (.if_icmp .ne 6, 3) := by decide +kernel
theorem dX12_cover_63 : decode cX12_cover 63 = .ok (.bipush (-2), 2) := by decide +kernel
theorem dX12_cover_65 : decode cX12_cover 65 = .ok (.ireturn, 1) := by decide +kernel
theorem dX12_cover_66 : decode cX12_cover 66 = .ok (.aload_n 0, 1) := by decide +kernel
theorem dX12_cover_67 : decode cX12_cover 67 = .ok (.iconst 0, 1) := by decide +kernel
theorem dX12_cover_68 : decode cX12_cover 68 = .ok (.putfield 92, 3) := by decide +kernel
theorem dX12_cover_71 : decode cX12_cover 71 = .ok (.aload_n 0, 1) := by decide +kernel
theorem dX12_cover_72 : decode cX12_cover 72 = .ok (.iload_n 2, 1) := by decide +kernel
theorem dX12_cover_73 : decode cX12_cover 73 = .ok (.i2l, 1) := by decide +kernel
theorem dX12_cover_74 : decode cX12_cover 74 = .ok (.invokevirtual 253, 3) := by decide +kernel
theorem dX12_cover_77 : decode cX12_cover 77 = .ok (.iload_n 2, 1) := by decide +kernel
theorem dX12_cover_78 : decode cX12_cover 78 = .ok (.invokestatic 214, 3) := by decide +kernel
theorem dX12_cover_81 : decode cX12_cover 81 = .ok (.ireturn, 1) := by decide +kernel
theorem dX12_knownBy_0 : decode cX12_knownBy 0 = .ok (.iconst 0, 1) := by decide +kernel
theorem dX12_knownBy_1 : decode cX12_knownBy 1 = .ok (.istore_n 3, 1) := by decide +kernel
theorem dX12_knownBy_2 : decode cX12_knownBy 2 = .ok (.iconst 0, 1) := by decide +kernel
theorem dX12_knownBy_3 : decode cX12_knownBy 3 = .ok (.istore 4, 2) := by decide +kernel
theorem dX12_knownBy_5 : decode cX12_knownBy 5 = .ok (.iload 4, 2) := by decide +kernel
theorem dX12_knownBy_7 : decode cX12_knownBy 7 = .ok (.aload_n 0, 1) := by decide +kernel
theorem dX12_knownBy_8 : decode cX12_knownBy 8 = .ok (.getfield 102, 3) := by decide +kernel
theorem dX12_knownBy_11 : decode cX12_knownBy 11 = .ok (.if_icmp .ge 53, 3) := by decide +kernel
theorem dX12_knownBy_14 : decode cX12_knownBy 14 = .ok (.iload_n 3, 1) := by decide +kernel
theorem dX12_knownBy_15 : decode cX12_knownBy 15 = .ok (.aload_n 0, 1) := by decide +kernel
theorem dX12_knownBy_16 : decode cX12_knownBy 16 = .ok (.iload_n 1, 1) := by decide +kernel
theorem dX12_knownBy_17 : decode cX12_knownBy 17 = .ok (.iload 4, 2) := by decide +kernel
theorem dX12_knownBy_19 : decode cX12_knownBy 19 = .ok (.invokevirtual 250, 3) := by decide +kernel
theorem dX12_knownBy_22 : decode cX12_knownBy 22 = .ok (.ifCond .eq 33, 3) := by decide +kernel
theorem dX12_knownBy_25 : decode cX12_knownBy 25 = .ok (.aload_n 0, 1) := by decide +kernel
theorem dX12_knownBy_26 : decode cX12_knownBy 26 = .ok (.getfield 9, 3) := by decide +kernel
theorem dX12_knownBy_29 : decode cX12_knownBy 29 = .ok (.bipush 16, 2) := by decide +kernel
theorem dX12_knownBy_31 : decode cX12_knownBy 31 = .ok (.iload 4, 2) := by decide +kernel
theorem dX12_knownBy_33 : decode cX12_knownBy 33 = .ok (.iadd, 1) := by decide +kernel
theorem dX12_knownBy_34 : decode cX12_knownBy 34 = .ok (.iaload, 1) := by decide +kernel
theorem dX12_knownBy_35 : decode cX12_knownBy 35 = .ok (.ifCond .ne 20, 3) := by decide +kernel
theorem dX12_knownBy_38 : decode cX12_knownBy 38 = .ok (.aload_n 0, 1) := by decide +kernel
theorem dX12_knownBy_39 : decode cX12_knownBy 39 = .ok (.iload 4, 2) := by decide +kernel
theorem dX12_knownBy_41 : decode cX12_knownBy 41 = .ok (.invokevirtual 291, 3) := by decide +kernel
theorem dX12_knownBy_44 : decode cX12_knownBy 44 = .ok (.iload_n 2, 1) := by decide +kernel
theorem dX12_knownBy_45 : decode cX12_knownBy 45 = .ok (.if_icmp .ne 10, 3) := by decide +kernel
theorem dX12_knownBy_48 : decode cX12_knownBy 48 = .ok (.iconst 1, 1) := by decide +kernel
theorem dX12_knownBy_49 : decode cX12_knownBy 49 = .ok (.iload 4, 2) := by decide +kernel
theorem dX12_knownBy_51 : decode cX12_knownBy 51 = .ok (.ishl, 1) := by decide +kernel
theorem dX12_knownBy_52 : decode cX12_knownBy 52 = .ok (.goto 4, 3) := by decide +kernel
theorem dX12_knownBy_55 : decode cX12_knownBy 55 = .ok (.iconst 0, 1) := by decide +kernel
theorem dX12_knownBy_56 : decode cX12_knownBy 56 = .ok (.ior, 1) := by decide +kernel
theorem dX12_knownBy_57 : decode cX12_knownBy 57 = .ok (.istore_n 3, 1) := by decide +kernel
theorem dX12_knownBy_58 : decode cX12_knownBy 58 = .ok (.iinc 4 1, 3) := by decide +kernel
theorem dX12_knownBy_61 : decode cX12_knownBy 61 = .ok (.goto (-56), 3) := by decide +kernel
theorem dX12_knownBy_64 : decode cX12_knownBy 64 = .ok (.iload_n 3, 1) := by decide +kernel
theorem dX12_knownBy_65 : decode cX12_knownBy 65 = .ok (.ireturn, 1) := by decide +kernel
theorem dX12_heavyOf_0 : decode cX12_heavyOf 0 = .ok (.iconst 0, 1) := by decide +kernel
theorem dX12_heavyOf_1 : decode cX12_heavyOf 1 = .ok (.istore_n 2, 1) := by decide +kernel
theorem dX12_heavyOf_2 : decode cX12_heavyOf 2 = .ok (.iconst 0, 1) := by decide +kernel
theorem dX12_heavyOf_3 : decode cX12_heavyOf 3 = .ok (.istore_n 3, 1) := by decide +kernel
theorem dX12_heavyOf_4 : decode cX12_heavyOf 4 = .ok (.iload_n 3, 1) := by decide +kernel
theorem dX12_heavyOf_5 : decode cX12_heavyOf 5 = .ok (.aload_n 0, 1) := by decide +kernel
theorem dX12_heavyOf_6 : decode cX12_heavyOf 6 = .ok (.getfield 102, 3) := by decide +kernel
theorem dX12_heavyOf_9 : decode cX12_heavyOf 9 = .ok (.if_icmp .ge 29, 3) := by decide +kernel
theorem dX12_heavyOf_12 : decode cX12_heavyOf 12 = .ok (.iload_n 2, 1) := by decide +kernel
theorem dX12_heavyOf_13 : decode cX12_heavyOf 13 = .ok (.iload_n 1, 1) := by decide +kernel
theorem dX12_heavyOf_14 : decode cX12_heavyOf 14 = .ok (.iload_n 3, 1) := by decide +kernel
theorem dX12_heavyOf_15 : decode cX12_heavyOf 15 = .ok (.invokestatic 201, 3) := by decide +kernel
theorem dX12_heavyOf_18 : decode cX12_heavyOf 18 = .ok (.ifCond .eq 11, 3) := by decide +kernel
theorem dX12_heavyOf_21 : decode cX12_heavyOf 21 = .ok (.aload_n 0, 1) := by decide +kernel
theorem dX12_heavyOf_22 : decode cX12_heavyOf 22 = .ok (.iload_n 3, 1) := by decide +kernel
theorem dX12_heavyOf_23 : decode cX12_heavyOf 23 = .ok (.invokevirtual 294, 3) := by decide +kernel
theorem dX12_heavyOf_26 : decode cX12_heavyOf 26 = .ok (.goto 4, 3) := by decide +kernel
theorem dX12_heavyOf_29 : decode cX12_heavyOf 29 = .ok (.iconst 0, 1) := by decide +kernel
theorem dX12_heavyOf_30 : decode cX12_heavyOf 30 = .ok (.iadd, 1) := by decide +kernel
theorem dX12_heavyOf_31 : decode cX12_heavyOf 31 = .ok (.istore_n 2, 1) := by decide +kernel
theorem dX12_heavyOf_32 : decode cX12_heavyOf 32 = .ok (.iinc 3 1, 3) := by decide +kernel
theorem dX12_heavyOf_35 : decode cX12_heavyOf 35 = .ok (.goto (-31), 3) := by decide +kernel
theorem dX12_heavyOf_38 : decode cX12_heavyOf 38 = .ok (.iload_n 2, 1) := by decide +kernel
theorem dX12_heavyOf_39 : decode cX12_heavyOf 39 = .ok (.ireturn, 1) := by decide +kernel
theorem dX12_lighter_0 : decode cX12_lighter 0 = .ok (.aload_n 0, 1) := by decide +kernel
theorem dX12_lighter_1 : decode cX12_lighter 1 = .ok (.iconst 0, 1) := by decide +kernel
theorem dX12_lighter_2 : decode cX12_lighter 2 = .ok (.putfield 89, 3) := by decide +kernel
theorem dX12_lighter_5 : decode cX12_lighter 5 = .ok (.iload_n 1, 1) := by decide +kernel
theorem dX12_lighter_6 : decode cX12_lighter 6 = .ok (.invokestatic 285, 3) := by decide +kernel
theorem dX12_lighter_9 : decode cX12_lighter 9 = .ok (.ifCond .ne 5, 3) := by decide +kernel
theorem dX12_lighter_12 : decode cX12_lighter 12 = .ok (.iconst (-1), 1) := by decide +kernel
theorem dX12_lighter_13 : decode cX12_lighter 13 = .ok (.ireturn, 1) := by decide +kernel
theorem dX12_lighter_14 : decode cX12_lighter 14 = .ok (.aload_n 0, 1) := by decide +kernel
theorem dX12_lighter_15 : decode cX12_lighter 15 = .ok (.iconst 0, 1) := by decide +kernel
theorem dX12_lighter_16 : decode cX12_lighter 16 = .ok (.putfield 92, 3) := by decide +kernel
theorem dX12_lighter_19 : decode cX12_lighter 19 = .ok (.aload_n 0, 1) := by decide +kernel
theorem dX12_lighter_20 : decode cX12_lighter 20 = .ok (.aload_n 0, 1) := by decide +kernel
theorem dX12_lighter_21 : decode cX12_lighter 21 = .ok (.iload_n 1, 1) := by decide +kernel
theorem dX12_lighter_22 : decode cX12_lighter 22 = .ok (.iconst 1, 1) := by decide +kernel
theorem dX12_lighter_23 : decode cX12_lighter 23 = .ok (.invokevirtual 339, 3) := by decide +kernel
theorem dX12_lighter_26 : decode cX12_lighter 26 = .ok (.i2l, 1) := by decide +kernel
theorem dX12_lighter_27 : decode cX12_lighter 27 = .ok (.invokevirtual 253, 3) := by decide +kernel
theorem dX12_lighter_30 : decode cX12_lighter 30 = .ok (.aload_n 0, 1) := by decide +kernel
theorem dX12_lighter_31 : decode cX12_lighter 31 = .ok (.aload_n 0, 1) := by decide +kernel
theorem dX12_lighter_32 : decode cX12_lighter 32 = .ok (.iload_n 1, 1) := by decide +kernel
theorem dX12_lighter_33 : decode cX12_lighter 33 = .ok (.iconst 1, 1) := by decide +kernel
theorem dX12_lighter_34 : decode cX12_lighter 34 = .ok (.invokevirtual 339, 3) := by decide +kernel
theorem dX12_lighter_37 : decode cX12_lighter 37 = .ok (.invokevirtual 343, 3) := by decide +kernel
theorem dX12_lighter_40 : decode cX12_lighter 40 = .ok (.ireturn, 1) := by decide +kernel
theorem dX12_best_0 : decode cX12_best 0 = .ok (.aload_n 0, 1) := by decide +kernel
theorem dX12_best_1 : decode cX12_best 1 = .ok (.iconst 0, 1) := by decide +kernel
theorem dX12_best_2 : decode cX12_best 2 = .ok (.putfield 89, 3) := by decide +kernel
theorem dX12_best_5 : decode cX12_best 5 = .ok (.iconst 0, 1) := by decide +kernel
theorem dX12_best_6 : decode cX12_best 6 = .ok (.istore_n 1, 1) := by decide +kernel
theorem dX12_best_7 : decode cX12_best 7 = .ok (.iconst 1, 1) := by decide +kernel
theorem dX12_best_8 : decode cX12_best 8 = .ok (.istore_n 2, 1) := by decide +kernel
theorem dX12_best_9 : decode cX12_best 9 = .ok (.iload_n 2, 1) := by decide +kernel
theorem dX12_best_10 : decode cX12_best 10 = .ok (.iconst 4, 1) := by decide +kernel
theorem dX12_best_11 : decode cX12_best 11 = .ok (.if_icmp .ge 62, 3) := by decide +kernel
theorem dX12_best_14 : decode cX12_best 14 = .ok (.aload_n 0, 1) := by decide +kernel
theorem dX12_best_15 : decode cX12_best 15 = .ok (.aload_n 0, 1) := by decide +kernel
theorem dX12_best_16 : decode cX12_best 16 = .ok (.iload_n 2, 1) := by decide +kernel
theorem dX12_best_17 : decode cX12_best 17 = .ok (.iconst 1, 1) := by decide +kernel
theorem dX12_best_18 : decode cX12_best 18 = .ok (.invokevirtual 339, 3) := by decide +kernel
theorem dX12_best_21 : decode cX12_best 21 = .ok (.invokevirtual 343, 3) := by decide +kernel
theorem dX12_best_24 : decode cX12_best 24 = .ok (.aload_n 0, 1) := by decide +kernel
theorem dX12_best_25 : decode cX12_best 25 = .ok (.aload_n 0, 1) := by decide +kernel
theorem dX12_best_26 : decode cX12_best 26 = .ok (.iload_n 1, 1) := by decide +kernel
theorem dX12_best_27 : decode cX12_best 27 = .ok (.iconst 1, 1) := by decide +kernel
theorem dX12_best_28 : decode cX12_best 28 = .ok (.invokevirtual 339, 3) := by decide +kernel
theorem dX12_best_31 : decode cX12_best 31 = .ok (.invokevirtual 343, 3) := by decide +kernel
theorem dX12_best_34 : decode cX12_best 34 = .ok (.isub, 1) := by decide +kernel
theorem dX12_best_35 : decode cX12_best 35 = .ok (.istore_n 3, 1) := by decide +kernel
theorem dX12_best_36 : decode cX12_best 36 = .ok (.iload_n 3, 1) := by decide +kernel
theorem dX12_best_37 : decode cX12_best 37 = .ok (.ifCond .gt 28, 3) := by decide +kernel
theorem dX12_best_40 : decode cX12_best 40 = .ok (.iload_n 3, 1) := by decide +kernel
theorem dX12_best_41 : decode cX12_best 41 = .ok (.ifCond .ne 26, 3) := by decide +kernel
theorem dX12_best_44 : decode cX12_best 44 = .ok (.aload_n 0, 1) := by decide +kernel
theorem dX12_best_45 : decode cX12_best 45 = .ok (.iload_n 2, 1) := by decide +kernel
theorem dX12_best_46 : decode cX12_best 46 = .ok (.iconst 0, 1) := by decide +kernel
theorem dX12_best_47 : decode cX12_best 47 = .ok (.invokevirtual 339, 3) := by decide +kernel
theorem dX12_best_50 : decode cX12_best 50 = .ok (.invokestatic 214, 3) := by decide +kernel
theorem dX12_best_53 : decode cX12_best 53 = .ok (.aload_n 0, 1) := by decide +kernel
theorem dX12_best_54 : decode cX12_best 54 = .ok (.iload_n 1, 1) := by decide +kernel
theorem dX12_best_55 : decode cX12_best 55 = .ok (.iconst 0, 1) := by decide +kernel
theorem dX12_best_56 : decode cX12_best 56 = .ok (.invokevirtual 339, 3) := by decide +kernel
theorem dX12_best_59 : decode cX12_best 59 = .ok (.invokestatic 214, 3) := by decide +kernel
theorem dX12_best_62 : decode cX12_best 62 = .ok (.if_icmp .ge 5, 3) := by decide +kernel
theorem dX12_best_65 : decode cX12_best 65 = .ok (.iload_n 2, 1) := by decide +kernel
theorem dX12_best_66 : decode cX12_best 66 = .ok (.istore_n 1, 1) := by decide +kernel
theorem dX12_best_67 : decode cX12_best 67 = .ok (.iinc 2 1, 3) := by decide +kernel
theorem dX12_best_70 : decode cX12_best 70 = .ok (.goto (-61), 3) := by decide +kernel
theorem dX12_best_73 : decode cX12_best 73 = .ok (.aload_n 0, 1) := by decide +kernel
theorem dX12_best_74 : decode cX12_best 74 = .ok (.iconst 0, 1) := by decide +kernel
theorem dX12_best_75 : decode cX12_best 75 = .ok (.putfield 92, 3) := by decide +kernel
theorem dX12_best_78 : decode cX12_best 78 = .ok (.aload_n 0, 1) := by decide +kernel
theorem dX12_best_79 : decode cX12_best 79 = .ok (.aload_n 0, 1) := by decide +kernel
theorem dX12_best_80 : decode cX12_best 80 = .ok (.aload_n 0, 1) := by decide +kernel
theorem dX12_best_81 : decode cX12_best 81 = .ok (.iload_n 1, 1) := by decide +kernel
theorem dX12_best_82 : decode cX12_best 82 = .ok (.iconst 1, 1) := by decide +kernel
theorem dX12_best_83 : decode cX12_best 83 = .ok (.invokevirtual 339, 3) := by decide +kernel
theorem dX12_best_86 : decode cX12_best 86 = .ok (.invokevirtual 343, 3) := by decide +kernel
theorem dX12_best_89 : decode cX12_best 89 = .ok (.i2l, 1) := by decide +kernel
theorem dX12_best_90 : decode cX12_best 90 = .ok (.invokevirtual 253, 3) := by decide +kernel
theorem dX12_best_93 : decode cX12_best 93 = .ok (.aload_n 0, 1) := by decide +kernel
theorem dX12_best_94 : decode cX12_best 94 = .ok (.aload_n 0, 1) := by decide +kernel
theorem dX12_best_95 : decode cX12_best 95 = .ok (.iload_n 1, 1) := by decide +kernel
theorem dX12_best_96 : decode cX12_best 96 = .ok (.iconst 0, 1) := by decide +kernel
theorem dX12_best_97 : decode cX12_best 97 = .ok (.invokevirtual 339, 3) := by decide +kernel
theorem dX12_best_100 : decode cX12_best 100 = .ok (.invokestatic 214, 3) := by decide +kernel
theorem dX12_best_103 : decode cX12_best 103 = .ok (.i2l, 1) := by decide +kernel
theorem dX12_best_104 : decode cX12_best 104 = .ok (.invokevirtual 253, 3) := by decide +kernel
theorem dX12_best_107 : decode cX12_best 107 = .ok (.iload_n 1, 1) := by decide +kernel
theorem dX12_best_108 : decode cX12_best 108 = .ok (.ireturn, 1) := by decide +kernel
theorem dX12_secret_0 : decode cX12_secret 0 = .ok (.aload_n 0, 1) := by decide +kernel
theorem dX12_secret_1 : decode cX12_secret 1 = .ok (.iconst 0, 1) := by decide +kernel
theorem dX12_secret_2 : decode cX12_secret 2 = .ok (.putfield 89, 3) := by decide +kernel
theorem dX12_secret_5 : decode cX12_secret 5 = .ok (.iload_n 1, 1) := by decide +kernel
theorem dX12_secret_6 : decode cX12_secret 6 = .ok (.iconst 0, 1) := by decide +kernel
theorem dX12_secret_7 : decode cX12_secret 7 = .ok (.iconst 4, 1) := by decide +kernel
theorem dX12_secret_8 : decode cX12_secret 8 = .ok (.invokestatic 98, 3) := by decide +kernel
theorem dX12_secret_11 : decode cX12_secret 11 = .ok (.ifCond .ne 5, 3) := by decide +kernel
theorem dX12_secret_14 : decode cX12_secret 14 = .ok (.iconst (-1), 1) := by decide +kernel
theorem dX12_secret_15 : decode cX12_secret 15 = .ok (.ireturn, 1) := by decide +kernel
theorem dX12_secret_16 : decode cX12_secret 16 = .ok (.iconst 0, 1) := by decide +kernel
theorem dX12_secret_17 : decode cX12_secret 17 = .ok (.istore_n 2, 1) := by decide +kernel
theorem dX12_secret_18 : decode cX12_secret 18 = .ok (.iconst 0, 1) := by decide +kernel
theorem dX12_secret_19 : decode cX12_secret 19 = .ok (.istore_n 3, 1) := by decide +kernel
theorem dX12_secret_20 : decode cX12_secret 20 = .ok (.iload_n 3, 1) := by decide +kernel
theorem dX12_secret_21 : decode cX12_secret 21 = .ok (.aload_n 0, 1) := by decide +kernel
theorem dX12_secret_22 : decode cX12_secret 22 = .ok (.getfield 102, 3) := by decide +kernel
theorem dX12_secret_25 : decode cX12_secret 25 = .ok (.if_icmp .ge 36, 3) := by decide +kernel
theorem dX12_secret_28 : decode cX12_secret 28 = .ok (.iload_n 2, 1) := by decide +kernel
theorem dX12_secret_29 : decode cX12_secret 29 = .ok (.aload_n 0, 1) := by decide +kernel
theorem dX12_secret_30 : decode cX12_secret 30 = .ok (.getfield 26, 3) := by decide +kernel
theorem dX12_secret_33 : decode cX12_secret 33 = .ok (.iconst 4, 1) := by decide +kernel
theorem dX12_secret_34 : decode cX12_secret 34 = .ok (.iload_n 3, 1) := by decide +kernel
theorem dX12_secret_35 : decode cX12_secret 35 = .ok (.imul, 1) := by decide +kernel
theorem dX12_secret_36 : decode cX12_secret 36 = .ok (.iconst 3, 1) := by decide +kernel
theorem dX12_secret_37 : decode cX12_secret 37 = .ok (.iadd, 1) := by decide +kernel
theorem dX12_secret_38 : decode cX12_secret 38 = .ok (.iaload, 1) := by decide +kernel
theorem dX12_secret_39 : decode cX12_secret 39 = .ok (.invokestatic 214, 3) := by decide +kernel
theorem dX12_secret_42 : decode cX12_secret 42 = .ok (.iload_n 1, 1) := by decide +kernel
theorem dX12_secret_43 : decode cX12_secret 43 = .ok (.if_icmp .ne 9, 3) := by decide +kernel
theorem dX12_secret_46 : decode cX12_secret 46 = .ok (.iconst 1, 1) := by decide +kernel
theorem dX12_secret_47 : decode cX12_secret 47 = .ok (.iload_n 3, 1) := by decide +kernel
theorem dX12_secret_48 : decode cX12_secret 48 = .ok (.ishl, 1) := by decide +kernel
theorem dX12_secret_49 : decode cX12_secret 49 = .ok (.goto 4, 3) := by decide +kernel
theorem dX12_secret_52 : decode cX12_secret 52 = .ok (.iconst 0, 1) := by decide +kernel
theorem dX12_secret_53 : decode cX12_secret 53 = .ok (.ior, 1) := by decide +kernel
theorem dX12_secret_54 : decode cX12_secret 54 = .ok (.istore_n 2, 1) := by decide +kernel
theorem dX12_secret_55 : decode cX12_secret 55 = .ok (.iinc 3 1, 3) := by decide +kernel
theorem dX12_secret_58 : decode cX12_secret 58 = .ok (.goto (-38), 3) := by decide +kernel
theorem dX12_secret_61 : decode cX12_secret 61 = .ok (.aload_n 0, 1) := by decide +kernel
theorem dX12_secret_62 : decode cX12_secret 62 = .ok (.iconst 0, 1) := by decide +kernel
theorem dX12_secret_63 : decode cX12_secret 63 = .ok (.putfield 92, 3) := by decide +kernel
theorem dX12_secret_66 : decode cX12_secret 66 = .ok (.aload_n 0, 1) := by decide +kernel
theorem dX12_secret_67 : decode cX12_secret 67 = .ok (.iload_n 2, 1) := by decide +kernel
theorem dX12_secret_68 : decode cX12_secret 68 = .ok (.invokestatic 214, 3) := by decide +kernel
theorem dX12_secret_71 : decode cX12_secret 71 = .ok (.i2l, 1) := by decide +kernel
theorem dX12_secret_72 : decode cX12_secret 72 = .ok (.invokevirtual 253, 3) := by decide +kernel
theorem dX12_secret_75 : decode cX12_secret 75 = .ok (.aload_n 0, 1) := by decide +kernel
theorem dX12_secret_76 : decode cX12_secret 76 = .ok (.aload_n 0, 1) := by decide +kernel
theorem dX12_secret_77 : decode cX12_secret 77 = .ok (.iload_n 2, 1) := by decide +kernel
theorem dX12_secret_78 : decode cX12_secret 78 = .ok (.invokevirtual 343, 3) := by decide +kernel
theorem dX12_secret_81 : decode cX12_secret 81 = .ok (.i2l, 1) := by decide +kernel
theorem dX12_secret_82 : decode cX12_secret 82 = .ok (.invokevirtual 253, 3) := by decide +kernel
theorem dX12_secret_85 : decode cX12_secret 85 = .ok (.iload_n 2, 1) := by decide +kernel
theorem dX12_secret_86 : decode cX12_secret 86 = .ok (.ireturn, 1) := by decide +kernel
theorem dX12_old_0 : decode cX12_old 0 = .ok (.aload_n 0, 1) := by decide +kernel
theorem dX12_old_1 : decode cX12_old 1 = .ok (.iconst 0, 1) := by decide +kernel
theorem dX12_old_2 : decode cX12_old 2 = .ok (.putfield 89, 3) := by decide +kernel
theorem dX12_old_5 : decode cX12_old 5 = .ok (.aload_n 0, 1) := by decide +kernel
theorem dX12_old_6 : decode cX12_old 6 = .ok (.iload_n 1, 1) := by decide +kernel
theorem dX12_old_7 : decode cX12_old 7 = .ok (.invokevirtual 333, 3) := by decide +kernel
theorem dX12_old_10 : decode cX12_old 10 = .ok (.ifCond .eq 25, 3) := by decide +kernel
theorem dX12_old_13 : decode cX12_old 13 = .ok (.iload_n 2, 1) := by decide +kernel
theorem dX12_old_14 : decode cX12_old 14 = .ok (.sipush (-160), 3) := by decide +kernel
theorem dX12_old_17 : decode cX12_old 17 = .ok (.sipush 160, 3) := by decide +kernel
theorem dX12_old_20 : decode cX12_old 20 = .ok (.invokestatic 98, 3) := by decide +kernel
theorem dX12_old_23 : decode cX12_old 23 = .ok (.ifCond .eq 12, 3) := by decide +kernel
theorem dX12_old_26 : decode cX12_old 26 = .ok (.aload_n 0, 1) := by decide +kernel
theorem dX12_old_27 : decode cX12_old 27 = .ok (.getfield 346, 3) := by decide +kernel
theorem dX12_old_30 : decode cX12_old 30 = .ok (.bipush 8, 2) := by decide +kernel
theorem dX12_old_32 : decode cX12_old 32 = .ok (.if_icmp .ne 5, 3) := by decide +kernel
theorem dX12_old_35 : decode cX12_old 35 = .ok (.iconst (-1), 1) := by decide +kernel
theorem dX12_old_36 : decode cX12_old 36 = .ok (.ireturn, 1) := by decide +kernel
theorem dX12_old_37 : decode cX12_old 37 = .ok (.aload_n 0, 1) := by decide +kernel
theorem dX12_old_38 : decode cX12_old 38 = .ok (.getfield 67, 3) := by decide +kernel
theorem dX12_old_41 : decode cX12_old 41 = .ok (.aload_n 0, 1) := by decide +kernel
theorem dX12_old_42 : decode cX12_old 42 = .ok (.getfield 346, 3) := by decide +kernel
theorem dX12_old_45 : decode cX12_old 45 = .ok (.iload_n 1, 1) := by decide +kernel
theorem dX12_old_46 : decode cX12_old 46 = .ok (.iastore, 1) := by decide +kernel
theorem dX12_old_47 : decode cX12_old 47 = .ok (.aload_n 0, 1) := by decide +kernel
theorem dX12_old_48 : decode cX12_old 48 = .ok (.getfield 70, 3) := by decide +kernel
theorem dX12_old_51 : decode cX12_old 51 = .ok (.aload_n 0, 1) := by decide +kernel
theorem dX12_old_52 : decode cX12_old 52 = .ok (.getfield 346, 3) := by decide +kernel
theorem dX12_old_55 : decode cX12_old 55 = .ok (.iload_n 2, 1) := by decide +kernel
theorem dX12_old_56 : decode cX12_old 56 = .ok (.iastore, 1) := by decide +kernel
theorem dX12_old_57 : decode cX12_old 57 = .ok (.aload_n 0, 1) := by decide +kernel
theorem dX12_old_58 : decode cX12_old 58 = .ok (.dup, 1) := by decide +kernel
theorem dX12_old_59 : decode cX12_old 59 = .ok (.getfield 346, 3) := by decide +kernel
theorem dX12_old_62 : decode cX12_old 62 = .ok (.iconst 1, 1) := by decide +kernel
theorem dX12_old_63 : decode cX12_old 63 = .ok (.iadd, 1) := by decide +kernel
theorem dX12_old_64 : decode cX12_old 64 = .ok (.putfield 346, 3) := by decide +kernel
theorem dX12_old_67 : decode cX12_old 67 = .ok (.aload_n 0, 1) := by decide +kernel
theorem dX12_old_68 : decode cX12_old 68 = .ok (.getfield 346, 3) := by decide +kernel
theorem dX12_old_71 : decode cX12_old 71 = .ok (.ireturn, 1) := by decide +kernel
theorem dX12_forget_0 : decode cX12_forget 0 = .ok (.aload_n 0, 1) := by decide +kernel
theorem dX12_forget_1 : decode cX12_forget 1 = .ok (.iconst 0, 1) := by decide +kernel
theorem dX12_forget_2 : decode cX12_forget 2 = .ok (.putfield 89, 3) := by decide +kernel
theorem dX12_forget_5 : decode cX12_forget 5 = .ok (.aload_n 0, 1) := by decide +kernel
theorem dX12_forget_6 : decode cX12_forget 6 = .ok (.getfield 346, 3) := by decide +kernel
theorem dX12_forget_9 : decode cX12_forget 9 = .ok (.istore_n 1, 1) := by decide +kernel
theorem dX12_forget_10 : decode cX12_forget 10 = .ok (.aload_n 0, 1) := by decide +kernel
theorem dX12_forget_11 : decode cX12_forget 11 = .ok (.iconst 0, 1) := by decide +kernel
theorem dX12_forget_12 : decode cX12_forget 12 = .ok (.putfield 346, 3) := by decide +kernel
theorem dX12_forget_15 : decode cX12_forget 15 = .ok (.iload_n 1, 1) := by decide +kernel
theorem dX12_forget_16 : decode cX12_forget 16 = .ok (.ireturn, 1) := by decide +kernel
theorem dX12_isWorld_0 : decode cX12_isWorld 0 = .ok (.iconst 0, 1) := by decide +kernel
theorem dX12_isWorld_1 : decode cX12_isWorld 1 = .ok (.istore_n 2, 1) := by decide +kernel
theorem dX12_isWorld_2 : decode cX12_isWorld 2 = .ok (.iload_n 2, 1) := by decide +kernel
theorem dX12_isWorld_3 : decode cX12_isWorld 3 = .ok (.aload_n 0, 1) := by decide +kernel
theorem dX12_isWorld_4 : decode cX12_isWorld 4 = .ok (.getfield 346, 3) := by decide +kernel
theorem dX12_isWorld_7 : decode cX12_isWorld 7 = .ok (.if_icmp .ge 47, 3) := by decide +kernel
theorem dX12_isWorld_10 : decode cX12_isWorld 10 = .ok (.aload_n 0, 1) := by decide +kernel
theorem dX12_isWorld_11 : decode cX12_isWorld 11 = .ok (.aload_n 0, 1) := by decide +kernel
theorem dX12_isWorld_12 : decode cX12_isWorld 12 = .ok (.getfield 67, 3) := by decide +kernel
theorem dX12_isWorld_15 : decode cX12_isWorld 15 = .ok (.iload_n 2, 1) := by decide +kernel
theorem dX12_isWorld_16 : decode cX12_isWorld 16 = .ok (.iaload, 1) := by decide +kernel
theorem dX12_isWorld_17 : decode cX12_isWorld 17 = .ok (.iload_n 1, 1) := by decide +kernel
theorem dX12_isWorld_18 : decode cX12_isWorld 18 = .ok (.iand, 1) := by decide +kernel
theorem dX12_isWorld_19 : decode cX12_isWorld 19 = .ok (.invokevirtual 343, 3) := by decide +kernel
theorem dX12_isWorld_22 : decode cX12_isWorld 22 = .ok (.aload_n 0, 1) := by decide +kernel
theorem dX12_isWorld_23 : decode cX12_isWorld 23 = .ok (.aload_n 0, 1) := by decide +kernel
theorem dX12_isWorld_24 : decode cX12_isWorld 24 = .ok (.getfield 67, 3) := by decide +kernel
theorem dX12_isWorld_27 : decode cX12_isWorld 27 = .ok (.iload_n 2, 1) := by decide +kernel
theorem dX12_isWorld_28 : decode cX12_isWorld 28 = .ok (.iaload, 1) := by decide +kernel
theorem dX12_isWorld_29 : decode cX12_isWorld 29 = .ok (.iload_n 1, 1) := by decide +kernel
theorem dX12_isWorld_30 : decode cX12_isWorld 30 = .ok (.iconst (-1), 1) := by decide +kernel
theorem dX12_isWorld_31 : decode cX12_isWorld 31 = .ok (.ixor, 1) := by decide +kernel
theorem dX12_isWorld_32 : decode cX12_isWorld 32 = .ok (.iand, 1) := by decide +kernel
theorem dX12_isWorld_33 : decode cX12_isWorld 33 = .ok (.invokevirtual 343, 3) := by decide +kernel
theorem dX12_isWorld_36 : decode cX12_isWorld 36 = .ok (.isub, 1) := by decide +kernel
theorem dX12_isWorld_37 : decode cX12_isWorld 37 = .ok (.aload_n 0, 1) := by decide +kernel
theorem dX12_isWorld_38 : decode cX12_isWorld 38 = .ok (.getfield 70, 3) := by decide +kernel
theorem dX12_isWorld_41 : decode cX12_isWorld 41 = .ok (.iload_n 2, 1) := by decide +kernel
theorem dX12_isWorld_42 : decode cX12_isWorld 42 = .ok (.iaload, 1) := by decide +kernel
theorem dX12_isWorld_43 : decode cX12_isWorld 43 = .ok (.if_icmp .eq 5, 3) := by decide +kernel
theorem dX12_isWorld_46 : decode cX12_isWorld 46 = .ok (.iconst 0, 1) := by decide +kernel
theorem dX12_isWorld_47 : decode cX12_isWorld 47 = .ok (.ireturn, 1) := by decide +kernel
theorem dX12_isWorld_48 : decode cX12_isWorld 48 = .ok (.iinc 2 1, 3) := by decide +kernel
theorem dX12_isWorld_51 : decode cX12_isWorld 51 = .ok (.goto (-49), 3) := by decide +kernel
theorem dX12_isWorld_54 : decode cX12_isWorld 54 = .ok (.iconst 1, 1) := by decide +kernel
theorem dX12_isWorld_55 : decode cX12_isWorld 55 = .ok (.ireturn, 1) := by decide +kernel
theorem dX12_worldsIf_0 : decode cX12_worldsIf 0 = .ok (.iconst 0, 1) := by decide +kernel
theorem dX12_worldsIf_1 : decode cX12_worldsIf 1 = .ok (.istore_n 3, 1) := by decide +kernel
theorem dX12_worldsIf_2 : decode cX12_worldsIf 2 = .ok (.iconst 0, 1) := by decide +kernel
theorem dX12_worldsIf_3 : decode cX12_worldsIf 3 = .ok (.istore 4, 2) := by decide +kernel
theorem dX12_worldsIf_5 : decode cX12_worldsIf 5 = .ok (.iload 4, 2) := by decide +kernel
theorem dX12_worldsIf_7 : decode cX12_worldsIf 7 = .ok (.iconst 1, 1) := by decide +kernel
theorem dX12_worldsIf_8 : decode cX12_worldsIf 8 = .ok (.aload_n 0, 1) := by decide +kernel
theorem dX12_worldsIf_9 : decode cX12_worldsIf 9 = .ok (.getfield 102, 3) := by decide +kernel
theorem dX12_worldsIf_12 : decode cX12_worldsIf 12 = .ok (.ishl, 1) := by decide +kernel
theorem dX12_worldsIf_13 : decode cX12_worldsIf 13 = .ok (.if_icmp .ge 36, 3) := by decide +kernel
theorem dX12_worldsIf_16 : decode cX12_worldsIf 16 = .ok (.iload_n 3, 1) := by decide +kernel
theorem dX12_worldsIf_17 : decode cX12_worldsIf 17 = .ok (.iload 4, 2) := by decide +kernel
theorem dX12_worldsIf_19 : decode cX12_worldsIf 19 = .ok (.iload_n 1, 1) := by decide +kernel
theorem dX12_worldsIf_20 : decode cX12_worldsIf 20 = .ok (.ishr, 1) := by decide +kernel
theorem dX12_worldsIf_21 : decode cX12_worldsIf 21 = .ok (.iconst 1, 1) := by decide +kernel
theorem dX12_worldsIf_22 : decode cX12_worldsIf 22 = .ok (.iand, 1) := by decide +kernel
theorem dX12_worldsIf_23 : decode cX12_worldsIf 23 = .ok (.iload_n 2, 1) := by decide +kernel
theorem dX12_worldsIf_24 : decode cX12_worldsIf 24 = .ok (.if_icmp .ne 16, 3) := by decide +kernel
theorem dX12_worldsIf_27 : decode cX12_worldsIf 27 = .ok (.aload_n 0, 1) := by decide +kernel
theorem dX12_worldsIf_28 : decode cX12_worldsIf 28 = .ok (.iload 4, 2) := by decide +kernel
theorem dX12_worldsIf_30 : decode cX12_worldsIf 30 = .ok (.invokevirtual 349, 3) := by decide +kernel
theorem dX12_worldsIf_33 : decode cX12_worldsIf 33 = .ok (.ifCond .eq 7, 3) := by decide +kernel
theorem dX12_worldsIf_36 : decode cX12_worldsIf 36 = .ok (.iconst 1, 1) := by decide +kernel
theorem dX12_worldsIf_37 : decode cX12_worldsIf 37 = .ok (.goto 4, 3) := by decide +kernel
theorem dX12_worldsIf_40 : decode cX12_worldsIf 40 = .ok (.iconst 0, 1) := by decide +kernel
theorem dX12_worldsIf_41 : decode cX12_worldsIf 41 = .ok (.iadd, 1) := by decide +kernel
theorem dX12_worldsIf_42 : decode cX12_worldsIf 42 = .ok (.istore_n 3, 1) := by decide +kernel
theorem dX12_worldsIf_43 : decode cX12_worldsIf 43 = .ok (.iinc 4 1, 3) := by decide +kernel
theorem dX12_worldsIf_46 : decode cX12_worldsIf 46 = .ok (.goto (-41), 3) := by decide +kernel
theorem dX12_worldsIf_49 : decode cX12_worldsIf 49 = .ok (.iload_n 3, 1) := by decide +kernel
theorem dX12_worldsIf_50 : decode cX12_worldsIf 50 = .ok (.ireturn, 1) := by decide +kernel
theorem dX12_worlds_0 : decode cX12_worlds 0 = .ok (.aload_n 0, 1) := by decide +kernel
theorem dX12_worlds_1 : decode cX12_worlds 1 = .ok (.iconst 0, 1) := by decide +kernel
theorem dX12_worlds_2 : decode cX12_worlds 2 = .ok (.putfield 89, 3) := by decide +kernel
theorem dX12_worlds_5 : decode cX12_worlds 5 = .ok (.iconst 0, 1) := by decide +kernel
theorem dX12_worlds_6 : decode cX12_worlds 6 = .ok (.istore_n 1, 1) := by decide +kernel
theorem dX12_worlds_7 : decode cX12_worlds 7 = .ok (.iconst (-1), 1) := by decide +kernel
theorem dX12_worlds_8 : decode cX12_worlds 8 = .ok (.istore_n 2, 1) := by decide +kernel
theorem dX12_worlds_9 : decode cX12_worlds 9 = .ok (.iconst 0, 1) := by decide +kernel
theorem dX12_worlds_10 : decode cX12_worlds 10 = .ok (.istore_n 3, 1) := by decide +kernel
theorem dX12_worlds_11 : decode cX12_worlds 11 = .ok (.iload_n 3, 1) := by decide +kernel
theorem dX12_worlds_12 : decode cX12_worlds 12 = .ok (.iconst 1, 1) := by decide +kernel
theorem dX12_worlds_13 : decode cX12_worlds 13 = .ok (.aload_n 0, 1) := by decide +kernel
theorem dX12_worlds_14 : decode cX12_worlds 14 = .ok (.getfield 102, 3) := by decide +kernel
theorem dX12_worlds_17 : decode cX12_worlds 17 = .ok (.ishl, 1) := by decide +kernel
theorem dX12_worlds_18 : decode cX12_worlds 18 = .ok (.if_icmp .ge 33, 3) := by decide +kernel
theorem dX12_worlds_21 : decode cX12_worlds 21 = .ok (.aload_n 0, 1) := by decide +kernel
theorem dX12_worlds_22 : decode cX12_worlds 22 = .ok (.iload_n 3, 1) := by decide +kernel
theorem dX12_worlds_23 : decode cX12_worlds 23 = .ok (.invokevirtual 349, 3) := by decide +kernel
theorem dX12_worlds_26 : decode cX12_worlds 26 = .ok (.ifCond .ne 6, 3) := by decide +kernel
theorem dX12_worlds_29 : decode cX12_worlds 29 = .ok (.goto 16, 3) := by decide +kernel
theorem dX12_worlds_32 : decode cX12_worlds 32 = .ok (.iload_n 1, 1) := by decide +kernel
theorem dX12_worlds_33 : decode cX12_worlds 33 = .ok (.ifCond .ne 7, 3) := by decide +kernel
theorem dX12_worlds_36 : decode cX12_worlds 36 = .ok (.iload_n 3, 1) := by decide +kernel
theorem dX12_worlds_37 : decode cX12_worlds 37 = .ok (.goto 4, 3) := by decide +kernel
theorem dX12_worlds_40 : decode cX12_worlds 40 = .ok (.iload_n 2, 1) := by decide +kernel
theorem dX12_worlds_41 : decode cX12_worlds 41 = .ok (.istore_n 2, 1) := by decide +kernel
theorem dX12_worlds_42 : decode cX12_worlds 42 = .ok (.iinc 1 1, 3) := by decide +kernel
theorem dX12_worlds_45 : decode cX12_worlds 45 = .ok (.iinc 3 1, 3) := by decide +kernel
theorem dX12_worlds_48 : decode cX12_worlds 48 = .ok (.goto (-37), 3) := by decide +kernel
theorem dX12_worlds_51 : decode cX12_worlds 51 = .ok (.aload_n 0, 1) := by decide +kernel
theorem dX12_worlds_52 : decode cX12_worlds 52 = .ok (.iconst 0, 1) := by decide +kernel
theorem dX12_worlds_53 : decode cX12_worlds 53 = .ok (.putfield 92, 3) := by decide +kernel
theorem dX12_worlds_56 : decode cX12_worlds 56 = .ok (.aload_n 0, 1) := by decide +kernel
theorem dX12_worlds_57 : decode cX12_worlds 57 = .ok (.iload_n 2, 1) := by decide +kernel
theorem dX12_worlds_58 : decode cX12_worlds 58 = .ok (.i2l, 1) := by decide +kernel
theorem dX12_worlds_59 : decode cX12_worlds 59 = .ok (.invokevirtual 253, 3) := by decide +kernel
theorem dX12_worlds_62 : decode cX12_worlds 62 = .ok (.iload_n 1, 1) := by decide +kernel
theorem dX12_worlds_63 : decode cX12_worlds 63 = .ok (.ireturn, 1) := by decide +kernel
theorem dX12_sure_0 : decode cX12_sure 0 = .ok (.aload_n 0, 1) := by decide +kernel
theorem dX12_sure_1 : decode cX12_sure 1 = .ok (.iconst 0, 1) := by decide +kernel
theorem dX12_sure_2 : decode cX12_sure 2 = .ok (.putfield 89, 3) := by decide +kernel
theorem dX12_sure_5 : decode cX12_sure 5 = .ok (.iconst 0, 1) := by decide +kernel
theorem dX12_sure_6 : decode cX12_sure 6 = .ok (.istore_n 1, 1) := by decide +kernel
theorem dX12_sure_7 : decode cX12_sure 7 = .ok (.iconst 0, 1) := by decide +kernel
theorem dX12_sure_8 : decode cX12_sure 8 = .ok (.istore_n 2, 1) := by decide +kernel
theorem dX12_sure_9 : decode cX12_sure 9 = .ok (.iconst 0, 1) := by decide +kernel
theorem dX12_sure_10 : decode cX12_sure 10 = .ok (.istore_n 3, 1) := by decide +kernel
theorem dX12_sure_11 : decode cX12_sure 11 = .ok (.iload_n 3, 1) := by decide +kernel
theorem dX12_sure_12 : decode cX12_sure 12 = .ok (.aload_n 0, 1) := by decide +kernel
theorem dX12_sure_13 : decode cX12_sure 13 = .ok (.getfield 102, 3) := by decide +kernel
theorem dX12_sure_16 : decode cX12_sure 16 = .ok (.if_icmp .ge 65, 3) := by decide +kernel
theorem dX12_sure_19 : decode cX12_sure 19 = .ok (.aload_n 0, 1) := by decide +kernel
theorem dX12_sure_20 : decode cX12_sure 20 = .ok (.iload_n 3, 1) := by decide +kernel
theorem dX12_sure_21 : decode cX12_sure 21 = .ok (.iconst 1, 1) := by decide +kernel
theorem dX12_sure_22 : decode cX12_sure 22 = .ok (.invokevirtual 352, 3) := by decide +kernel
theorem dX12_sure_25 : decode cX12_sure 25 = .ok (.istore 4, 2) := by decide +kernel
theorem dX12_sure_27 : decode cX12_sure 27 = .ok (.aload_n 0, 1) := by decide +kernel
theorem dX12_sure_28 : decode cX12_sure 28 = .ok (.iload_n 3, 1) := by decide +kernel
theorem dX12_sure_29 : decode cX12_sure 29 = .ok (.iconst 0, 1) := by decide +kernel
theorem dX12_sure_30 : decode cX12_sure 30 = .ok (.invokevirtual 352, 3) := by decide +kernel
theorem dX12_sure_33 : decode cX12_sure 33 = .ok (.istore 5, 2) := by decide +kernel
theorem dX12_sure_35 : decode cX12_sure 35 = .ok (.iload_n 1, 1) := by decide +kernel
theorem dX12_sure_36 : decode cX12_sure 36 = .ok (.iload 4, 2) := by decide +kernel
theorem dX12_sure_38 : decode cX12_sure 38 = .ok (.ifCond .le 14, 3) := by decide +kernel
theorem dX12_sure_41 : decode cX12_sure 41 = .ok (.iload 5, 2) := by decide +kernel
theorem dX12_sure_43 : decode cX12_sure 43 = .ok (.ifCond .ne 9, 3) := by decide +kernel
theorem dX12_sure_46 : decode cX12_sure 46 = .ok (.iconst 1, 1) := by decide +kernel
theorem dX12_sure_47 : decode cX12_sure 47 = .ok (.iload_n 3, 1) := by decide +kernel
theorem dX12_sure_48 : decode cX12_sure 48 = .ok (.ishl, 1) := by decide +kernel
theorem dX12_sure_49 : decode cX12_sure 49 = .ok (.goto 4, 3) := by decide +kernel
theorem dX12_sure_52 : decode cX12_sure 52 = .ok (.iconst 0, 1) := by decide +kernel
theorem dX12_sure_53 : decode cX12_sure 53 = .ok (.ior, 1) := by decide +kernel
theorem dX12_sure_54 : decode cX12_sure 54 = .ok (.istore_n 1, 1) := by decide +kernel
theorem dX12_sure_55 : decode cX12_sure 55 = .ok (.iload_n 2, 1) := by decide +kernel
theorem dX12_sure_56 : decode cX12_sure 56 = .ok (.iload 4, 2) := by decide +kernel
theorem dX12_sure_58 : decode cX12_sure 58 = .ok (.ifCond .ne 14, 3) := by decide +kernel
theorem dX12_sure_61 : decode cX12_sure 61 = .ok (.iload 5, 2) := by decide +kernel
theorem dX12_sure_63 : decode cX12_sure 63 = .ok (.ifCond .le 9, 3) := by decide +kernel
theorem dX12_sure_66 : decode cX12_sure 66 = .ok (.iconst 1, 1) := by decide +kernel
theorem dX12_sure_67 : decode cX12_sure 67 = .ok (.iload_n 3, 1) := by decide +kernel
theorem dX12_sure_68 : decode cX12_sure 68 = .ok (.ishl, 1) := by decide +kernel
theorem dX12_sure_69 : decode cX12_sure 69 = .ok (.goto 4, 3) := by decide +kernel
theorem dX12_sure_72 : decode cX12_sure 72 = .ok (.iconst 0, 1) := by decide +kernel
theorem dX12_sure_73 : decode cX12_sure 73 = .ok (.ior, 1) := by decide +kernel
theorem dX12_sure_74 : decode cX12_sure 74 = .ok (.istore_n 2, 1) := by decide +kernel
theorem dX12_sure_75 : decode cX12_sure 75 = .ok (.iinc 3 1, 3) := by decide +kernel
theorem dX12_sure_78 : decode cX12_sure 78 = .ok (.goto (-67), 3) := by decide +kernel
theorem dX12_sure_81 : decode cX12_sure 81 = .ok (.aload_n 0, 1) := by decide +kernel
theorem dX12_sure_82 : decode cX12_sure 82 = .ok (.iconst 0, 1) := by decide +kernel
theorem dX12_sure_83 : decode cX12_sure 83 = .ok (.putfield 92, 3) := by decide +kernel
theorem dX12_sure_86 : decode cX12_sure 86 = .ok (.aload_n 0, 1) := by decide +kernel
theorem dX12_sure_87 : decode cX12_sure 87 = .ok (.iload_n 2, 1) := by decide +kernel
theorem dX12_sure_88 : decode cX12_sure 88 = .ok (.i2l, 1) := by decide +kernel
theorem dX12_sure_89 : decode cX12_sure 89 = .ok (.invokevirtual 253, 3) := by decide +kernel
theorem dX12_sure_92 : decode cX12_sure 92 = .ok (.iload_n 1, 1) := by decide +kernel
theorem dX12_sure_93 : decode cX12_sure 93 = .ok (.ireturn, 1) := by decide +kernel
theorem dX12_ask_0 : decode cX12_ask 0 = .ok (.aload_n 0, 1) := by decide +kernel
theorem dX12_ask_1 : decode cX12_ask 1 = .ok (.iconst 0, 1) := by decide +kernel
theorem dX12_ask_2 : decode cX12_ask 2 = .ok (.putfield 89, 3) := by decide +kernel
theorem dX12_ask_5 : decode cX12_ask 5 = .ok (.iconst (-1), 1) := by decide +kernel
theorem dX12_ask_6 : decode cX12_ask 6 = .ok (.istore_n 1, 1) := by decide +kernel
theorem dX12_ask_7 : decode cX12_ask 7 = .ok (.ldc_w 329, 3) := by decide +kernel
theorem dX12_ask_10 : decode cX12_ask 10 = .ok (.istore_n 2, 1) := by decide +kernel
theorem dX12_ask_11 : decode cX12_ask 11 = .ok (.iconst 0, 1) := by decide +kernel
theorem dX12_ask_12 : decode cX12_ask 12 = .ok (.istore_n 3, 1) := by decide +kernel
theorem dX12_ask_13 : decode cX12_ask 13 = .ok (.iload_n 3, 1) := by decide +kernel
theorem dX12_ask_14 : decode cX12_ask 14 = .ok (.aload_n 0, 1) := by decide +kernel
theorem dX12_ask_15 : decode cX12_ask 15 = .ok (.getfield 102, 3) := by decide +kernel
theorem dX12_ask_18 : decode cX12_ask 18 = .ok (.if_icmp .ge 40, 3) := by decide +kernel
theorem dX12_ask_21 : decode cX12_ask 21 = .ok (.aload_n 0, 1) := by decide +kernel
theorem dX12_ask_22 : decode cX12_ask 22 = .ok (.iload_n 3, 1) := by decide +kernel
theorem dX12_ask_23 : decode cX12_ask 23 = .ok (.iconst 1, 1) := by decide +kernel
theorem dX12_ask_24 : decode cX12_ask 24 = .ok (.invokevirtual 352, 3) := by decide +kernel
theorem dX12_ask_27 : decode cX12_ask 27 = .ok (.aload_n 0, 1) := by decide +kernel
theorem dX12_ask_28 : decode cX12_ask 28 = .ok (.iload_n 3, 1) := by decide +kernel
theorem dX12_ask_29 : decode cX12_ask 29 = .ok (.iconst 0, 1) := by decide +kernel
theorem dX12_ask_30 : decode cX12_ask 30 = .ok (.invokevirtual 352, 3) := by decide +kernel
theorem dX12_ask_33 : decode cX12_ask 33 = .ok (.invokestatic 205, 3) := by decide +kernel
theorem dX12_ask_36 : decode cX12_ask 36 = .ok (.istore 4, 2) := by decide +kernel
theorem dX12_ask_38 : decode cX12_ask 38 = .ok (.iload 4, 2) := by decide +kernel
theorem dX12_ask_40 : decode cX12_ask 40 = .ok (.iload_n 2, 1) := by decide +kernel
theorem dX12_ask_41 : decode cX12_ask 41 = .ok (.if_icmp .lt 6, 3) := by decide +kernel
theorem dX12_ask_44 : decode cX12_ask 44 = .ok (.goto 8, 3) := by decide +kernel
theorem dX12_ask_47 : decode cX12_ask 47 = .ok (.iload_n 3, 1) := by decide +kernel
theorem dX12_ask_48 : decode cX12_ask 48 = .ok (.istore_n 1, 1) := by decide +kernel
theorem dX12_ask_49 : decode cX12_ask 49 = .ok (.iload 4, 2) := by decide +kernel
theorem dX12_ask_51 : decode cX12_ask 51 = .ok (.istore_n 2, 1) := by decide +kernel
theorem dX12_ask_52 : decode cX12_ask 52 = .ok (.iinc 3 1, 3) := by decide +kernel
theorem dX12_ask_55 : decode cX12_ask 55 = .ok (.goto (-42), 3) := by decide +kernel
theorem dX12_ask_58 : decode cX12_ask 58 = .ok (.iload_n 1, 1) := by decide +kernel
theorem dX12_ask_59 : decode cX12_ask 59 = .ok (.iconst (-1), 1) := by decide +kernel
theorem dX12_ask_60 : decode cX12_ask 60 = .ok (.if_icmp .eq 7, 3) := by decide +kernel
theorem dX12_ask_63 : decode cX12_ask 63 = .ok (.iload_n 2, 1) := by decide +kernel
theorem dX12_ask_64 : decode cX12_ask 64 = .ok (.ifCond .ne 6, 3) := by decide +kernel
theorem dX12_ask_67 : decode cX12_ask 67 = .ok (.bipush (-2), 2) := by decide +kernel
theorem dX12_ask_69 : decode cX12_ask 69 = .ok (.ireturn, 1) := by decide +kernel
theorem dX12_ask_70 : decode cX12_ask 70 = .ok (.aload_n 0, 1) := by decide +kernel
theorem dX12_ask_71 : decode cX12_ask 71 = .ok (.iconst 0, 1) := by decide +kernel
theorem dX12_ask_72 : decode cX12_ask 72 = .ok (.putfield 92, 3) := by decide +kernel
theorem dX12_ask_75 : decode cX12_ask 75 = .ok (.aload_n 0, 1) := by decide +kernel
theorem dX12_ask_76 : decode cX12_ask 76 = .ok (.iload_n 2, 1) := by decide +kernel
theorem dX12_ask_77 : decode cX12_ask 77 = .ok (.i2l, 1) := by decide +kernel
theorem dX12_ask_78 : decode cX12_ask 78 = .ok (.invokevirtual 253, 3) := by decide +kernel
theorem dX12_ask_81 : decode cX12_ask 81 = .ok (.iload_n 1, 1) := by decide +kernel
theorem dX12_ask_82 : decode cX12_ask 82 = .ok (.ireturn, 1) := by decide +kernel
theorem dX12_goWidow_0 : decode cX12_goWidow 0 = .ok (.iload_n 3, 1) := by decide +kernel
theorem dX12_goWidow_1 : decode cX12_goWidow 1 = .ok (.aload_n 0, 1) := by decide +kernel
theorem dX12_goWidow_2 : decode cX12_goWidow 2 = .ok (.getfield 355, 3) := by decide +kernel
theorem dX12_goWidow_5 : decode cX12_goWidow 5 = .ok (.if_icmp .lt 4, 3) := by decide +kernel
theorem dX12_goWidow_8 : decode cX12_goWidow 8 = .ok (.return_, 1) := by decide +kernel
theorem dX12_goWidow_9 : decode cX12_goWidow 9 = .ok (.iload_n 1, 1) := by decide +kernel
theorem dX12_goWidow_10 : decode cX12_goWidow 10 = .ok (.ifCond .ne 38, 3) := by decide +kernel
theorem dX12_goWidow_13 : decode cX12_goWidow 13 = .ok (.aload_n 0, 1) := by decide +kernel
theorem dX12_goWidow_14 : decode cX12_goWidow 14 = .ok (.iload_n 3, 1) := by decide +kernel
theorem dX12_goWidow_15 : decode cX12_goWidow 15 = .ok (.putfield 355, 3) := by decide +kernel
theorem dX12_goWidow_18 : decode cX12_goWidow 18 = .ok (.iconst 0, 1) := by decide +kernel
theorem dX12_goWidow_19 : decode cX12_goWidow 19 = .ok (.istore 5, 2) := by decide +kernel
theorem dX12_goWidow_21 : decode cX12_goWidow 21 = .ok (.iload 5, 2) := by decide +kernel
theorem dX12_goWidow_23 : decode cX12_goWidow 23 = .ok (.iload_n 2, 1) := by decide +kernel
theorem dX12_goWidow_24 : decode cX12_goWidow 24 = .ok (.if_icmp .ge 23, 3) := by decide +kernel
theorem dX12_goWidow_27 : decode cX12_goWidow 27 = .ok (.aload_n 0, 1) := by decide +kernel
theorem dX12_goWidow_28 : decode cX12_goWidow 28 = .ok (.getfield 73, 3) := by decide +kernel
theorem dX12_goWidow_31 : decode cX12_goWidow 31 = .ok (.iload 5, 2) := by decide +kernel
theorem dX12_goWidow_33 : decode cX12_goWidow 33 = .ok (.aload_n 0, 1) := by decide +kernel
theorem dX12_goWidow_34 : decode cX12_goWidow 34 = .ok (.getfield 64, 3) := by decide +kernel
theorem dX12_goWidow_37 : decode cX12_goWidow 37 = .ok (.iload 5, 2) := by decide +kernel
theorem dX12_goWidow_39 : decode cX12_goWidow 39 = .ok (.iaload, 1) := by decide +kernel
theorem dX12_goWidow_40 : decode cX12_goWidow 40 = .ok (.iastore, 1) := by decide +kernel
theorem dX12_goWidow_41 : decode cX12_goWidow 41 = .ok (.iinc 5 1, 3) := by decide +kernel
theorem dX12_goWidow_44 : decode cX12_goWidow 44 = .ok (.goto (-23), 3) := by decide +kernel
theorem dX12_goWidow_47 : decode cX12_goWidow 47 = .ok (.return_, 1) := by decide +kernel
theorem dX12_goWidow_48 : decode cX12_goWidow 48 = .ok (.iconst 0, 1) := by decide +kernel
theorem dX12_goWidow_49 : decode cX12_goWidow 49 = .ok (.istore 5, 2) := by decide +kernel
theorem dX12_goWidow_51 : decode cX12_goWidow 51 = .ok (.iload 5, 2) := by decide +kernel
theorem dX12_goWidow_53 : decode cX12_goWidow 53 = .ok (.aload_n 0, 1) := by decide +kernel
theorem dX12_goWidow_54 : decode cX12_goWidow 54 = .ok (.getfield 102, 3) := by decide +kernel
theorem dX12_goWidow_57 : decode cX12_goWidow 57 = .ok (.if_icmp .ge 77, 3) := by decide +kernel
theorem dX12_goWidow_60 : decode cX12_goWidow 60 = .ok (.iload_n 1, 1) := by decide +kernel
theorem dX12_goWidow_61 : decode cX12_goWidow 61 = .ok (.iload 5, 2) := by decide +kernel
theorem dX12_goWidow_63 : decode cX12_goWidow 63 = .ok (.invokestatic 201, 3) := by decide +kernel
theorem dX12_goWidow_66 : decode cX12_goWidow 66 = .ok (.ifCond .ne 6, 3) := by decide +kernel
theorem dX12_goWidow_69 : decode cX12_goWidow 69 = .ok (.goto 59, 3) := by decide +kernel
theorem dX12_goWidow_72 : decode cX12_goWidow 72 = .ok (.aload_n 0, 1) := by decide +kernel
theorem dX12_goWidow_73 : decode cX12_goWidow 73 = .ok (.getfield 64, 3) := by decide +kernel
theorem dX12_goWidow_76 : decode cX12_goWidow 76 = .ok (.iload_n 2, 1) := by decide +kernel
theorem dX12_goWidow_77 : decode cX12_goWidow 77 = .ok (.iload 5, 2) := by decide +kernel
theorem dX12_goWidow_79 : decode cX12_goWidow 79 = .ok (.iastore, 1) := by decide +kernel
theorem dX12_goWidow_80 : decode cX12_goWidow 80 = .ok (.aload_n 0, 1) := by decide +kernel
theorem dX12_goWidow_81 : decode cX12_goWidow 81 = .ok (.iload_n 1, 1) := by decide +kernel
theorem dX12_goWidow_82 : decode cX12_goWidow 82 = .ok (.iconst 1, 1) := by decide +kernel
theorem dX12_goWidow_83 : decode cX12_goWidow 83 = .ok (.iload 5, 2) := by decide +kernel
theorem dX12_goWidow_85 : decode cX12_goWidow 85 = .ok (.ishl, 1) := by decide +kernel
theorem dX12_goWidow_86 : decode cX12_goWidow 86 = .ok (.iconst (-1), 1) := by decide +kernel
theorem dX12_goWidow_87 : decode cX12_goWidow 87 = .ok (.ixor, 1) := by decide +kernel
theorem dX12_goWidow_88 : decode cX12_goWidow 88 = .ok (.iand, 1) := by decide +kernel
theorem dX12_goWidow_89 : decode cX12_goWidow 89 = .ok (.iload_n 2, 1) := by decide +kernel
theorem dX12_goWidow_90 : decode cX12_goWidow 90 = .ok (.iconst 1, 1) := by decide +kernel
theorem dX12_goWidow_91 : decode cX12_goWidow 91 = .ok (.iadd, 1) := by decide +kernel
theorem dX12_goWidow_92 : decode cX12_goWidow 92 = .ok (.iload_n 3, 1) := by decide +kernel
theorem dX12_goWidow_93 : decode cX12_goWidow 93 = .ok (.aload_n 0, 1) := by decide +kernel
theorem dX12_goWidow_94 : decode cX12_goWidow 94 = .ok (.getfield 9, 3) := by decide +kernel
theorem dX12_goWidow_97 : decode cX12_goWidow 97 = .ok (.bipush 24, 2) := by decide +kernel
theorem dX12_goWidow_99 : decode cX12_goWidow 99 = .ok (.iaload, 1) := by decide +kernel
theorem dX12_goWidow_100 : decode cX12_goWidow 100 = .ok (.iload_n 2, 1) := by decide +kernel
theorem dX12_goWidow_101 : decode cX12_goWidow 101 = .ok (.iadd, 1) := by decide +kernel
theorem dX12_goWidow_102 : decode cX12_goWidow 102 = .ok (.iload 4, 2) := by decide +kernel
theorem dX12_goWidow_104 : decode cX12_goWidow 104 = .ok (.if_icmp .lt 17, 3) := by decide +kernel
theorem dX12_goWidow_107 : decode cX12_goWidow 107 = .ok (.aload_n 0, 1) := by decide +kernel
theorem dX12_goWidow_108 : decode cX12_goWidow 108 = .ok (.getfield 26, 3) := by decide +kernel
theorem dX12_goWidow_111 : decode cX12_goWidow 111 = .ok (.iconst 4, 1) := by decide +kernel
theorem dX12_goWidow_112 : decode cX12_goWidow 112 = .ok (.iload 5, 2) := by decide +kernel
theorem dX12_goWidow_114 : decode cX12_goWidow 114 = .ok (.imul, 1) := by decide +kernel
theorem dX12_goWidow_115 : decode cX12_goWidow 115 = .ok (.iconst 2, 1) := by decide +kernel
theorem dX12_goWidow_116 : decode cX12_goWidow 116 = .ok (.iadd, 1) := by decide +kernel
theorem dX12_goWidow_117 : decode cX12_goWidow 117 = .ok (.iaload, 1) := by decide +kernel
theorem dX12_goWidow_118 : decode cX12_goWidow 118 = .ok (.goto 4, 3) := by decide +kernel
theorem dX12_goWidow_121 : decode cX12_goWidow 121 = .ok (.iconst 0, 1) := by decide +kernel
theorem dX12_goWidow_122 : decode cX12_goWidow 122 = .ok (.iadd, 1) := by decide +kernel
theorem dX12_goWidow_123 : decode cX12_goWidow 123 = .ok (.iload 4, 2) := by decide +kernel
theorem dX12_goWidow_125 : decode cX12_goWidow 125 = .ok (.invokevirtual 358, 3) := by decide +kernel
theorem dX12_goWidow_128 : decode cX12_goWidow 128 = .ok (.iinc 5 1, 3) := by decide +kernel
theorem dX12_goWidow_131 : decode cX12_goWidow 131 = .ok (.goto (-80), 3) := by decide +kernel
theorem dX12_goWidow_134 : decode cX12_goWidow 134 = .ok (.return_, 1) := by decide +kernel
theorem dX12_saidBits_0 : decode cX12_saidBits 0 = .ok (.iconst 0, 1) := by decide +kernel
theorem dX12_saidBits_1 : decode cX12_saidBits 1 = .ok (.istore_n 1, 1) := by decide +kernel
theorem dX12_saidBits_2 : decode cX12_saidBits 2 = .ok (.iconst 0, 1) := by decide +kernel
theorem dX12_saidBits_3 : decode cX12_saidBits 3 = .ok (.istore_n 2, 1) := by decide +kernel
theorem dX12_saidBits_4 : decode cX12_saidBits 4 = .ok (.iload_n 2, 1) := by decide +kernel
theorem dX12_saidBits_5 : decode cX12_saidBits 5 = .ok (.aload_n 0, 1) := by decide +kernel
theorem dX12_saidBits_6 : decode cX12_saidBits 6 = .ok (.getfield 102, 3) := by decide +kernel
theorem dX12_saidBits_9 : decode cX12_saidBits 9 = .ok (.if_icmp .ge 23, 3) := by decide +kernel
theorem dX12_saidBits_12 : decode cX12_saidBits 12 = .ok (.iload_n 1, 1) := by decide +kernel
theorem dX12_saidBits_13 : decode cX12_saidBits 13 = .ok (.aload_n 0, 1) := by decide +kernel
theorem dX12_saidBits_14 : decode cX12_saidBits 14 = .ok (.getfield 9, 3) := by decide +kernel
theorem dX12_saidBits_17 : decode cX12_saidBits 17 = .ok (.bipush 16, 2) := by decide +kernel
theorem dX12_saidBits_19 : decode cX12_saidBits 19 = .ok (.iload_n 2, 1) := by decide +kernel
theorem dX12_saidBits_20 : decode cX12_saidBits 20 = .ok (.iadd, 1) := by decide +kernel
theorem dX12_saidBits_21 : decode cX12_saidBits 21 = .ok (.iaload, 1) := by decide +kernel
theorem dX12_saidBits_22 : decode cX12_saidBits 22 = .ok (.iload_n 2, 1) := by decide +kernel
theorem dX12_saidBits_23 : decode cX12_saidBits 23 = .ok (.ishl, 1) := by decide +kernel
theorem dX12_saidBits_24 : decode cX12_saidBits 24 = .ok (.ior, 1) := by decide +kernel
theorem dX12_saidBits_25 : decode cX12_saidBits 25 = .ok (.istore_n 1, 1) := by decide +kernel
theorem dX12_saidBits_26 : decode cX12_saidBits 26 = .ok (.iinc 2 1, 3) := by decide +kernel
theorem dX12_saidBits_29 : decode cX12_saidBits 29 = .ok (.goto (-25), 3) := by decide +kernel
theorem dX12_saidBits_32 : decode cX12_saidBits 32 = .ok (.iload_n 1, 1) := by decide +kernel
theorem dX12_saidBits_33 : decode cX12_saidBits 33 = .ok (.ireturn, 1) := by decide +kernel
theorem dX12_widow_0 : decode cX12_widow 0 = .ok (.aload_n 0, 1) := by decide +kernel
theorem dX12_widow_1 : decode cX12_widow 1 = .ok (.iconst 0, 1) := by decide +kernel
theorem dX12_widow_2 : decode cX12_widow 2 = .ok (.putfield 89, 3) := by decide +kernel
theorem dX12_widow_5 : decode cX12_widow 5 = .ok (.aload_n 0, 1) := by decide +kernel
theorem dX12_widow_6 : decode cX12_widow 6 = .ok (.iload_n 1, 1) := by decide +kernel
theorem dX12_widow_7 : decode cX12_widow 7 = .ok (.invokevirtual 333, 3) := by decide +kernel
theorem dX12_widow_10 : decode cX12_widow 10 = .ok (.ifCond .eq 13, 3) := by decide +kernel
theorem dX12_widow_13 : decode cX12_widow 13 = .ok (.iload_n 2, 1) := by decide +kernel
theorem dX12_widow_14 : decode cX12_widow 14 = .ok (.iconst 0, 1) := by decide +kernel
theorem dX12_widow_15 : decode cX12_widow 15 = .ok (.bipush 12, 2) := by decide +kernel
theorem dX12_widow_17 : decode cX12_widow 17 = .ok (.invokestatic 98, 3) := by decide +kernel
theorem dX12_widow_20 : decode cX12_widow 20 = .ok (.ifCond .ne 5, 3) := by decide +kernel
theorem dX12_widow_23 : decode cX12_widow 23 = .ok (.iconst (-1), 1) := by decide +kernel
theorem dX12_widow_24 : decode cX12_widow 24 = .ok (.ireturn, 1) := by decide +kernel
theorem dX12_widow_25 : decode cX12_widow 25 = .ok (.iload_n 1, 1) := by decide +kernel
theorem dX12_widow_26 : decode cX12_widow 26 = .ok (.invokestatic 214, 3) := by decide +kernel
theorem dX12_widow_29 : decode cX12_widow 29 = .ok (.istore_n 3, 1) := by decide +kernel
theorem dX12_widow_30 : decode cX12_widow 30 = .ok (.iload_n 3, 1) := by decide +kernel
theorem dX12_widow_31 : decode cX12_widow 31 = .ok (.bipush 6, 2) := by decide +kernel
theorem dX12_widow_33 : decode cX12_widow 33 = .ok (.if_icmp .gt 12, 3) := by decide +kernel
theorem dX12_widow_36 : decode cX12_widow 36 = .ok (.iload_n 1, 1) := by decide +kernel
theorem dX12_widow_37 : decode cX12_widow 37 = .ok (.aload_n 0, 1) := by decide +kernel
theorem dX12_widow_38 : decode cX12_widow 38 = .ok (.invokevirtual 323, 3) := by decide +kernel
theorem dX12_widow_41 : decode cX12_widow 41 = .ok (.iand, 1) := by decide +kernel
theorem dX12_widow_42 : decode cX12_widow 42 = .ok (.ifCond .eq 6, 3) := by decide +kernel
theorem dX12_widow_45 : decode cX12_widow 45 = .ok (.bipush (-3), 2) := by decide +kernel
theorem dX12_widow_47 : decode cX12_widow 47 = .ok (.ireturn, 1) := by decide +kernel
theorem dX12_widow_48 : decode cX12_widow 48 = .ok (.iload_n 3, 1) := by decide +kernel
theorem dX12_widow_49 : decode cX12_widow 49 = .ok (.aload_n 0, 1) := by decide +kernel
theorem dX12_widow_50 : decode cX12_widow 50 = .ok (.getfield 13, 3) := by decide +kernel
theorem dX12_widow_53 : decode cX12_widow 53 = .ok (.aload_n 0, 1) := by decide +kernel
theorem dX12_widow_54 : decode cX12_widow 54 = .ok (.getfield 9, 3) := by decide +kernel
theorem dX12_widow_57 : decode cX12_widow 57 = .ok (.bipush 24, 2) := by decide +kernel
theorem dX12_widow_59 : decode cX12_widow 59 = .ok (.iaload, 1) := by decide +kernel
theorem dX12_widow_60 : decode cX12_widow 60 = .ok (.isub, 1) := by decide +kernel
theorem dX12_widow_61 : decode cX12_widow 61 = .ok (.if_icmp .le 6, 3) := by decide +kernel
theorem dX12_widow_64 : decode cX12_widow 64 = .ok (.bipush (-2), 2) := by decide +kernel
theorem dX12_widow_66 : decode cX12_widow 66 = .ok (.ireturn, 1) := by decide +kernel
theorem dX12_widow_67 : decode cX12_widow 67 = .ok (.aload_n 0, 1) := by decide +kernel
theorem dX12_widow_68 : decode cX12_widow 68 = .ok (.ldc_w 329, 3) := by decide +kernel
theorem dX12_widow_71 : decode cX12_widow 71 = .ok (.putfield 355, 3) := by decide +kernel
theorem dX12_widow_74 : decode cX12_widow 74 = .ok (.aload_n 0, 1) := by decide +kernel
theorem dX12_widow_75 : decode cX12_widow 75 = .ok (.iload_n 1, 1) := by decide +kernel
theorem dX12_widow_76 : decode cX12_widow 76 = .ok (.iconst 0, 1) := by decide +kernel
theorem dX12_widow_77 : decode cX12_widow 77 = .ok (.iconst 0, 1) := by decide +kernel
theorem dX12_widow_78 : decode cX12_widow 78 = .ok (.iload_n 2, 1) := by decide +kernel
theorem dX12_widow_79 : decode cX12_widow 79 = .ok (.invokevirtual 358, 3) := by decide +kernel
theorem dX12_widow_82 : decode cX12_widow 82 = .ok (.aload_n 0, 1) := by decide +kernel
theorem dX12_widow_83 : decode cX12_widow 83 = .ok (.iconst 0, 1) := by decide +kernel
theorem dX12_widow_84 : decode cX12_widow 84 = .ok (.putfield 92, 3) := by decide +kernel
theorem dX12_widow_87 : decode cX12_widow 87 = .ok (.iconst 0, 1) := by decide +kernel
theorem dX12_widow_88 : decode cX12_widow 88 = .ok (.istore 4, 2) := by decide +kernel
theorem dX12_widow_90 : decode cX12_widow 90 = .ok (.iload 4, 2) := by decide +kernel
theorem dX12_widow_92 : decode cX12_widow 92 = .ok (.iload_n 3, 1) := by decide +kernel
theorem dX12_widow_93 : decode cX12_widow 93 = .ok (.if_icmp .ge 21, 3) := by decide +kernel
theorem dX12_widow_96 : decode cX12_widow 96 = .ok (.aload_n 0, 1) := by decide +kernel
theorem dX12_widow_97 : decode cX12_widow 97 = .ok (.aload_n 0, 1) := by decide +kernel
theorem dX12_widow_98 : decode cX12_widow 98 = .ok (.getfield 73, 3) := by decide +kernel
theorem dX12_widow_101 : decode cX12_widow 101 = .ok (.iload 4, 2) := by decide +kernel
theorem dX12_widow_103 : decode cX12_widow 103 = .ok (.iaload, 1) := by decide +kernel
theorem dX12_widow_104 : decode cX12_widow 104 = .ok (.i2l, 1) := by decide +kernel
theorem dX12_widow_105 : decode cX12_widow 105 = .ok (.invokevirtual 253, 3) := by decide +kernel
theorem dX12_widow_108 : decode cX12_widow 108 = .ok (.iinc 4 1, 3) := by decide +kernel
theorem dX12_widow_111 : decode cX12_widow 111 = .ok (.goto (-21), 3) := by decide +kernel
theorem dX12_widow_114 : decode cX12_widow 114 = .ok (.aload_n 0, 1) := by decide +kernel
theorem dX12_widow_115 : decode cX12_widow 115 = .ok (.getfield 355, 3) := by decide +kernel
theorem dX12_widow_118 : decode cX12_widow 118 = .ok (.ireturn, 1) := by decide +kernel
theorem dX12_claim_0 : decode cX12_claim 0 = .ok (.aload_n 0, 1) := by decide +kernel
theorem dX12_claim_1 : decode cX12_claim 1 = .ok (.iconst 0, 1) := by decide +kernel
theorem dX12_claim_2 : decode cX12_claim 2 = .ok (.putfield 89, 3) := by decide +kernel
theorem dX12_claim_5 : decode cX12_claim 5 = .ok (.iload_n 1, 1) := by decide +kernel
theorem dX12_claim_6 : decode cX12_claim 6 = .ok (.invokestatic 285, 3) := by decide +kernel
theorem dX12_claim_9 : decode cX12_claim 9 = .ok (.ifCond .eq 29, 3) := by decide +kernel
theorem dX12_claim_12 : decode cX12_claim 12 = .ok (.aload_n 0, 1) := by decide +kernel
theorem dX12_claim_13 : decode cX12_claim 13 = .ok (.iload_n 2, 1) := by decide +kernel
theorem dX12_claim_14 : decode cX12_claim 14 = .ok (.invokevirtual 247, 3) := by decide +kernel
theorem dX12_claim_17 : decode cX12_claim 17 = .ok (.ifCond .eq 21, 3) := by decide +kernel
theorem dX12_claim_20 : decode cX12_claim 20 = .ok (.iload_n 3, 1) := by decide +kernel
theorem dX12_claim_21 : decode cX12_claim 21 = .ok (.iconst 0, 1) := by decide +kernel
theorem dX12_claim_22 : decode cX12_claim 22 = .ok (.iconst 1, 1) := by decide +kernel
theorem dX12_claim_23 : decode cX12_claim 23 = .ok (.invokestatic 98, 3) := by decide +kernel
theorem dX12_claim_26 : decode cX12_claim 26 = .ok (.ifCond .eq 12, 3) := by decide +kernel
theorem dX12_claim_29 : decode cX12_claim 29 = .ok (.aload_n 0, 1) := by decide +kernel
theorem dX12_claim_30 : decode cX12_claim 30 = .ok (.getfield 362, 3) := by decide +kernel
theorem dX12_claim_33 : decode cX12_claim 33 = .ok (.bipush 16, 2) := by decide +kernel
theorem dX12_claim_35 : decode cX12_claim 35 = .ok (.if_icmp .ne 5, 3) := by decide +kernel
theorem dX12_claim_38 : decode cX12_claim 38 = .ok (.iconst (-1), 1) := by decide +kernel
theorem dX12_claim_39 : decode cX12_claim 39 = .ok (.ireturn, 1) := by decide +kernel
theorem dX12_claim_40 : decode cX12_claim 40 = .ok (.aload_n 0, 1) := by decide +kernel
theorem dX12_claim_41 : decode cX12_claim 41 = .ok (.getfield 76, 3) := by decide +kernel
theorem dX12_claim_44 : decode cX12_claim 44 = .ok (.iconst 3, 1) := by decide +kernel
theorem dX12_claim_45 : decode cX12_claim 45 = .ok (.aload_n 0, 1) := by decide +kernel
theorem dX12_claim_46 : decode cX12_claim 46 = .ok (.getfield 362, 3) := by decide +kernel
theorem dX12_claim_49 : decode cX12_claim 49 = .ok (.imul, 1) := by decide +kernel
theorem dX12_claim_50 : decode cX12_claim 50 = .ok (.iload_n 1, 1) := by decide +kernel
theorem dX12_claim_51 : decode cX12_claim 51 = .ok (.iastore, 1) := by decide +kernel
theorem dX12_claim_52 : decode cX12_claim 52 = .ok (.aload_n 0, 1) := by decide +kernel
theorem dX12_claim_53 : decode cX12_claim 53 = .ok (.getfield 76, 3) := by decide +kernel
theorem dX12_claim_56 : decode cX12_claim 56 = .ok (.iconst 3, 1) := by decide +kernel
theorem dX12_claim_57 : decode cX12_claim 57 = .ok (.aload_n 0, 1) := by decide +kernel
theorem dX12_claim_58 : decode cX12_claim 58 = .ok (.getfield 362, 3) := by decide +kernel
theorem dX12_claim_61 : decode cX12_claim 61 = .ok (.imul, 1) := by decide +kernel
theorem dX12_claim_62 : decode cX12_claim 62 = .ok (.iconst 1, 1) := by decide +kernel
theorem dX12_claim_63 : decode cX12_claim 63 = .ok (.iadd, 1) := by decide +kernel
theorem dX12_claim_64 : decode cX12_claim 64 = .ok (.iload_n 2, 1) := by decide +kernel
theorem dX12_claim_65 : decode cX12_claim 65 = .ok (.iastore, 1) := by decide +kernel
theorem dX12_claim_66 : decode cX12_claim 66 = .ok (.aload_n 0, 1) := by decide +kernel
theorem dX12_claim_67 : decode cX12_claim 67 = .ok (.getfield 76, 3) := by decide +kernel
theorem dX12_claim_70 : decode cX12_claim 70 = .ok (.iconst 3, 1) := by decide +kernel
theorem dX12_claim_71 : decode cX12_claim 71 = .ok (.aload_n 0, 1) := by decide +kernel
theorem dX12_claim_72 : decode cX12_claim 72 = .ok (.getfield 362, 3) := by decide +kernel
theorem dX12_claim_75 : decode cX12_claim 75 = .ok (.imul, 1) := by decide +kernel
theorem dX12_claim_76 : decode cX12_claim 76 = .ok (.iconst 2, 1) := by decide +kernel
theorem dX12_claim_77 : decode cX12_claim 77 = .ok (.iadd, 1) := by decide +kernel
theorem dX12_claim_78 : decode cX12_claim 78 = .ok (.iload_n 3, 1) := by decide +kernel
theorem dX12_claim_79 : decode cX12_claim 79 = .ok (.iastore, 1) := by decide +kernel
theorem dX12_claim_80 : decode cX12_claim 80 = .ok (.aload_n 0, 1) := by decide +kernel
theorem dX12_claim_81 : decode cX12_claim 81 = .ok (.dup, 1) := by decide +kernel
theorem dX12_claim_82 : decode cX12_claim 82 = .ok (.getfield 362, 3) := by decide +kernel
theorem dX12_claim_85 : decode cX12_claim 85 = .ok (.iconst 1, 1) := by decide +kernel
theorem dX12_claim_86 : decode cX12_claim 86 = .ok (.iadd, 1) := by decide +kernel
theorem dX12_claim_87 : decode cX12_claim 87 = .ok (.putfield 362, 3) := by decide +kernel
theorem dX12_claim_90 : decode cX12_claim 90 = .ok (.aload_n 0, 1) := by decide +kernel
theorem dX12_claim_91 : decode cX12_claim 91 = .ok (.getfield 362, 3) := by decide +kernel
theorem dX12_claim_94 : decode cX12_claim 94 = .ok (.ireturn, 1) := by decide +kernel
theorem dX12_unsaid_0 : decode cX12_unsaid 0 = .ok (.aload_n 0, 1) := by decide +kernel
theorem dX12_unsaid_1 : decode cX12_unsaid 1 = .ok (.iconst 0, 1) := by decide +kernel
theorem dX12_unsaid_2 : decode cX12_unsaid 2 = .ok (.putfield 89, 3) := by decide +kernel
theorem dX12_unsaid_5 : decode cX12_unsaid 5 = .ok (.aload_n 0, 1) := by decide +kernel
theorem dX12_unsaid_6 : decode cX12_unsaid 6 = .ok (.getfield 362, 3) := by decide +kernel
theorem dX12_unsaid_9 : decode cX12_unsaid 9 = .ok (.istore_n 1, 1) := by decide +kernel
theorem dX12_unsaid_10 : decode cX12_unsaid 10 = .ok (.aload_n 0, 1) := by decide +kernel
theorem dX12_unsaid_11 : decode cX12_unsaid 11 = .ok (.iconst 0, 1) := by decide +kernel
theorem dX12_unsaid_12 : decode cX12_unsaid 12 = .ok (.putfield 362, 3) := by decide +kernel
theorem dX12_unsaid_15 : decode cX12_unsaid 15 = .ok (.iload_n 1, 1) := by decide +kernel
theorem dX12_unsaid_16 : decode cX12_unsaid 16 = .ok (.ireturn, 1) := by decide +kernel
theorem dX12_doAgree_0 : decode cX12_doAgree 0 = .ok (.iconst 0, 1) := by decide +kernel
theorem dX12_doAgree_1 : decode cX12_doAgree 1 = .ok (.istore_n 2, 1) := by decide +kernel
theorem dX12_doAgree_2 : decode cX12_doAgree 2 = .ok (.iload_n 2, 1) := by decide +kernel
theorem dX12_doAgree_3 : decode cX12_doAgree 3 = .ok (.aload_n 0, 1) := by decide +kernel
theorem dX12_doAgree_4 : decode cX12_doAgree 4 = .ok (.getfield 362, 3) := by decide +kernel
theorem dX12_doAgree_7 : decode cX12_doAgree 7 = .ok (.if_icmp .ge 103, 3) := by decide +kernel
theorem dX12_doAgree_10 : decode cX12_doAgree 10 = .ok (.iconst 0, 1) := by decide +kernel
theorem dX12_doAgree_11 : decode cX12_doAgree 11 = .ok (.istore_n 3, 1) := by decide +kernel
theorem dX12_doAgree_12 : decode cX12_doAgree 12 = .ok (.iload_n 3, 1) := by decide +kernel
theorem dX12_doAgree_13 : decode cX12_doAgree 13 = .ok (.iload_n 2, 1) := by decide +kernel
theorem dX12_doAgree_14 : decode cX12_doAgree 14 = .ok (.if_icmp .ge 90, 3) := by decide +kernel
theorem dX12_doAgree_17 : decode cX12_doAgree 17 = .ok (.iload_n 1, 1) := by decide +kernel
theorem dX12_doAgree_18 : decode cX12_doAgree 18 = .ok (.aload_n 0, 1) := by decide +kernel
theorem dX12_doAgree_19 : decode cX12_doAgree 19 = .ok (.getfield 76, 3) := by decide +kernel
theorem dX12_doAgree_22 : decode cX12_doAgree 22 = .ok (.iconst 3, 1) := by decide +kernel
theorem dX12_doAgree_23 : decode cX12_doAgree 23 = .ok (.iload_n 2, 1) := by decide +kernel
theorem dX12_doAgree_24 : decode cX12_doAgree 24 = .ok (.imul, 1) := by decide +kernel
theorem dX12_doAgree_25 : decode cX12_doAgree 25 = .ok (.iaload, 1) := by decide +kernel
theorem dX12_doAgree_26 : decode cX12_doAgree 26 = .ok (.invokestatic 201, 3) := by decide +kernel
theorem dX12_doAgree_29 : decode cX12_doAgree 29 = .ok (.ifCond .ne 69, 3) := by decide +kernel
theorem dX12_doAgree_32 : decode cX12_doAgree 32 = .ok (.iload_n 1, 1) := by decide +kernel
theorem dX12_doAgree_33 : decode cX12_doAgree 33 = .ok (.aload_n 0, 1) := by decide +kernel
theorem dX12_doAgree_34 : decode cX12_doAgree 34 = .ok (.getfield 76, 3) := by decide +kernel
theorem dX12_doAgree_37 : decode cX12_doAgree 37 = .ok (.iconst 3, 1) := by decide +kernel
theorem dX12_doAgree_38 : decode cX12_doAgree 38 = .ok (.iload_n 3, 1) := by decide +kernel
theorem dX12_doAgree_39 : decode cX12_doAgree 39 = .ok (.imul, 1) := by decide +kernel
theorem dX12_doAgree_40 : decode cX12_doAgree 40 = .ok (.iaload, 1) := by decide +kernel
theorem dX12_doAgree_41 : decode cX12_doAgree 41 = .ok (.invokestatic 201, 3) := by decide +kernel
theorem dX12_doAgree_44 : decode cX12_doAgree 44 = .ok (.ifCond .eq 6, 3) := by decide +kernel
theorem dX12_doAgree_47 : decode cX12_doAgree 47 = .ok (.goto 51, 3) := by decide +kernel
theorem dX12_doAgree_50 : decode cX12_doAgree 50 = .ok (.aload_n 0, 1) := by decide +kernel
theorem dX12_doAgree_51 : decode cX12_doAgree 51 = .ok (.getfield 76, 3) := by decide +kernel
theorem dX12_doAgree_54 : decode cX12_doAgree 54 = .ok (.iconst 3, 1) := by decide +kernel
theorem dX12_doAgree_55 : decode cX12_doAgree 55 = .ok (.iload_n 2, 1) := by decide +kernel
theorem dX12_doAgree_56 : decode cX12_doAgree 56 = .ok (.imul, 1) := by decide +kernel
theorem dX12_doAgree_57 : decode cX12_doAgree 57 = .ok (.iconst 1, 1) := by decide +kernel
theorem dX12_doAgree_58 : decode cX12_doAgree 58 = .ok (.iadd, 1) := by decide +kernel
theorem dX12_doAgree_59 : decode cX12_doAgree 59 = .ok (.iaload, 1) := by decide +kernel
theorem dX12_doAgree_60 : decode cX12_doAgree 60 = .ok (.aload_n 0, 1) := by decide +kernel
theorem dX12_doAgree_61 : decode cX12_doAgree 61 = .ok (.getfield 76, 3) := by decide +kernel
theorem dX12_doAgree_64 : decode cX12_doAgree 64 = .ok (.iconst 3, 1) := by decide +kernel
theorem dX12_doAgree_65 : decode cX12_doAgree 65 = .ok (.iload_n 3, 1) := by decide +kernel
theorem dX12_doAgree_66 : decode cX12_doAgree 66 = .ok (.imul, 1) := by decide +kernel
theorem dX12_doAgree_67 : decode cX12_doAgree 67 = .ok (.iconst 1, 1) := by decide +kernel
theorem dX12_doAgree_68 : decode cX12_doAgree 68 = .ok (.iadd, 1) := by decide +kernel
theorem dX12_doAgree_69 : decode cX12_doAgree 69 = .ok (.iaload, 1) := by decide +kernel
theorem dX12_doAgree_70 : decode cX12_doAgree 70 = .ok (.if_icmp .ne 28, 3) := by decide +kernel
theorem dX12_doAgree_73 : decode cX12_doAgree 73 = .ok (.aload_n 0, 1) := by decide +kernel
theorem dX12_doAgree_74 : decode cX12_doAgree 74 = .ok (.getfield 76, 3) := by decide +kernel
theorem dX12_doAgree_77 : decode cX12_doAgree 77 = .ok (.iconst 3, 1) := by decide +kernel
theorem dX12_doAgree_78 : decode cX12_doAgree 78 = .ok (.iload_n 2, 1) := by decide +kernel
theorem dX12_doAgree_79 : decode cX12_doAgree 79 = .ok (.imul, 1) := by decide +kernel
theorem dX12_doAgree_80 : decode cX12_doAgree 80 = .ok (.iconst 2, 1) := by decide +kernel
theorem dX12_doAgree_81 : decode cX12_doAgree 81 = .ok (.iadd, 1) := by decide +kernel
theorem dX12_doAgree_82 : decode cX12_doAgree 82 = .ok (.iaload, 1) := by decide +kernel
theorem dX12_doAgree_83 : decode cX12_doAgree 83 = .ok (.aload_n 0, 1) := by decide +kernel
theorem dX12_doAgree_84 : decode cX12_doAgree 84 = .ok (.getfield 76, 3) := by decide +kernel
theorem dX12_doAgree_87 : decode cX12_doAgree 87 = .ok (.iconst 3, 1) := by decide +kernel
theorem dX12_doAgree_88 : decode cX12_doAgree 88 = .ok (.iload_n 3, 1) := by decide +kernel
theorem dX12_doAgree_89 : decode cX12_doAgree 89 = .ok (.imul, 1) := by decide +kernel
theorem dX12_doAgree_90 : decode cX12_doAgree 90 = .ok (.iconst 2, 1) := by decide +kernel
theorem dX12_doAgree_91 : decode cX12_doAgree 91 = .ok (.iadd, 1) := by decide +kernel
theorem dX12_doAgree_92 : decode cX12_doAgree 92 = .ok (.iaload, 1) := by decide +kernel
theorem dX12_doAgree_93 : decode cX12_doAgree 93 = .ok (.if_icmp .eq 5, 3) := by decide +kernel
theorem dX12_doAgree_96 : decode cX12_doAgree 96 = .ok (.iconst 0, 1) := by decide +kernel
theorem dX12_doAgree_97 : decode cX12_doAgree 97 = .ok (.ireturn, 1) := by decide +kernel
theorem dX12_doAgree_98 : decode cX12_doAgree 98 = .ok (.iinc 3 1, 3) := by decide +kernel
theorem dX12_doAgree_101 : decode cX12_doAgree 101 = .ok (.goto (-89), 3) := by decide +kernel
theorem dX12_doAgree_104 : decode cX12_doAgree 104 = .ok (.iinc 2 1, 3) := by decide +kernel
theorem dX12_doAgree_107 : decode cX12_doAgree 107 = .ok (.goto (-105), 3) := by decide +kernel
theorem dX12_doAgree_110 : decode cX12_doAgree 110 = .ok (.iconst 1, 1) := by decide +kernel
theorem dX12_doAgree_111 : decode cX12_doAgree 111 = .ok (.ireturn, 1) := by decide +kernel
theorem dX12_believe_0 : decode cX12_believe 0 = .ok (.aload_n 0, 1) := by decide +kernel
theorem dX12_believe_1 : decode cX12_believe 1 = .ok (.iconst 0, 1) := by decide +kernel
theorem dX12_believe_2 : decode cX12_believe 2 = .ok (.putfield 89, 3) := by decide +kernel
theorem dX12_believe_5 : decode cX12_believe 5 = .ok (.bipush 15, 2) := by decide +kernel
theorem dX12_believe_7 : decode cX12_believe 7 = .ok (.istore_n 1, 1) := by decide +kernel
theorem dX12_believe_8 : decode cX12_believe 8 = .ok (.iconst 0, 1) := by decide +kernel
theorem dX12_believe_9 : decode cX12_believe 9 = .ok (.istore_n 2, 1) := by decide +kernel
theorem dX12_believe_10 : decode cX12_believe 10 = .ok (.iload_n 2, 1) := by decide +kernel
theorem dX12_believe_11 : decode cX12_believe 11 = .ok (.bipush 16, 2) := by decide +kernel
theorem dX12_believe_13 : decode cX12_believe 13 = .ok (.if_icmp .ge 30, 3) := by decide +kernel
theorem dX12_believe_16 : decode cX12_believe 16 = .ok (.iload_n 2, 1) := by decide +kernel
theorem dX12_believe_17 : decode cX12_believe 17 = .ok (.invokestatic 214, 3) := by decide +kernel
theorem dX12_believe_20 : decode cX12_believe 20 = .ok (.iload_n 1, 1) := by decide +kernel
theorem dX12_believe_21 : decode cX12_believe 21 = .ok (.invokestatic 214, 3) := by decide +kernel
theorem dX12_believe_24 : decode cX12_believe 24 = .ok (.if_icmp .ge 13, 3) := by decide +kernel
theorem dX12_believe_27 : decode cX12_believe 27 = .ok (.aload_n 0, 1) := by decide +kernel
theorem dX12_believe_28 : decode cX12_believe 28 = .ok (.iload_n 2, 1) := by decide +kernel
theorem dX12_believe_29 : decode cX12_believe 29 = .ok (.invokevirtual 365, 3) := by decide +kernel
theorem dX12_believe_32 : decode cX12_believe 32 = .ok (.ifCond .eq 5, 3) := by decide +kernel
theorem dX12_believe_35 : decode cX12_believe 35 = .ok (.iload_n 2, 1) := by decide +kernel
theorem dX12_believe_36 : decode cX12_believe 36 = .ok (.istore_n 1, 1) := by decide +kernel
theorem dX12_believe_37 : decode cX12_believe 37 = .ok (.iinc 2 1, 3) := by decide +kernel
theorem dX12_believe_40 : decode cX12_believe 40 = .ok (.goto (-30), 3) := by decide +kernel
theorem dX12_believe_43 : decode cX12_believe 43 = .ok (.aload_n 0, 1) := by decide +kernel
theorem dX12_believe_44 : decode cX12_believe 44 = .ok (.iconst 0, 1) := by decide +kernel
theorem dX12_believe_45 : decode cX12_believe 45 = .ok (.putfield 92, 3) := by decide +kernel
theorem dX12_believe_48 : decode cX12_believe 48 = .ok (.aload_n 0, 1) := by decide +kernel
theorem dX12_believe_49 : decode cX12_believe 49 = .ok (.iload_n 1, 1) := by decide +kernel
theorem dX12_believe_50 : decode cX12_believe 50 = .ok (.i2l, 1) := by decide +kernel
theorem dX12_believe_51 : decode cX12_believe 51 = .ok (.invokevirtual 253, 3) := by decide +kernel
theorem dX12_believe_54 : decode cX12_believe 54 = .ok (.iload_n 1, 1) := by decide +kernel
theorem dX12_believe_55 : decode cX12_believe 55 = .ok (.invokestatic 214, 3) := by decide +kernel
theorem dX12_believe_58 : decode cX12_believe 58 = .ok (.ireturn, 1) := by decide +kernel
theorem dX12_common_0 : decode cX12_common 0 = .ok (.lload_n 2, 1) := by decide +kernel
theorem dX12_common_1 : decode cX12_common 1 = .ok (.lconst 0, 1) := by decide +kernel
theorem dX12_common_2 : decode cX12_common 2 = .ok (.lcmp, 1) := by decide +kernel
theorem dX12_common_3 : decode cX12_common 3 = .ok (.ifCond .ne 7, 3) := by decide +kernel
theorem dX12_common_6 : decode cX12_common 6 = .ok (.lload_n 0, 1) := by decide +kernel
theorem dX12_common_7 : decode cX12_common 7 = .ok (.goto 10, 3) := by decide +kernel
theorem dX12_common_10 : decode cX12_common 10 = .ok (.lload_n 2, 1) := by decide +kernel
theorem dX12_common_11 : decode cX12_common 11 = .ok (.lload_n 0, 1) := by decide +kernel
theorem dX12_common_12 : decode cX12_common 12 = .ok (.lload_n 2, 1) := by decide +kernel
theorem dX12_common_13 : decode cX12_common 13 = .ok (.lrem, 1) := by decide +kernel
theorem dX12_common_14 : decode cX12_common 14 = .ok (.invokestatic 368, 3) := by decide +kernel
theorem dX12_common_17 : decode cX12_common 17 = .ok (.lreturn, 1) := by decide +kernel
theorem dX12_power_0 : decode cX12_power 0 = .ok (.lconst 1, 1) := by decide +kernel
theorem dX12_power_1 : decode cX12_power 1 = .ok (.lstore_n 3, 1) := by decide +kernel
theorem dX12_power_2 : decode cX12_power 2 = .ok (.iconst 0, 1) := by decide +kernel
theorem dX12_power_3 : decode cX12_power 3 = .ok (.istore 5, 2) := by decide +kernel
theorem dX12_power_5 : decode cX12_power 5 = .ok (.iload 5, 2) := by decide +kernel
theorem dX12_power_7 : decode cX12_power 7 = .ok (.iload_n 2, 1) := by decide +kernel
theorem dX12_power_8 : decode cX12_power 8 = .ok (.if_icmp .ge 13, 3) := by decide +kernel
theorem dX12_power_11 : decode cX12_power 11 = .ok (.lload_n 3, 1) := by decide +kernel
theorem dX12_power_12 : decode cX12_power 12 = .ok (.lload_n 0, 1) := by decide +kernel
theorem dX12_power_13 : decode cX12_power 13 = .ok (.lmul, 1) := by decide +kernel
theorem dX12_power_14 : decode cX12_power 14 = .ok (.lstore_n 3, 1) := by decide +kernel
theorem dX12_power_15 : decode cX12_power 15 = .ok (.iinc 5 1, 3) := by decide +kernel
theorem dX12_power_18 : decode cX12_power 18 = .ok (.goto (-13), 3) := by decide +kernel
theorem dX12_power_21 : decode cX12_power 21 = .ok (.lload_n 3, 1) := by decide +kernel
theorem dX12_power_22 : decode cX12_power 22 = .ok (.lreturn, 1) := by decide +kernel
theorem dX12_slips_0 : decode cX12_slips 0 = .ok (.aload_n 0, 1) := by decide +kernel
theorem dX12_slips_1 : decode cX12_slips 1 = .ok (.iconst 0, 1) := by decide +kernel
theorem dX12_slips_2 : decode cX12_slips 2 = .ok (.putfield 89, 3) := by decide +kernel
theorem dX12_slips_5 : decode cX12_slips 5 = .ok (.iload_n 1, 1) := by decide +kernel
theorem dX12_slips_6 : decode cX12_slips 6 = .ok (.iconst 0, 1) := by decide +kernel
theorem dX12_slips_7 : decode cX12_slips 7 = .ok (.bipush 10, 2) := by decide +kernel
theorem dX12_slips_9 : decode cX12_slips 9 = .ok (.invokestatic 98, 3) := by decide +kernel
theorem dX12_slips_12 : decode cX12_slips 12 = .ok (.ifCond .ne 5, 3) := by decide +kernel
theorem dX12_slips_15 : decode cX12_slips 15 = .ok (.iconst (-1), 1) := by decide +kernel
theorem dX12_slips_16 : decode cX12_slips 16 = .ok (.ireturn, 1) := by decide +kernel
theorem dX12_slips_17 : decode cX12_slips 17 = .ok (.aload_n 0, 1) := by decide +kernel
theorem dX12_slips_18 : decode cX12_slips 18 = .ok (.aload_n 0, 1) := by decide +kernel
theorem dX12_slips_19 : decode cX12_slips 19 = .ok (.getfield 9, 3) := by decide +kernel
theorem dX12_slips_22 : decode cX12_slips 22 = .ok (.invokevirtual 244, 3) := by decide +kernel
theorem dX12_slips_25 : decode cX12_slips 25 = .ok (.istore_n 2, 1) := by decide +kernel
theorem dX12_slips_26 : decode cX12_slips 26 = .ok (.iload_n 2, 1) := by decide +kernel
theorem dX12_slips_27 : decode cX12_slips 27 = .ok (.ifCond .ne 6, 3) := by decide +kernel
theorem dX12_slips_30 : decode cX12_slips 30 = .ok (.bipush (-3), 2) := by decide +kernel
theorem dX12_slips_32 : decode cX12_slips 32 = .ok (.ireturn, 1) := by decide +kernel
theorem dX12_slips_33 : decode cX12_slips 33 = .ok (.iload_n 2, 1) := by decide +kernel
theorem dX12_slips_34 : decode cX12_slips 34 = .ok (.invokestatic 214, 3) := by decide +kernel
theorem dX12_slips_37 : decode cX12_slips 37 = .ok (.istore_n 3, 1) := by decide +kernel
theorem dX12_slips_38 : decode cX12_slips 38 = .ok (.lconst 0, 1) := by decide +kernel
theorem dX12_slips_39 : decode cX12_slips 39 = .ok (.lstore 4, 2) := by decide +kernel
theorem dX12_slips_41 : decode cX12_slips 41 = .ok (.iconst 0, 1) := by decide +kernel
theorem dX12_slips_42 : decode cX12_slips 42 = .ok (.istore 6, 2) := by decide +kernel
theorem dX12_slips_44 : decode cX12_slips 44 = .ok (.iload 6, 2) := by decide +kernel
theorem dX12_slips_46 : decode cX12_slips 46 = .ok (.iload_n 2, 1) := by decide +kernel
theorem dX12_slips_47 : decode cX12_slips 47 = .ok (.if_icmp .gt 70, 3) := by decide +kernel
theorem dX12_slips_50 : decode cX12_slips 50 = .ok (.iload 6, 2) := by decide +kernel
theorem dX12_slips_52 : decode cX12_slips 52 = .ok (.iload_n 2, 1) := by decide +kernel
theorem dX12_slips_53 : decode cX12_slips 53 = .ok (.iconst (-1), 1) := by decide +kernel
theorem dX12_slips_54 : decode cX12_slips 54 = .ok (.ixor, 1) := by decide +kernel
theorem dX12_slips_55 : decode cX12_slips 55 = .ok (.iand, 1) := by decide +kernel
theorem dX12_slips_56 : decode cX12_slips 56 = .ok (.ifCond .ne 55, 3) := by decide +kernel
theorem dX12_slips_59 : decode cX12_slips 59 = .ok (.aload_n 0, 1) := by decide +kernel
theorem dX12_slips_60 : decode cX12_slips 60 = .ok (.aload_n 0, 1) := by decide +kernel
theorem dX12_slips_61 : decode cX12_slips 61 = .ok (.getfield 9, 3) := by decide +kernel
theorem dX12_slips_64 : decode cX12_slips 64 = .ok (.iload_n 2, 1) := by decide +kernel
theorem dX12_slips_65 : decode cX12_slips 65 = .ok (.iload 6, 2) := by decide +kernel
theorem dX12_slips_67 : decode cX12_slips 67 = .ok (.iconst (-1), 1) := by decide +kernel
theorem dX12_slips_68 : decode cX12_slips 68 = .ok (.ixor, 1) := by decide +kernel
theorem dX12_slips_69 : decode cX12_slips 69 = .ok (.iand, 1) := by decide +kernel
theorem dX12_slips_70 : decode cX12_slips 70 = .ok (.invokevirtual 265, 3) := by decide +kernel
theorem dX12_slips_73 : decode cX12_slips 73 = .ok (.ifCond .ne 6, 3) := by decide +kernel
theorem dX12_slips_76 : decode cX12_slips 76 = .ok (.goto 35, 3) := by decide +kernel
theorem dX12_slips_79 : decode cX12_slips 79 = .ok (.iload 6, 2) := by decide +kernel
theorem dX12_slips_81 : decode cX12_slips 81 = .ok (.invokestatic 214, 3) := by decide +kernel
theorem dX12_slips_84 : decode cX12_slips 84 = .ok (.istore 7, 2) := by decide +kernel
theorem dX12_slips_86 : decode cX12_slips 86 = .ok (.lload 4, 2) := by decide +kernel
theorem dX12_slips_88 : decode cX12_slips 88 = .ok (.iload_n 1, 1) := by decide +kernel
theorem dX12_slips_89 : decode cX12_slips 89 = .ok (.i2l, 1) := by decide +kernel
theorem dX12_slips_90 : decode cX12_slips 90 = .ok (.iload 7, 2) := by decide +kernel
theorem dX12_slips_92 : decode cX12_slips 92 = .ok (.invokestatic 372, 3) := by decide +kernel
theorem dX12_slips_95 : decode cX12_slips 95 = .ok (.bipush 10, 2) := by decide +kernel
theorem dX12_slips_97 : decode cX12_slips 97 = .ok (.iload_n 1, 1) := by decide +kernel
theorem dX12_slips_98 : decode cX12_slips 98 = .ok (.isub, 1) := by decide +kernel
theorem dX12_slips_99 : decode cX12_slips 99 = .ok (.i2l, 1) := by decide +kernel
theorem dX12_slips_100 : decode cX12_slips 100 = .ok (.iload_n 3, 1) := by decide +kernel
theorem dX12_slips_101 : decode cX12_slips 101 = .ok (.iload 7, 2) := by decide +kernel
theorem dX12_slips_103 : decode cX12_slips 103 = .ok (.isub, 1) := by decide +kernel
theorem dX12_slips_104 : decode cX12_slips 104 = .ok (.invokestatic 372, 3) := by decide +kernel
theorem dX12_slips_107 : decode cX12_slips 107 = .ok (.lmul, 1) := by decide +kernel
theorem dX12_slips_108 : decode cX12_slips 108 = .ok (.ladd, 1) := by decide +kernel
theorem dX12_slips_109 : decode cX12_slips 109 = .ok (.lstore 4, 2) := by decide +kernel
theorem dX12_slips_111 : decode cX12_slips 111 = .ok (.iinc 6 1, 3) := by decide +kernel
theorem dX12_slips_114 : decode cX12_slips 114 = .ok (.goto (-70), 3) := by decide +kernel
theorem dX12_slips_117 : decode cX12_slips 117 = .ok (.lload 4, 2) := by decide +kernel
theorem dX12_slips_119 : decode cX12_slips 119 = .ok (.ldc2_w 376, 3) := by decide +kernel
theorem dX12_slips_122 : decode cX12_slips 122 = .ok (.iload_n 3, 1) := by decide +kernel
theorem dX12_slips_123 : decode cX12_slips 123 = .ok (.invokestatic 372, 3) := by decide +kernel
theorem dX12_slips_126 : decode cX12_slips 126 = .ok (.invokestatic 368, 3) := by decide +kernel
theorem dX12_slips_129 : decode cX12_slips 129 = .ok (.lstore 6, 2) := by decide +kernel
theorem dX12_slips_131 : decode cX12_slips 131 = .ok (.aload_n 0, 1) := by decide +kernel
theorem dX12_slips_132 : decode cX12_slips 132 = .ok (.iconst 0, 1) := by decide +kernel
theorem dX12_slips_133 : decode cX12_slips 133 = .ok (.putfield 92, 3) := by decide +kernel
theorem dX12_slips_136 : decode cX12_slips 136 = .ok (.aload_n 0, 1) := by decide +kernel
theorem dX12_slips_137 : decode cX12_slips 137 = .ok (.lload 4, 2) := by decide +kernel
theorem dX12_slips_139 : decode cX12_slips 139 = .ok (.lload 6, 2) := by decide +kernel
theorem dX12_slips_141 : decode cX12_slips 141 = .ok (.ldiv, 1) := by decide +kernel
theorem dX12_slips_142 : decode cX12_slips 142 = .ok (.invokevirtual 253, 3) := by decide +kernel
theorem dX12_slips_145 : decode cX12_slips 145 = .ok (.aload_n 0, 1) := by decide +kernel
theorem dX12_slips_146 : decode cX12_slips 146 = .ok (.ldc2_w 376, 3) := by decide +kernel
theorem dX12_slips_149 : decode cX12_slips 149 = .ok (.iload_n 3, 1) := by decide +kernel
theorem dX12_slips_150 : decode cX12_slips 150 = .ok (.invokestatic 372, 3) := by decide +kernel
theorem dX12_slips_153 : decode cX12_slips 153 = .ok (.lload 6, 2) := by decide +kernel
theorem dX12_slips_155 : decode cX12_slips 155 = .ok (.ldiv, 1) := by decide +kernel
theorem dX12_slips_156 : decode cX12_slips 156 = .ok (.invokevirtual 253, 3) := by decide +kernel
theorem dX12_slips_159 : decode cX12_slips 159 = .ok (.iconst 0, 1) := by decide +kernel
theorem dX12_slips_160 : decode cX12_slips 160 = .ok (.ireturn, 1) := by decide +kernel
theorem dX12_gets_0 : decode cX12_gets 0 = .ok (.iload_n 0, 1) := by decide +kernel
theorem dX12_gets_1 : decode cX12_gets 1 = .ok (.iload_n 1, 1) := by decide +kernel
theorem dX12_gets_2 : decode cX12_gets 2 = .ok (.if_icmp .le 7, 3) := by decide +kernel
theorem dX12_gets_5 : decode cX12_gets 5 = .ok (.iconst 0, 1) := by decide +kernel
theorem dX12_gets_6 : decode cX12_gets 6 = .ok (.goto 19, 3) := by decide +kernel
theorem dX12_gets_9 : decode cX12_gets 9 = .ok (.iload_n 2, 1) := by decide +kernel
theorem dX12_gets_10 : decode cX12_gets 10 = .ok (.iload_n 0, 1) := by decide +kernel
theorem dX12_gets_11 : decode cX12_gets 11 = .ok (.iload_n 1, 1) := by decide +kernel
theorem dX12_gets_12 : decode cX12_gets 12 = .ok (.if_icmp .ne 9, 3) := by decide +kernel
theorem dX12_gets_15 : decode cX12_gets 15 = .ok (.iload_n 0, 1) := by decide +kernel
theorem dX12_gets_16 : decode cX12_gets 16 = .ok (.iconst 2, 1) := by decide +kernel
theorem dX12_gets_17 : decode cX12_gets 17 = .ok (.idiv, 1) := by decide +kernel
theorem dX12_gets_18 : decode cX12_gets 18 = .ok (.goto 4, 3) := by decide +kernel
theorem dX12_gets_21 : decode cX12_gets 21 = .ok (.iload_n 0, 1) := by decide +kernel
theorem dX12_gets_22 : decode cX12_gets 22 = .ok (.invokestatic 223, 3) := by decide +kernel
theorem dX12_gets_25 : decode cX12_gets 25 = .ok (.ireturn, 1) := by decide +kernel
theorem dX12_isBest_0 : decode cX12_isBest 0 = .ok (.iconst 0, 1) := by decide +kernel
theorem dX12_isBest_1 : decode cX12_isBest 1 = .ok (.istore_n 3, 1) := by decide +kernel
theorem dX12_isBest_2 : decode cX12_isBest 2 = .ok (.iload_n 3, 1) := by decide +kernel
theorem dX12_isBest_3 : decode cX12_isBest 3 = .ok (.bipush 9, 2) := by decide +kernel
theorem dX12_isBest_5 : decode cX12_isBest 5 = .ok (.if_icmp .gt 26, 3) := by decide +kernel
theorem dX12_isBest_8 : decode cX12_isBest 8 = .ok (.iload_n 3, 1) := by decide +kernel
theorem dX12_isBest_9 : decode cX12_isBest 9 = .ok (.iload_n 1, 1) := by decide +kernel
theorem dX12_isBest_10 : decode cX12_isBest 10 = .ok (.iload_n 2, 1) := by decide +kernel
theorem dX12_isBest_11 : decode cX12_isBest 11 = .ok (.invokestatic 378, 3) := by decide +kernel
theorem dX12_isBest_14 : decode cX12_isBest 14 = .ok (.iload_n 0, 1) := by decide +kernel
theorem dX12_isBest_15 : decode cX12_isBest 15 = .ok (.iload_n 1, 1) := by decide +kernel
theorem dX12_isBest_16 : decode cX12_isBest 16 = .ok (.iload_n 2, 1) := by decide +kernel
theorem dX12_isBest_17 : decode cX12_isBest 17 = .ok (.invokestatic 378, 3) := by decide +kernel
theorem dX12_isBest_20 : decode cX12_isBest 20 = .ok (.if_icmp .le 5, 3) := by decide +kernel
theorem dX12_isBest_23 : decode cX12_isBest 23 = .ok (.iconst 0, 1) := by decide +kernel
theorem dX12_isBest_24 : decode cX12_isBest 24 = .ok (.ireturn, 1) := by decide +kernel
theorem dX12_isBest_25 : decode cX12_isBest 25 = .ok (.iinc 3 1, 3) := by decide +kernel
theorem dX12_isBest_28 : decode cX12_isBest 28 = .ok (.goto (-26), 3) := by decide +kernel
theorem dX12_isBest_31 : decode cX12_isBest 31 = .ok (.iconst 1, 1) := by decide +kernel
theorem dX12_isBest_32 : decode cX12_isBest 32 = .ok (.ireturn, 1) := by decide +kernel
theorem dX12_rests_0 : decode cX12_rests 0 = .ok (.aload_n 0, 1) := by decide +kernel
theorem dX12_rests_1 : decode cX12_rests 1 = .ok (.iconst 0, 1) := by decide +kernel
theorem dX12_rests_2 : decode cX12_rests 2 = .ok (.putfield 89, 3) := by decide +kernel
theorem dX12_rests_5 : decode cX12_rests 5 = .ok (.iload_n 1, 1) := by decide +kernel
theorem dX12_rests_6 : decode cX12_rests 6 = .ok (.iconst 0, 1) := by decide +kernel
theorem dX12_rests_7 : decode cX12_rests 7 = .ok (.bipush 20, 2) := by decide +kernel
theorem dX12_rests_9 : decode cX12_rests 9 = .ok (.invokestatic 98, 3) := by decide +kernel
theorem dX12_rests_12 : decode cX12_rests 12 = .ok (.ifCond .ne 5, 3) := by decide +kernel
theorem dX12_rests_15 : decode cX12_rests 15 = .ok (.iconst (-1), 1) := by decide +kernel
theorem dX12_rests_16 : decode cX12_rests 16 = .ok (.ireturn, 1) := by decide +kernel
theorem dX12_rests_17 : decode cX12_rests 17 = .ok (.iconst 0, 1) := by decide +kernel
theorem dX12_rests_18 : decode cX12_rests 18 = .ok (.istore_n 2, 1) := by decide +kernel
theorem dX12_rests_19 : decode cX12_rests 19 = .ok (.aload_n 0, 1) := by decide +kernel
theorem dX12_rests_20 : decode cX12_rests 20 = .ok (.iconst 0, 1) := by decide +kernel
theorem dX12_rests_21 : decode cX12_rests 21 = .ok (.putfield 92, 3) := by decide +kernel
theorem dX12_rests_24 : decode cX12_rests 24 = .ok (.iconst 0, 1) := by decide +kernel
theorem dX12_rests_25 : decode cX12_rests 25 = .ok (.istore_n 3, 1) := by decide +kernel
theorem dX12_rests_26 : decode cX12_rests 26 = .ok (.iload_n 3, 1) := by decide +kernel
theorem dX12_rests_27 : decode cX12_rests 27 = .ok (.bipush 9, 2) := by decide +kernel
theorem dX12_rests_29 : decode cX12_rests 29 = .ok (.if_icmp .gt 68, 3) := by decide +kernel
theorem dX12_rests_32 : decode cX12_rests 32 = .ok (.iconst 0, 1) := by decide +kernel
theorem dX12_rests_33 : decode cX12_rests 33 = .ok (.istore 4, 2) := by decide +kernel
theorem dX12_rests_35 : decode cX12_rests 35 = .ok (.iload 4, 2) := by decide +kernel
theorem dX12_rests_37 : decode cX12_rests 37 = .ok (.bipush 9, 2) := by decide +kernel
theorem dX12_rests_39 : decode cX12_rests 39 = .ok (.if_icmp .gt 52, 3) := by decide +kernel
theorem dX12_rests_42 : decode cX12_rests 42 = .ok (.iload_n 3, 1) := by decide +kernel
theorem dX12_rests_43 : decode cX12_rests 43 = .ok (.iload 4, 2) := by decide +kernel
theorem dX12_rests_45 : decode cX12_rests 45 = .ok (.iload_n 1, 1) := by decide +kernel
theorem dX12_rests_46 : decode cX12_rests 46 = .ok (.invokestatic 382, 3) := by decide +kernel
theorem dX12_rests_49 : decode cX12_rests 49 = .ok (.ifCond .eq 36, 3) := by decide +kernel
theorem dX12_rests_52 : decode cX12_rests 52 = .ok (.iload 4, 2) := by decide +kernel
theorem dX12_rests_54 : decode cX12_rests 54 = .ok (.iload_n 3, 1) := by decide +kernel
theorem dX12_rests_55 : decode cX12_rests 55 = .ok (.iload_n 1, 1) := by decide +kernel
theorem dX12_rests_56 : decode cX12_rests 56 = .ok (.invokestatic 382, 3) := by decide +kernel
theorem dX12_rests_59 : decode cX12_rests 59 = .ok (.ifCond .ne 6, 3) := by decide +kernel
theorem dX12_rests_62 : decode cX12_rests 62 = .ok (.goto 23, 3) := by decide +kernel
theorem dX12_rests_65 : decode cX12_rests 65 = .ok (.iload_n 2, 1) := by decide +kernel
theorem dX12_rests_66 : decode cX12_rests 66 = .ok (.ifCond .ne 16, 3) := by decide +kernel
theorem dX12_rests_69 : decode cX12_rests 69 = .ok (.aload_n 0, 1) := by decide +kernel
theorem dX12_rests_70 : decode cX12_rests 70 = .ok (.iload_n 3, 1) := by decide +kernel
theorem dX12_rests_71 : decode cX12_rests 71 = .ok (.i2l, 1) := by decide +kernel
theorem dX12_rests_72 : decode cX12_rests 72 = .ok (.invokevirtual 253, 3) := by decide +kernel
theorem dX12_rests_75 : decode cX12_rests 75 = .ok (.aload_n 0, 1) := by decide +kernel
theorem dX12_rests_76 : decode cX12_rests 76 = .ok (.iload 4, 2) := by decide +kernel
theorem dX12_rests_78 : decode cX12_rests 78 = .ok (.i2l, 1) := by decide +kernel
theorem dX12_rests_79 : decode cX12_rests 79 = .ok (.invokevirtual 253, 3) := by decide +kernel
theorem dX12_rests_82 : decode cX12_rests 82 = .ok (.iinc 2 1, 3) := by decide +kernel
theorem dX12_rests_85 : decode cX12_rests 85 = .ok (.iinc 4 1, 3) := by decide +kernel
theorem dX12_rests_88 : decode cX12_rests 88 = .ok (.goto (-53), 3) := by decide +kernel
theorem dX12_rests_91 : decode cX12_rests 91 = .ok (.iinc 3 1, 3) := by decide +kernel
theorem dX12_rests_94 : decode cX12_rests 94 = .ok (.goto (-68), 3) := by decide +kernel
theorem dX12_rests_97 : decode cX12_rests 97 = .ok (.iload_n 2, 1) := by decide +kernel
theorem dX12_rests_98 : decode cX12_rests 98 = .ok (.ireturn, 1) := by decide +kernel
theorem dX12_law_0 : decode cX12_law 0 = .ok (.aload_n 0, 1) := by decide +kernel
theorem dX12_law_1 : decode cX12_law 1 = .ok (.iconst 0, 1) := by decide +kernel
theorem dX12_law_2 : decode cX12_law 2 = .ok (.putfield 89, 3) := by decide +kernel
theorem dX12_law_5 : decode cX12_law 5 = .ok (.aload_n 0, 1) := by decide +kernel
theorem dX12_law_6 : decode cX12_law 6 = .ok (.getfield 105, 3) := by decide +kernel
theorem dX12_law_9 : decode cX12_law 9 = .ok (.istore_n 1, 1) := by decide +kernel
theorem dX12_law_10 : decode cX12_law 10 = .ok (.aload_n 0, 1) := by decide +kernel
theorem dX12_law_11 : decode cX12_law 11 = .ok (.invokevirtual 195, 3) := by decide +kernel
theorem dX12_law_14 : decode cX12_law 14 = .ok (.ifCond .ne 12, 3) := by decide +kernel
theorem dX12_law_17 : decode cX12_law 17 = .ok (.sipush (-10000), 3) := by decide +kernel
theorem dX12_law_20 : decode cX12_law 20 = .ok (.aload_n 0, 1) := by decide +kernel
theorem dX12_law_21 : decode cX12_law 21 = .ok (.getfield 120, 3) := by decide +kernel
theorem dX12_law_24 : decode cX12_law 24 = .ok (.isub, 1) := by decide +kernel
theorem dX12_law_25 : decode cX12_law 25 = .ok (.ireturn, 1) := by decide +kernel
theorem dX12_law_26 : decode cX12_law 26 = .ok (.aload_n 0, 1) := by decide +kernel
theorem dX12_law_27 : decode cX12_law 27 = .ok (.aload_n 0, 1) := by decide +kernel
theorem dX12_law_28 : decode cX12_law 28 = .ok (.getfield 9, 3) := by decide +kernel
theorem dX12_law_31 : decode cX12_law 31 = .ok (.invokevirtual 244, 3) := by decide +kernel
theorem dX12_law_34 : decode cX12_law 34 = .ok (.ifCond .ne 7, 3) := by decide +kernel
theorem dX12_law_37 : decode cX12_law 37 = .ok (.sipush (-20000), 3) := by decide +kernel
theorem dX12_law_40 : decode cX12_law 40 = .ok (.ireturn, 1) := by decide +kernel
theorem dX12_law_41 : decode cX12_law 41 = .ok (.aload_n 0, 1) := by decide +kernel
theorem dX12_law_42 : decode cX12_law 42 = .ok (.invokevirtual 313, 3) := by decide +kernel
theorem dX12_law_45 : decode cX12_law 45 = .ok (.istore_n 2, 1) := by decide +kernel
theorem dX12_law_46 : decode cX12_law 46 = .ok (.aload_n 0, 1) := by decide +kernel
theorem dX12_law_47 : decode cX12_law 47 = .ok (.getfield 40, 3) := by decide +kernel
theorem dX12_law_50 : decode cX12_law 50 = .ok (.astore_n 3, 1) := by decide +kernel
theorem dX12_law_51 : decode cX12_law 51 = .ok (.aload_n 0, 1) := by decide +kernel
theorem dX12_law_52 : decode cX12_law 52 = .ok (.getfield 198, 3) := by decide +kernel
theorem dX12_law_55 : decode cX12_law 55 = .ok (.istore 4, 2) := by decide +kernel
theorem dX12_law_57 : decode cX12_law 57 = .ok (.aload_n 0, 1) := by decide +kernel
theorem dX12_law_58 : decode cX12_law 58 = .ok (.aload_n 0, 1) := by decide +kernel
theorem dX12_law_59 : decode cX12_law 59 = .ok (.getfield 43, 3) := by decide +kernel
theorem dX12_law_62 : decode cX12_law 62 = .ok (.putfield 40, 3) := by decide +kernel
theorem dX12_law_65 : decode cX12_law 65 = .ok (.aload_n 0, 1) := by decide +kernel
theorem dX12_law_66 : decode cX12_law 66 = .ok (.iload_n 1, 1) := by decide +kernel
theorem dX12_law_67 : decode cX12_law 67 = .ok (.putfield 198, 3) := by decide +kernel
theorem dX12_law_70 : decode cX12_law 70 = .ok (.iconst 0, 1) := by decide +kernel
theorem dX12_law_71 : decode cX12_law 71 = .ok (.istore 5, 2) := by decide +kernel
theorem dX12_law_73 : decode cX12_law 73 = .ok (.iload 5, 2) := by decide +kernel
theorem dX12_law_75 : decode cX12_law 75 = .ok (.iload_n 1, 1) := by decide +kernel
theorem dX12_law_76 : decode cX12_law 76 = .ok (.if_icmp .ge 23, 3) := by decide +kernel
theorem dX12_law_79 : decode cX12_law 79 = .ok (.aload_n 0, 1) := by decide +kernel
theorem dX12_law_80 : decode cX12_law 80 = .ok (.getfield 40, 3) := by decide +kernel
theorem dX12_law_83 : decode cX12_law 83 = .ok (.iload 5, 2) := by decide +kernel
theorem dX12_law_85 : decode cX12_law 85 = .ok (.aload_n 0, 1) := by decide +kernel
theorem dX12_law_86 : decode cX12_law 86 = .ok (.getfield 29, 3) := by decide +kernel
theorem dX12_law_89 : decode cX12_law 89 = .ok (.iload 5, 2) := by decide +kernel
theorem dX12_law_91 : decode cX12_law 91 = .ok (.baload, 1) := by decide +kernel
theorem dX12_law_92 : decode cX12_law 92 = .ok (.bastore, 1) := by decide +kernel
theorem dX12_law_93 : decode cX12_law 93 = .ok (.iinc 5 1, 3) := by decide +kernel
theorem dX12_law_96 : decode cX12_law 96 = .ok (.goto (-23), 3) := by decide +kernel
theorem dX12_law_99 : decode cX12_law 99 = .ok (.aload_n 0, 1) := by decide +kernel
theorem dX12_law_100 : decode cX12_law 100 = .ok (.invokevirtual 313, 3) := by decide +kernel
theorem dX12_law_103 : decode cX12_law 103 = .ok (.istore 5, 2) := by decide +kernel
theorem dX12_law_105 : decode cX12_law 105 = .ok (.aload_n 0, 1) := by decide +kernel
theorem dX12_law_106 : decode cX12_law 106 = .ok (.aload_n 3, 1) := by decide +kernel
theorem dX12_law_107 : decode cX12_law 107 = .ok (.putfield 40, 3) := by decide +kernel
theorem dX12_law_110 : decode cX12_law 110 = .ok (.aload_n 0, 1) := by decide +kernel
theorem dX12_law_111 : decode cX12_law 111 = .ok (.iload 4, 2) := by decide +kernel
theorem dX12_law_113 : decode cX12_law 113 = .ok (.putfield 198, 3) := by decide +kernel
theorem dX12_law_116 : decode cX12_law 116 = .ok (.aload_n 0, 1) := by decide +kernel
theorem dX12_law_117 : decode cX12_law 117 = .ok (.iconst 0, 1) := by decide +kernel
theorem dX12_law_118 : decode cX12_law 118 = .ok (.putfield 92, 3) := by decide +kernel
theorem dX12_law_121 : decode cX12_law 121 = .ok (.aload_n 0, 1) := by decide +kernel
theorem dX12_law_122 : decode cX12_law 122 = .ok (.iload 5, 2) := by decide +kernel
theorem dX12_law_124 : decode cX12_law 124 = .ok (.i2l, 1) := by decide +kernel
theorem dX12_law_125 : decode cX12_law 125 = .ok (.invokevirtual 253, 3) := by decide +kernel
theorem dX12_law_128 : decode cX12_law 128 = .ok (.aload_n 0, 1) := by decide +kernel
theorem dX12_law_129 : decode cX12_law 129 = .ok (.iload_n 2, 1) := by decide +kernel
theorem dX12_law_130 : decode cX12_law 130 = .ok (.i2l, 1) := by decide +kernel
theorem dX12_law_131 : decode cX12_law 131 = .ok (.invokevirtual 253, 3) := by decide +kernel
theorem dX12_law_134 : decode cX12_law 134 = .ok (.iload 5, 2) := by decide +kernel
theorem dX12_law_136 : decode cX12_law 136 = .ok (.iload_n 2, 1) := by decide +kernel
theorem dX12_law_137 : decode cX12_law 137 = .ok (.isub, 1) := by decide +kernel
theorem dX12_law_138 : decode cX12_law 138 = .ok (.ireturn, 1) := by decide +kernel
theorem dX12_draw_0 : decode cX12_draw 0 = .ok (.aload_n 0, 1) := by decide +kernel
theorem dX12_draw_1 : decode cX12_draw 1 = .ok (.aload_n 0, 1) := by decide +kernel
theorem dX12_draw_2 : decode cX12_draw 2 = .ok (.getfield 385, 3) := by decide +kernel
theorem dX12_draw_5 : decode cX12_draw 5 = .ok (.ldc_w 388, 3) := by decide +kernel
theorem dX12_draw_8 : decode cX12_draw 8 = .ok (.imul, 1) := by decide +kernel
theorem dX12_draw_9 : decode cX12_draw 9 = .ok (.sipush 12345, 3) := by decide +kernel
theorem dX12_draw_12 : decode cX12_draw 12 = .ok (.iadd, 1) := by decide +kernel
theorem dX12_draw_13 : decode cX12_draw 13 = .ok (.putfield 385, 3) := by decide +kernel
theorem dX12_draw_16 : decode cX12_draw 16 = .ok (.aload_n 0, 1) := by decide +kernel
theorem dX12_draw_17 : decode cX12_draw 17 = .ok (.getfield 385, 3) := by decide +kernel
theorem dX12_draw_20 : decode cX12_draw 20 = .ok (.bipush 16, 2) := by decide +kernel
theorem dX12_draw_22 : decode cX12_draw 22 = .ok (.iushr, 1) := by decide +kernel
theorem dX12_draw_23 : decode cX12_draw 23 = .ok (.iload_n 1, 1) := by decide +kernel
theorem dX12_draw_24 : decode cX12_draw 24 = .ok (.irem, 1) := by decide +kernel
theorem dX12_draw_25 : decode cX12_draw 25 = .ok (.ireturn, 1) := by decide +kernel
theorem dX12_years_0 : decode cX12_years 0 = .ok (.aload_n 0, 1) := by decide +kernel
theorem dX12_years_1 : decode cX12_years 1 = .ok (.iconst 0, 1) := by decide +kernel
theorem dX12_years_2 : decode cX12_years 2 = .ok (.putfield 89, 3) := by decide +kernel
theorem dX12_years_5 : decode cX12_years 5 = .ok (.iload_n 2, 1) := by decide +kernel
theorem dX12_years_6 : decode cX12_years 6 = .ok (.iconst 1, 1) := by decide +kernel
theorem dX12_years_7 : decode cX12_years 7 = .ok (.bipush 60, 2) := by decide +kernel
theorem dX12_years_9 : decode cX12_years 9 = .ok (.invokestatic 98, 3) := by decide +kernel
theorem dX12_years_12 : decode cX12_years 12 = .ok (.ifCond .ne 5, 3) := by decide +kernel
theorem dX12_years_15 : decode cX12_years 15 = .ok (.iconst (-1), 1) := by decide +kernel
theorem dX12_years_16 : decode cX12_years 16 = .ok (.ireturn, 1) := by decide +kernel
theorem dX12_years_17 : decode cX12_years 17 = .ok (.aload_n 0, 1) := by decide +kernel
theorem dX12_years_18 : decode cX12_years 18 = .ok (.iload_n 1, 1) := by decide +kernel
theorem dX12_years_19 : decode cX12_years 19 = .ok (.putfield 385, 3) := by decide +kernel
theorem dX12_years_22 : decode cX12_years 22 = .ok (.aload_n 0, 1) := by decide +kernel
theorem dX12_years_23 : decode cX12_years 23 = .ok (.getfield 9, 3) := by decide +kernel
theorem dX12_years_26 : decode cX12_years 26 = .ok (.aload_n 0, 1) := by decide +kernel
theorem dX12_years_27 : decode cX12_years 27 = .ok (.getfield 55, 3) := by decide +kernel
theorem dX12_years_30 : decode cX12_years 30 = .ok (.iconst 0, 1) := by decide +kernel
theorem dX12_years_31 : decode cX12_years 31 = .ok (.invokestatic 257, 3) := by decide +kernel
theorem dX12_years_34 : decode cX12_years 34 = .ok (.iconst 0, 1) := by decide +kernel
theorem dX12_years_35 : decode cX12_years 35 = .ok (.istore_n 3, 1) := by decide +kernel
theorem dX12_years_36 : decode cX12_years 36 = .ok (.iload_n 3, 1) := by decide +kernel
theorem dX12_years_37 : decode cX12_years 37 = .ok (.iload_n 2, 1) := by decide +kernel
theorem dX12_years_38 : decode cX12_years 38 = .ok (.if_icmp .ge 186, 3) := by decide +kernel
theorem dX12_years_41 : decode cX12_years 41 = .ok (.aload_n 0, 1) := by decide +kernel
theorem dX12_years_42 : decode cX12_years 42 = .ok (.iconst 4, 1) := by decide +kernel
theorem dX12_years_43 : decode cX12_years 43 = .ok (.invokevirtual 389, 3) := by decide +kernel
theorem dX12_years_46 : decode cX12_years 46 = .ok (.istore 4, 2) := by decide +kernel
theorem dX12_years_48 : decode cX12_years 48 = .ok (.iload 4, 2) := by decide +kernel
theorem dX12_years_50 : decode cX12_years 50 = .ok (.ifCond .ne 23, 3) := by decide +kernel
theorem dX12_years_53 : decode cX12_years 53 = .ok (.aload_n 0, 1) := by decide +kernel
theorem dX12_years_54 : decode cX12_years 54 = .ok (.aload_n 0, 1) := by decide +kernel
theorem dX12_years_55 : decode cX12_years 55 = .ok (.getfield 55, 3) := by decide +kernel
theorem dX12_years_58 : decode cX12_years 58 = .ok (.invokevirtual 269, 3) := by decide +kernel
theorem dX12_years_61 : decode cX12_years 61 = .ok (.ifCond .ne 12, 3) := by decide +kernel
theorem dX12_years_64 : decode cX12_years 64 = .ok (.aload_n 0, 1) := by decide +kernel
theorem dX12_years_65 : decode cX12_years 65 = .ok (.aload_n 0, 1) := by decide +kernel
theorem dX12_years_66 : decode cX12_years 66 = .ok (.getfield 55, 3) := by decide +kernel
theorem dX12_years_69 : decode cX12_years 69 = .ok (.invokevirtual 276, 3) := by decide +kernel
theorem dX12_years_72 : decode cX12_years 72 = .ok (.pop, 1) := by decide +kernel
theorem dX12_years_73 : decode cX12_years 73 = .ok (.iload 4, 2) := by decide +kernel
theorem dX12_years_75 : decode cX12_years 75 = .ok (.iconst 1, 1) := by decide +kernel
theorem dX12_years_76 : decode cX12_years 76 = .ok (.if_icmp .ne 72, 3) := by decide +kernel
theorem dX12_years_79 : decode cX12_years 79 = .ok (.aload_n 0, 1) := by decide +kernel
theorem dX12_years_80 : decode cX12_years 80 = .ok (.getfield 95, 3) := by decide +kernel
theorem dX12_years_83 : decode cX12_years 83 = .ok (.ifCond .le 65, 3) := by decide +kernel
theorem dX12_years_86 : decode cX12_years 86 = .ok (.aload_n 0, 1) := by decide +kernel
theorem dX12_years_87 : decode cX12_years 87 = .ok (.aload_n 0, 1) := by decide +kernel
theorem dX12_years_88 : decode cX12_years 88 = .ok (.getfield 95, 3) := by decide +kernel
theorem dX12_years_91 : decode cX12_years 91 = .ok (.invokevirtual 389, 3) := by decide +kernel
theorem dX12_years_94 : decode cX12_years 94 = .ok (.istore 5, 2) := by decide +kernel
theorem dX12_years_96 : decode cX12_years 96 = .ok (.aload_n 0, 1) := by decide +kernel
theorem dX12_years_97 : decode cX12_years 97 = .ok (.getfield 55, 3) := by decide +kernel
theorem dX12_years_100 : decode cX12_years 100 = .ok (.bipush 8, 2) := by decide +kernel
theorem dX12_years_102 : decode cX12_years 102 = .ok (.iload 5, 2) := by decide +kernel
theorem dX12_years_104 : decode cX12_years 104 = .ok (.iadd, 1) := by decide +kernel
theorem dX12_years_105 : decode cX12_years 105 = .ok (.iaload, 1) := by decide +kernel
theorem dX12_years_106 : decode cX12_years 106 = .ok (.iconst 1, 1) := by decide +kernel
theorem dX12_years_107 : decode cX12_years 107 = .ok (.if_icmp .ne 17, 3) := by decide +kernel
theorem dX12_years_110 : decode cX12_years 110 = .ok (.aload_n 0, 1) := by decide +kernel
theorem dX12_years_111 : decode cX12_years 111 = .ok (.getfield 55, 3) := by decide +kernel
theorem dX12_years_114 : decode cX12_years 114 = .ok (.bipush 8, 2) := by decide +kernel
theorem dX12_years_116 : decode cX12_years 116 = .ok (.iload 5, 2) := by decide +kernel
theorem dX12_years_118 : decode cX12_years 118 = .ok (.iadd, 1) := by decide +kernel
theorem dX12_years_119 : decode cX12_years 119 = .ok (.iconst 0, 1) := by decide +kernel
theorem dX12_years_120 : decode cX12_years 120 = .ok (.iastore, 1) := by decide +kernel
theorem dX12_years_121 : decode cX12_years 121 = .ok (.goto 27, 3) := by decide +kernel
theorem dX12_years_124 : decode cX12_years 124 = .ok (.aload_n 0, 1) := by decide +kernel
theorem dX12_years_125 : decode cX12_years 125 = .ok (.aload_n 0, 1) := by decide +kernel
theorem dX12_years_126 : decode cX12_years 126 = .ok (.getfield 55, 3) := by decide +kernel
theorem dX12_years_129 : decode cX12_years 129 = .ok (.iload 5, 2) := by decide +kernel
theorem dX12_years_131 : decode cX12_years 131 = .ok (.invokevirtual 279, 3) := by decide +kernel
theorem dX12_years_134 : decode cX12_years 134 = .ok (.ifCond .ne 14, 3) := by decide +kernel
theorem dX12_years_137 : decode cX12_years 137 = .ok (.aload_n 0, 1) := by decide +kernel
theorem dX12_years_138 : decode cX12_years 138 = .ok (.getfield 55, 3) := by decide +kernel
theorem dX12_years_141 : decode cX12_years 141 = .ok (.bipush 8, 2) := by decide +kernel
theorem dX12_years_143 : decode cX12_years 143 = .ok (.iload 5, 2) := by decide +kernel
theorem dX12_years_145 : decode cX12_years 145 = .ok (.iadd, 1) := by decide +kernel
theorem dX12_years_146 : decode cX12_years 146 = .ok (.iconst 1, 1) := by decide +kernel
theorem dX12_years_147 : decode cX12_years 147 = .ok (.iastore, 1) := by decide +kernel
theorem dX12_years_148 : decode cX12_years 148 = .ok (.iload 4, 2) := by decide +kernel
theorem dX12_years_150 : decode cX12_years 150 = .ok (.iconst 2, 1) := by decide +kernel
theorem dX12_years_151 : decode cX12_years 151 = .ok (.if_icmp .ne 43, 3) := by decide +kernel
theorem dX12_years_154 : decode cX12_years 154 = .ok (.aload_n 0, 1) := by decide +kernel
theorem dX12_years_155 : decode cX12_years 155 = .ok (.getfield 102, 3) := by decide +kernel
theorem dX12_years_158 : decode cX12_years 158 = .ok (.ifCond .le 36, 3) := by decide +kernel
theorem dX12_years_161 : decode cX12_years 161 = .ok (.aload_n 0, 1) := by decide +kernel
theorem dX12_years_162 : decode cX12_years 162 = .ok (.aload_n 0, 1) := by decide +kernel
theorem dX12_years_163 : decode cX12_years 163 = .ok (.getfield 102, 3) := by decide +kernel
theorem dX12_years_166 : decode cX12_years 166 = .ok (.invokevirtual 389, 3) := by decide +kernel
theorem dX12_years_169 : decode cX12_years 169 = .ok (.istore 5, 2) := by decide +kernel
theorem dX12_years_171 : decode cX12_years 171 = .ok (.aload_n 0, 1) := by decide +kernel
theorem dX12_years_172 : decode cX12_years 172 = .ok (.aload_n 0, 1) := by decide +kernel
theorem dX12_years_173 : decode cX12_years 173 = .ok (.getfield 55, 3) := by decide +kernel
theorem dX12_years_176 : decode cX12_years 176 = .ok (.iload 5, 2) := by decide +kernel
theorem dX12_years_178 : decode cX12_years 178 = .ok (.invokevirtual 300, 3) := by decide +kernel
theorem dX12_years_181 : decode cX12_years 181 = .ok (.ifCond .ne 13, 3) := by decide +kernel
theorem dX12_years_184 : decode cX12_years 184 = .ok (.aload_n 0, 1) := by decide +kernel
theorem dX12_years_185 : decode cX12_years 185 = .ok (.aload_n 0, 1) := by decide +kernel
theorem dX12_years_186 : decode cX12_years 186 = .ok (.getfield 55, 3) := by decide +kernel
theorem dX12_years_189 : decode cX12_years 189 = .ok (.iload 5, 2) := by decide +kernel
theorem dX12_years_191 : decode cX12_years 191 = .ok (.invokevirtual 303, 3) := by decide +kernel
theorem dX12_years_194 : decode cX12_years 194 = .ok (.iload 4, 2) := by decide +kernel
theorem dX12_years_196 : decode cX12_years 196 = .ok (.iconst 3, 1) := by decide +kernel
theorem dX12_years_197 : decode cX12_years 197 = .ok (.if_icmp .ne 21, 3) := by decide +kernel
theorem dX12_years_200 : decode cX12_years 200 = .ok (.aload_n 0, 1) := by decide +kernel
theorem dX12_years_201 : decode cX12_years 201 = .ok (.getfield 55, 3) := by decide +kernel
theorem dX12_years_204 : decode cX12_years 204 = .ok (.bipush 26, 2) := by decide +kernel
theorem dX12_years_206 : decode cX12_years 206 = .ok (.aload_n 0, 1) := by decide +kernel
theorem dX12_years_207 : decode cX12_years 207 = .ok (.getfield 55, 3) := by decide +kernel
theorem dX12_years_210 : decode cX12_years 210 = .ok (.bipush 26, 2) := by decide +kernel
theorem dX12_years_212 : decode cX12_years 212 = .ok (.iaload, 1) := by decide +kernel
theorem dX12_years_213 : decode cX12_years 213 = .ok (.iconst 1, 1) := by decide +kernel
theorem dX12_years_214 : decode cX12_years 214 = .ok (.iadd, 1) := by decide +kernel
theorem dX12_years_215 : decode cX12_years 215 = .ok (.iconst 4, 1) := by decide +kernel
theorem dX12_years_216 : decode cX12_years 216 = .ok (.irem, 1) := by decide +kernel
theorem dX12_years_217 : decode cX12_years 217 = .ok (.iastore, 1) := by decide +kernel
theorem dX12_years_218 : decode cX12_years 218 = .ok (.iinc 3 1, 3) := by decide +kernel
theorem dX12_years_221 : decode cX12_years 221 = .ok (.goto (-185), 3) := by decide +kernel
theorem dX12_years_224 : decode cX12_years 224 = .ok (.aload_n 0, 1) := by decide +kernel
theorem dX12_years_225 : decode cX12_years 225 = .ok (.iconst 0, 1) := by decide +kernel
theorem dX12_years_226 : decode cX12_years 226 = .ok (.putfield 92, 3) := by decide +kernel
theorem dX12_years_229 : decode cX12_years 229 = .ok (.aload_n 0, 1) := by decide +kernel
theorem dX12_years_230 : decode cX12_years 230 = .ok (.aload_n 0, 1) := by decide +kernel
theorem dX12_years_231 : decode cX12_years 231 = .ok (.getfield 55, 3) := by decide +kernel
theorem dX12_years_234 : decode cX12_years 234 = .ok (.bipush 24, 2) := by decide +kernel
theorem dX12_years_236 : decode cX12_years 236 = .ok (.iaload, 1) := by decide +kernel
theorem dX12_years_237 : decode cX12_years 237 = .ok (.i2l, 1) := by decide +kernel
theorem dX12_years_238 : decode cX12_years 238 = .ok (.invokevirtual 253, 3) := by decide +kernel
theorem dX12_years_241 : decode cX12_years 241 = .ok (.aload_n 0, 1) := by decide +kernel
theorem dX12_years_242 : decode cX12_years 242 = .ok (.aload_n 0, 1) := by decide +kernel
theorem dX12_years_243 : decode cX12_years 243 = .ok (.getfield 55, 3) := by decide +kernel
theorem dX12_years_246 : decode cX12_years 246 = .ok (.bipush 25, 2) := by decide +kernel
theorem dX12_years_248 : decode cX12_years 248 = .ok (.iaload, 1) := by decide +kernel
theorem dX12_years_249 : decode cX12_years 249 = .ok (.i2l, 1) := by decide +kernel
theorem dX12_years_250 : decode cX12_years 250 = .ok (.invokevirtual 253, 3) := by decide +kernel
theorem dX12_years_253 : decode cX12_years 253 = .ok (.aload_n 0, 1) := by decide +kernel
theorem dX12_years_254 : decode cX12_years 254 = .ok (.getfield 55, 3) := by decide +kernel
theorem dX12_years_257 : decode cX12_years 257 = .ok (.bipush 28, 2) := by decide +kernel
theorem dX12_years_259 : decode cX12_years 259 = .ok (.iaload, 1) := by decide +kernel
theorem dX12_years_260 : decode cX12_years 260 = .ok (.aload_n 0, 1) := by decide +kernel
theorem dX12_years_261 : decode cX12_years 261 = .ok (.getfield 9, 3) := by decide +kernel
theorem dX12_years_264 : decode cX12_years 264 = .ok (.bipush 28, 2) := by decide +kernel
theorem dX12_years_266 : decode cX12_years 266 = .ok (.iaload, 1) := by decide +kernel
theorem dX12_years_267 : decode cX12_years 267 = .ok (.isub, 1) := by decide +kernel
theorem dX12_years_268 : decode cX12_years 268 = .ok (.ireturn, 1) := by decide +kernel
theorem dX12_keep_0 : decode cX12_keep 0 = .ok (.aload_n 0, 1) := by decide +kernel
theorem dX12_keep_1 : decode cX12_keep 1 = .ok (.iconst 0, 1) := by decide +kernel
theorem dX12_keep_2 : decode cX12_keep 2 = .ok (.putfield 89, 3) := by decide +kernel
theorem dX12_keep_5 : decode cX12_keep 5 = .ok (.iload_n 1, 1) := by decide +kernel
theorem dX12_keep_6 : decode cX12_keep 6 = .ok (.iconst 0, 1) := by decide +kernel
theorem dX12_keep_7 : decode cX12_keep 7 = .ok (.iconst 1, 1) := by decide +kernel
theorem dX12_keep_8 : decode cX12_keep 8 = .ok (.invokestatic 98, 3) := by decide +kernel
theorem dX12_keep_11 : decode cX12_keep 11 = .ok (.ifCond .ne 5, 3) := by decide +kernel
theorem dX12_keep_14 : decode cX12_keep 14 = .ok (.iconst 0, 1) := by decide +kernel
theorem dX12_keep_15 : decode cX12_keep 15 = .ok (.ireturn, 1) := by decide +kernel
theorem dX12_keep_16 : decode cX12_keep 16 = .ok (.aload_n 0, 1) := by decide +kernel
theorem dX12_keep_17 : decode cX12_keep 17 = .ok (.getfield 82, 3) := by decide +kernel
theorem dX12_keep_20 : decode cX12_keep 20 = .ok (.iload_n 1, 1) := by decide +kernel
theorem dX12_keep_21 : decode cX12_keep 21 = .ok (.iconst 1, 1) := by decide +kernel
theorem dX12_keep_22 : decode cX12_keep 22 = .ok (.bastore, 1) := by decide +kernel
theorem dX12_keep_23 : decode cX12_keep 23 = .ok (.aload_n 0, 1) := by decide +kernel
theorem dX12_keep_24 : decode cX12_keep 24 = .ok (.getfield 86, 3) := by decide +kernel
theorem dX12_keep_27 : decode cX12_keep 27 = .ok (.iload_n 1, 1) := by decide +kernel
theorem dX12_keep_28 : decode cX12_keep 28 = .ok (.aload_n 0, 1) := by decide +kernel
theorem dX12_keep_29 : decode cX12_keep 29 = .ok (.getfield 150, 3) := by decide +kernel
theorem dX12_keep_32 : decode cX12_keep 32 = .ok (.iastore, 1) := by decide +kernel
theorem dX12_keep_33 : decode cX12_keep 33 = .ok (.aload_n 0, 1) := by decide +kernel
theorem dX12_keep_34 : decode cX12_keep 34 = .ok (.getfield 9, 3) := by decide +kernel
theorem dX12_keep_37 : decode cX12_keep 37 = .ok (.aload_n 0, 1) := by decide +kernel
theorem dX12_keep_38 : decode cX12_keep 38 = .ok (.getfield 79, 3) := by decide +kernel
theorem dX12_keep_41 : decode cX12_keep 41 = .ok (.bipush 29, 2) := by decide +kernel
theorem dX12_keep_43 : decode cX12_keep 43 = .ok (.iload_n 1, 1) := by decide +kernel
theorem dX12_keep_44 : decode cX12_keep 44 = .ok (.imul, 1) := by decide +kernel
theorem dX12_keep_45 : decode cX12_keep 45 = .ok (.invokestatic 257, 3) := by decide +kernel
theorem dX12_keep_48 : decode cX12_keep 48 = .ok (.iconst 1, 1) := by decide +kernel
theorem dX12_keep_49 : decode cX12_keep 49 = .ok (.ireturn, 1) := by decide +kernel
theorem dX12_again_0 : decode cX12_again 0 = .ok (.aload_n 0, 1) := by decide +kernel
theorem dX12_again_1 : decode cX12_again 1 = .ok (.iconst 0, 1) := by decide +kernel
theorem dX12_again_2 : decode cX12_again 2 = .ok (.putfield 89, 3) := by decide +kernel
theorem dX12_again_5 : decode cX12_again 5 = .ok (.iload_n 1, 1) := by decide +kernel
theorem dX12_again_6 : decode cX12_again 6 = .ok (.iconst 0, 1) := by decide +kernel
theorem dX12_again_7 : decode cX12_again 7 = .ok (.iconst 1, 1) := by decide +kernel
theorem dX12_again_8 : decode cX12_again 8 = .ok (.invokestatic 98, 3) := by decide +kernel
theorem dX12_again_11 : decode cX12_again 11 = .ok (.ifCond .eq 25, 3) := by decide +kernel
theorem dX12_again_14 : decode cX12_again 14 = .ok (.aload_n 0, 1) := by decide +kernel
theorem dX12_again_15 : decode cX12_again 15 = .ok (.getfield 82, 3) := by decide +kernel
theorem dX12_again_18 : decode cX12_again 18 = .ok (.iload_n 1, 1) := by decide +kernel
theorem dX12_again_19 : decode cX12_again 19 = .ok (.baload, 1) := by decide +kernel
theorem dX12_again_20 : decode cX12_again 20 = .ok (.ifCond .eq 16, 3) := by decide +kernel
theorem dX12_again_23 : decode cX12_again 23 = .ok (.aload_n 0, 1) := by decide +kernel
theorem dX12_again_24 : decode cX12_again 24 = .ok (.getfield 86, 3) := by decide +kernel
theorem dX12_again_27 : decode cX12_again 27 = .ok (.iload_n 1, 1) := by decide +kernel
theorem dX12_again_28 : decode cX12_again 28 = .ok (.iaload, 1) := by decide +kernel
theorem dX12_again_29 : decode cX12_again 29 = .ok (.aload_n 0, 1) := by decide +kernel
theorem dX12_again_30 : decode cX12_again 30 = .ok (.getfield 150, 3) := by decide +kernel
theorem dX12_again_33 : decode cX12_again 33 = .ok (.if_icmp .eq 5, 3) := by decide +kernel
theorem dX12_again_36 : decode cX12_again 36 = .ok (.iconst 0, 1) := by decide +kernel
theorem dX12_again_37 : decode cX12_again 37 = .ok (.ireturn, 1) := by decide +kernel
theorem dX12_again_38 : decode cX12_again 38 = .ok (.iconst 0, 1) := by decide +kernel
theorem dX12_again_39 : decode cX12_again 39 = .ok (.istore_n 2, 1) := by decide +kernel
theorem dX12_again_40 : decode cX12_again 40 = .ok (.iload_n 2, 1) := by decide +kernel
theorem dX12_again_41 : decode cX12_again 41 = .ok (.bipush 29, 2) := by decide +kernel
theorem dX12_again_43 : decode cX12_again 43 = .ok (.if_icmp .ge 26, 3) := by decide +kernel
theorem dX12_again_46 : decode cX12_again 46 = .ok (.aload_n 0, 1) := by decide +kernel
theorem dX12_again_47 : decode cX12_again 47 = .ok (.getfield 9, 3) := by decide +kernel
theorem dX12_again_50 : decode cX12_again 50 = .ok (.iload_n 2, 1) := by decide +kernel
theorem dX12_again_51 : decode cX12_again 51 = .ok (.aload_n 0, 1) := by decide +kernel
theorem dX12_again_52 : decode cX12_again 52 = .ok (.getfield 79, 3) := by decide +kernel
theorem dX12_again_55 : decode cX12_again 55 = .ok (.bipush 29, 2) := by decide +kernel
theorem dX12_again_57 : decode cX12_again 57 = .ok (.iload_n 1, 1) := by decide +kernel
theorem dX12_again_58 : decode cX12_again 58 = .ok (.imul, 1) := by decide +kernel
theorem dX12_again_59 : decode cX12_again 59 = .ok (.iload_n 2, 1) := by decide +kernel
theorem dX12_again_60 : decode cX12_again 60 = .ok (.iadd, 1) := by decide +kernel
theorem dX12_again_61 : decode cX12_again 61 = .ok (.iaload, 1) := by decide +kernel
theorem dX12_again_62 : decode cX12_again 62 = .ok (.iastore, 1) := by decide +kernel
theorem dX12_again_63 : decode cX12_again 63 = .ok (.iinc 2 1, 3) := by decide +kernel
theorem dX12_again_66 : decode cX12_again 66 = .ok (.goto (-26), 3) := by decide +kernel
theorem dX12_again_69 : decode cX12_again 69 = .ok (.aload_n 0, 1) := by decide +kernel
theorem dX12_again_70 : decode cX12_again 70 = .ok (.iconst 0, 1) := by decide +kernel
theorem dX12_again_71 : decode cX12_again 71 = .ok (.putfield 147, 3) := by decide +kernel
theorem dX12_again_74 : decode cX12_again 74 = .ok (.iconst 1, 1) := by decide +kernel
theorem dX12_again_75 : decode cX12_again 75 = .ok (.ireturn, 1) := by decide +kernel
theorem dX12_count_0 : decode cX12_count 0 = .ok (.aload_n 0, 1) := by decide +kernel
theorem dX12_count_1 : decode cX12_count 1 = .ok (.iconst 0, 1) := by decide +kernel
theorem dX12_count_2 : decode cX12_count 2 = .ok (.putfield 89, 3) := by decide +kernel
theorem dX12_count_5 : decode cX12_count 5 = .ok (.iload_n 1, 1) := by decide +kernel
theorem dX12_count_6 : decode cX12_count 6 = .ok (.tableswitch 180 0 15 #[78, 83, 88, 93, 101, 109, 118, 126, 131, 139, 147, 152, 157, 162, 167, 172], 78) := by decide +kernel
theorem dX12_count_84 : decode cX12_count 84 = .ok (.aload_n 0, 1) := by decide +kernel
theorem dX12_count_85 : decode cX12_count 85 = .ok (.getfield 13, 3) := by decide +kernel
theorem dX12_count_88 : decode cX12_count 88 = .ok (.ireturn, 1) := by decide +kernel
theorem dX12_count_89 : decode cX12_count 89 = .ok (.aload_n 0, 1) := by decide +kernel
theorem dX12_count_90 : decode cX12_count 90 = .ok (.getfield 95, 3) := by decide +kernel
theorem dX12_count_93 : decode cX12_count 93 = .ok (.ireturn, 1) := by decide +kernel
theorem dX12_count_94 : decode cX12_count 94 = .ok (.aload_n 0, 1) := by decide +kernel
theorem dX12_count_95 : decode cX12_count 95 = .ok (.getfield 102, 3) := by decide +kernel
theorem dX12_count_98 : decode cX12_count 98 = .ok (.ireturn, 1) := by decide +kernel
theorem dX12_count_99 : decode cX12_count 99 = .ok (.aload_n 0, 1) := by decide +kernel
theorem dX12_count_100 : decode cX12_count 100 = .ok (.getfield 9, 3) := by decide +kernel
theorem dX12_count_103 : decode cX12_count 103 = .ok (.bipush 24, 2) := by decide +kernel
theorem dX12_count_105 : decode cX12_count 105 = .ok (.iaload, 1) := by decide +kernel
theorem dX12_count_106 : decode cX12_count 106 = .ok (.ireturn, 1) := by decide +kernel
theorem dX12_count_107 : decode cX12_count 107 = .ok (.aload_n 0, 1) := by decide +kernel
theorem dX12_count_108 : decode cX12_count 108 = .ok (.getfield 9, 3) := by decide +kernel
theorem dX12_count_111 : decode cX12_count 111 = .ok (.bipush 25, 2) := by decide +kernel
theorem dX12_count_113 : decode cX12_count 113 = .ok (.iaload, 1) := by decide +kernel
theorem dX12_count_114 : decode cX12_count 114 = .ok (.ireturn, 1) := by decide +kernel
theorem dX12_count_115 : decode cX12_count 115 = .ok (.aload_n 0, 1) := by decide +kernel
theorem dX12_count_116 : decode cX12_count 116 = .ok (.aload_n 0, 1) := by decide +kernel
theorem dX12_count_117 : decode cX12_count 117 = .ok (.getfield 9, 3) := by decide +kernel
theorem dX12_count_120 : decode cX12_count 120 = .ok (.invokevirtual 244, 3) := by decide +kernel
theorem dX12_count_123 : decode cX12_count 123 = .ok (.ireturn, 1) := by decide +kernel
theorem dX12_count_124 : decode cX12_count 124 = .ok (.aload_n 0, 1) := by decide +kernel
theorem dX12_count_125 : decode cX12_count 125 = .ok (.getfield 9, 3) := by decide +kernel
theorem dX12_count_128 : decode cX12_count 128 = .ok (.bipush 26, 2) := by decide +kernel
theorem dX12_count_130 : decode cX12_count 130 = .ok (.iaload, 1) := by decide +kernel
theorem dX12_count_131 : decode cX12_count 131 = .ok (.ireturn, 1) := by decide +kernel
theorem dX12_count_132 : decode cX12_count 132 = .ok (.aload_n 0, 1) := by decide +kernel
theorem dX12_count_133 : decode cX12_count 133 = .ok (.invokevirtual 323, 3) := by decide +kernel
theorem dX12_count_136 : decode cX12_count 136 = .ok (.ireturn, 1) := by decide +kernel
theorem dX12_count_137 : decode cX12_count 137 = .ok (.aload_n 0, 1) := by decide +kernel
theorem dX12_count_138 : decode cX12_count 138 = .ok (.getfield 9, 3) := by decide +kernel
theorem dX12_count_141 : decode cX12_count 141 = .ok (.bipush 27, 2) := by decide +kernel
theorem dX12_count_143 : decode cX12_count 143 = .ok (.iaload, 1) := by decide +kernel
theorem dX12_count_144 : decode cX12_count 144 = .ok (.ireturn, 1) := by decide +kernel
theorem dX12_count_145 : decode cX12_count 145 = .ok (.aload_n 0, 1) := by decide +kernel
theorem dX12_count_146 : decode cX12_count 146 = .ok (.getfield 9, 3) := by decide +kernel
theorem dX12_count_149 : decode cX12_count 149 = .ok (.bipush 28, 2) := by decide +kernel
theorem dX12_count_151 : decode cX12_count 151 = .ok (.iaload, 1) := by decide +kernel
theorem dX12_count_152 : decode cX12_count 152 = .ok (.ireturn, 1) := by decide +kernel
theorem dX12_count_153 : decode cX12_count 153 = .ok (.aload_n 0, 1) := by decide +kernel
theorem dX12_count_154 : decode cX12_count 154 = .ok (.getfield 346, 3) := by decide +kernel
theorem dX12_count_157 : decode cX12_count 157 = .ok (.ireturn, 1) := by decide +kernel
theorem dX12_count_158 : decode cX12_count 158 = .ok (.aload_n 0, 1) := by decide +kernel
theorem dX12_count_159 : decode cX12_count 159 = .ok (.getfield 362, 3) := by decide +kernel
theorem dX12_count_162 : decode cX12_count 162 = .ok (.ireturn, 1) := by decide +kernel
theorem dX12_count_163 : decode cX12_count 163 = .ok (.aload_n 0, 1) := by decide +kernel
theorem dX12_count_164 : decode cX12_count 164 = .ok (.getfield 147, 3) := by decide +kernel
theorem dX12_count_167 : decode cX12_count 167 = .ok (.ireturn, 1) := by decide +kernel
theorem dX12_count_168 : decode cX12_count 168 = .ok (.aload_n 0, 1) := by decide +kernel
theorem dX12_count_169 : decode cX12_count 169 = .ok (.getfield 92, 3) := by decide +kernel
theorem dX12_count_172 : decode cX12_count 172 = .ok (.ireturn, 1) := by decide +kernel
theorem dX12_count_173 : decode cX12_count 173 = .ok (.aload_n 0, 1) := by decide +kernel
theorem dX12_count_174 : decode cX12_count 174 = .ok (.getfield 105, 3) := by decide +kernel
theorem dX12_count_177 : decode cX12_count 177 = .ok (.ireturn, 1) := by decide +kernel
theorem dX12_count_178 : decode cX12_count 178 = .ok (.aload_n 0, 1) := by decide +kernel
theorem dX12_count_179 : decode cX12_count 179 = .ok (.invokevirtual 323, 3) := by decide +kernel
theorem dX12_count_182 : decode cX12_count 182 = .ok (.invokestatic 214, 3) := by decide +kernel
theorem dX12_count_185 : decode cX12_count 185 = .ok (.ireturn, 1) := by decide +kernel
theorem dX12_count_186 : decode cX12_count 186 = .ok (.iconst (-1), 1) := by decide +kernel
theorem dX12_count_187 : decode cX12_count 187 = .ok (.ireturn, 1) := by decide +kernel
theorem dX12_row_0 : decode cX12_row 0 = .ok (.aload_n 0, 1) := by decide +kernel
theorem dX12_row_1 : decode cX12_row 1 = .ok (.iconst 0, 1) := by decide +kernel
theorem dX12_row_2 : decode cX12_row 2 = .ok (.putfield 89, 3) := by decide +kernel
theorem dX12_row_5 : decode cX12_row 5 = .ok (.iload_n 1, 1) := by decide +kernel
theorem dX12_row_6 : decode cX12_row 6 = .ok (.iconst 0, 1) := by decide +kernel
theorem dX12_row_7 : decode cX12_row 7 = .ok (.aload_n 0, 1) := by decide +kernel
theorem dX12_row_8 : decode cX12_row 8 = .ok (.getfield 92, 3) := by decide +kernel
theorem dX12_row_11 : decode cX12_row 11 = .ok (.iconst 1, 1) := by decide +kernel
theorem dX12_row_12 : decode cX12_row 12 = .ok (.isub, 1) := by decide +kernel
theorem dX12_row_13 : decode cX12_row 13 = .ok (.invokestatic 98, 3) := by decide +kernel
theorem dX12_row_16 : decode cX12_row 16 = .ok (.ifCond .eq 12, 3) := by decide +kernel
theorem dX12_row_19 : decode cX12_row 19 = .ok (.aload_n 0, 1) := by decide +kernel
theorem dX12_row_20 : decode cX12_row 20 = .ok (.getfield 33, 3) := by decide +kernel
theorem dX12_row_23 : decode cX12_row 23 = .ok (.iload_n 1, 1) := by decide +kernel
theorem dX12_row_24 : decode cX12_row 24 = .ok (.laload, 1) := by decide +kernel
theorem dX12_row_25 : decode cX12_row 25 = .ok (.goto 8, 3) := by decide +kernel
theorem dX12_row_28 : decode cX12_row 28 = .ok (.aload_n 0, 1) := by decide +kernel
theorem dX12_row_29 : decode cX12_row 29 = .ok (.invokevirtual 241, 3) := by decide +kernel
theorem dX12_row_32 : decode cX12_row 32 = .ok (.i2l, 1) := by decide +kernel
theorem dX12_row_33 : decode cX12_row 33 = .ok (.lreturn, 1) := by decide +kernel
theorem dJ11_isValidCodePoint_9a6ad_0 : decode cJ11_isValidCodePoint_9a6ad 0 = .ok (.iload_n 0, 1) := by decide +kernel
theorem dJ11_isValidCodePoint_9a6ad_1 : decode cJ11_isValidCodePoint_9a6ad 1 = .ok (.bipush 16, 2) := by decide +kernel
theorem dJ11_isValidCodePoint_9a6ad_3 : decode cJ11_isValidCodePoint_9a6ad 3 = .ok (.iushr, 1) := by decide +kernel
theorem dJ11_isValidCodePoint_9a6ad_4 : decode cJ11_isValidCodePoint_9a6ad 4 = .ok (.istore_n 1, 1) := by decide +kernel
theorem dJ11_isValidCodePoint_9a6ad_5 : decode cJ11_isValidCodePoint_9a6ad 5 = .ok (.iload_n 1, 1) := by decide +kernel
theorem dJ11_isValidCodePoint_9a6ad_6 : decode cJ11_isValidCodePoint_9a6ad 6 = .ok (.bipush 17, 2) := by decide +kernel
theorem dJ11_isValidCodePoint_9a6ad_8 : decode cJ11_isValidCodePoint_9a6ad 8 = .ok (.if_icmp .ge 7, 3) := by decide +kernel
theorem dJ11_isValidCodePoint_9a6ad_11 : decode cJ11_isValidCodePoint_9a6ad 11 = .ok (.iconst 1, 1) := by decide +kernel
theorem dJ11_isValidCodePoint_9a6ad_12 : decode cJ11_isValidCodePoint_9a6ad 12 = .ok (.goto 4, 3) := by decide +kernel
theorem dJ11_isValidCodePoint_9a6ad_15 : decode cJ11_isValidCodePoint_9a6ad 15 = .ok (.iconst 0, 1) := by decide +kernel
theorem dJ11_isValidCodePoint_9a6ad_16 : decode cJ11_isValidCodePoint_9a6ad 16 = .ok (.ireturn, 1) := by decide +kernel
theorem dJ11_highSurrogate_5068e_0 : decode cJ11_highSurrogate_5068e 0 = .ok (.iload_n 0, 1) := by decide +kernel
theorem dJ11_highSurrogate_5068e_1 : decode cJ11_highSurrogate_5068e 1 = .ok (.bipush 10, 2) := by decide +kernel
theorem dJ11_highSurrogate_5068e_3 : decode cJ11_highSurrogate_5068e 3 = .ok (.iushr, 1) := by decide +kernel
theorem dJ11_highSurrogate_5068e_4 : decode cJ11_highSurrogate_5068e 4 = .ok (.ldc 110, 2) := by decide +kernel
theorem dJ11_highSurrogate_5068e_6 : decode cJ11_highSurrogate_5068e 6 = .ok (.iadd, 1) := by decide +kernel
theorem dJ11_highSurrogate_5068e_7 : decode cJ11_highSurrogate_5068e 7 = .ok (.i2c, 1) := by decide +kernel
theorem dJ11_highSurrogate_5068e_8 : decode cJ11_highSurrogate_5068e 8 = .ok (.ireturn, 1) := by decide +kernel
theorem dJ11_lowSurrogate_5068e_0 : decode cJ11_lowSurrogate_5068e 0 = .ok (.iload_n 0, 1) := by decide +kernel
theorem dJ11_lowSurrogate_5068e_1 : decode cJ11_lowSurrogate_5068e 1 = .ok (.sipush 1023, 3) := by decide +kernel
theorem dJ11_lowSurrogate_5068e_4 : decode cJ11_lowSurrogate_5068e 4 = .ok (.iand, 1) := by decide +kernel
theorem dJ11_lowSurrogate_5068e_5 : decode cJ11_lowSurrogate_5068e 5 = .ok (.ldc 76, 2) := by decide +kernel
theorem dJ11_lowSurrogate_5068e_7 : decode cJ11_lowSurrogate_5068e 7 = .ok (.iadd, 1) := by decide +kernel
theorem dJ11_lowSurrogate_5068e_8 : decode cJ11_lowSurrogate_5068e 8 = .ok (.i2c, 1) := by decide +kernel
theorem dJ11_lowSurrogate_5068e_9 : decode cJ11_lowSurrogate_5068e 9 = .ok (.ireturn, 1) := by decide +kernel
theorem dJ6_bitCount_0f7a4_0 : decode cJ6_bitCount_0f7a4 0 = .ok (.iload_n 0, 1) := by decide +kernel
theorem dJ6_bitCount_0f7a4_1 : decode cJ6_bitCount_0f7a4 1 = .ok (.iload_n 0, 1) := by decide +kernel
theorem dJ6_bitCount_0f7a4_2 : decode cJ6_bitCount_0f7a4 2 = .ok (.iconst 1, 1) := by decide +kernel
theorem dJ6_bitCount_0f7a4_3 : decode cJ6_bitCount_0f7a4 3 = .ok (.iushr, 1) := by decide +kernel
theorem dJ6_bitCount_0f7a4_4 : decode cJ6_bitCount_0f7a4 4 = .ok (.ldc_w 265, 3) := by decide +kernel
theorem dJ6_bitCount_0f7a4_7 : decode cJ6_bitCount_0f7a4 7 = .ok (.iand, 1) := by decide +kernel
theorem dJ6_bitCount_0f7a4_8 : decode cJ6_bitCount_0f7a4 8 = .ok (.isub, 1) := by decide +kernel
theorem dJ6_bitCount_0f7a4_9 : decode cJ6_bitCount_0f7a4 9 = .ok (.istore_n 0, 1) := by decide +kernel
theorem dJ6_bitCount_0f7a4_10 : decode cJ6_bitCount_0f7a4 10 = .ok (.iload_n 0, 1) := by decide +kernel
theorem dJ6_bitCount_0f7a4_11 : decode cJ6_bitCount_0f7a4 11 = .ok (.ldc_w 266, 3) := by decide +kernel
theorem dJ6_bitCount_0f7a4_14 : decode cJ6_bitCount_0f7a4 14 = .ok (.iand, 1) := by decide +kernel
theorem dJ6_bitCount_0f7a4_15 : decode cJ6_bitCount_0f7a4 15 = .ok (.iload_n 0, 1) := by decide +kernel
theorem dJ6_bitCount_0f7a4_16 : decode cJ6_bitCount_0f7a4 16 = .ok (.iconst 2, 1) := by decide +kernel
theorem dJ6_bitCount_0f7a4_17 : decode cJ6_bitCount_0f7a4 17 = .ok (.iushr, 1) := by decide +kernel
theorem dJ6_bitCount_0f7a4_18 : decode cJ6_bitCount_0f7a4 18 = .ok (.ldc_w 266, 3) := by decide +kernel
theorem dJ6_bitCount_0f7a4_21 : decode cJ6_bitCount_0f7a4 21 = .ok (.iand, 1) := by decide +kernel
theorem dJ6_bitCount_0f7a4_22 : decode cJ6_bitCount_0f7a4 22 = .ok (.iadd, 1) := by decide +kernel
theorem dJ6_bitCount_0f7a4_23 : decode cJ6_bitCount_0f7a4 23 = .ok (.istore_n 0, 1) := by decide +kernel
theorem dJ6_bitCount_0f7a4_24 : decode cJ6_bitCount_0f7a4 24 = .ok (.iload_n 0, 1) := by decide +kernel
theorem dJ6_bitCount_0f7a4_25 : decode cJ6_bitCount_0f7a4 25 = .ok (.iload_n 0, 1) := by decide +kernel
theorem dJ6_bitCount_0f7a4_26 : decode cJ6_bitCount_0f7a4 26 = .ok (.iconst 4, 1) := by decide +kernel
theorem dJ6_bitCount_0f7a4_27 : decode cJ6_bitCount_0f7a4 27 = .ok (.iushr, 1) := by decide +kernel
theorem dJ6_bitCount_0f7a4_28 : decode cJ6_bitCount_0f7a4 28 = .ok (.iadd, 1) := by decide +kernel
theorem dJ6_bitCount_0f7a4_29 : decode cJ6_bitCount_0f7a4 29 = .ok (.ldc_w 267, 3) := by decide +kernel
theorem dJ6_bitCount_0f7a4_32 : decode cJ6_bitCount_0f7a4 32 = .ok (.iand, 1) := by decide +kernel
theorem dJ6_bitCount_0f7a4_33 : decode cJ6_bitCount_0f7a4 33 = .ok (.istore_n 0, 1) := by decide +kernel
theorem dJ6_bitCount_0f7a4_34 : decode cJ6_bitCount_0f7a4 34 = .ok (.iload_n 0, 1) := by decide +kernel
theorem dJ6_bitCount_0f7a4_35 : decode cJ6_bitCount_0f7a4 35 = .ok (.iload_n 0, 1) := by decide +kernel
theorem dJ6_bitCount_0f7a4_36 : decode cJ6_bitCount_0f7a4 36 = .ok (.bipush 8, 2) := by decide +kernel
theorem dJ6_bitCount_0f7a4_38 : decode cJ6_bitCount_0f7a4 38 = .ok (.iushr, 1) := by decide +kernel
theorem dJ6_bitCount_0f7a4_39 : decode cJ6_bitCount_0f7a4 39 = .ok (.iadd, 1) := by decide +kernel
theorem dJ6_bitCount_0f7a4_40 : decode cJ6_bitCount_0f7a4 40 = .ok (.istore_n 0, 1) := by decide +kernel
theorem dJ6_bitCount_0f7a4_41 : decode cJ6_bitCount_0f7a4 41 = .ok (.iload_n 0, 1) := by decide +kernel
theorem dJ6_bitCount_0f7a4_42 : decode cJ6_bitCount_0f7a4 42 = .ok (.iload_n 0, 1) := by decide +kernel
theorem dJ6_bitCount_0f7a4_43 : decode cJ6_bitCount_0f7a4 43 = .ok (.bipush 16, 2) := by decide +kernel
theorem dJ6_bitCount_0f7a4_45 : decode cJ6_bitCount_0f7a4 45 = .ok (.iushr, 1) := by decide +kernel
theorem dJ6_bitCount_0f7a4_46 : decode cJ6_bitCount_0f7a4 46 = .ok (.iadd, 1) := by decide +kernel
theorem dJ6_bitCount_0f7a4_47 : decode cJ6_bitCount_0f7a4 47 = .ok (.istore_n 0, 1) := by decide +kernel
theorem dJ6_bitCount_0f7a4_48 : decode cJ6_bitCount_0f7a4 48 = .ok (.iload_n 0, 1) := by decide +kernel
theorem dJ6_bitCount_0f7a4_49 : decode cJ6_bitCount_0f7a4 49 = .ok (.bipush 63, 2) := by decide +kernel
theorem dJ6_bitCount_0f7a4_51 : decode cJ6_bitCount_0f7a4 51 = .ok (.iand, 1) := by decide +kernel
theorem dJ6_bitCount_0f7a4_52 : decode cJ6_bitCount_0f7a4 52 = .ok (.ireturn, 1) := by decide +kernel
theorem dJ9_abs_0f7a4_0 : decode cJ9_abs_0f7a4 0 = .ok (.iload_n 0, 1) := by decide +kernel
theorem dJ9_abs_0f7a4_1 : decode cJ9_abs_0f7a4 1 = .ok (.ifCond .ge 8, 3) := by decide +kernel
theorem dJ9_abs_0f7a4_4 : decode cJ9_abs_0f7a4 4 = .ok (.iload_n 0, 1) := by decide +kernel
theorem dJ9_abs_0f7a4_5 : decode cJ9_abs_0f7a4 5 = .ok (.ineg, 1) := by decide +kernel
theorem dJ9_abs_0f7a4_6 : decode cJ9_abs_0f7a4 6 = .ok (.goto 4, 3) := by decide +kernel
theorem dJ9_abs_0f7a4_9 : decode cJ9_abs_0f7a4 9 = .ok (.iload_n 0, 1) := by decide +kernel
theorem dJ9_abs_0f7a4_10 : decode cJ9_abs_0f7a4 10 = .ok (.ireturn, 1) := by decide +kernel
theorem dJ9_max_7cf53_0 : decode cJ9_max_7cf53 0 = .ok (.iload_n 0, 1) := by decide +kernel
theorem dJ9_max_7cf53_1 : decode cJ9_max_7cf53 1 = .ok (.iload_n 1, 1) := by decide +kernel
theorem dJ9_max_7cf53_2 : decode cJ9_max_7cf53 2 = .ok (.if_icmp .lt 7, 3) := by decide +kernel
theorem dJ9_max_7cf53_5 : decode cJ9_max_7cf53 5 = .ok (.iload_n 0, 1) := by decide +kernel
theorem dJ9_max_7cf53_6 : decode cJ9_max_7cf53 6 = .ok (.goto 4, 3) := by decide +kernel
theorem dJ9_max_7cf53_9 : decode cJ9_max_7cf53 9 = .ok (.iload_n 1, 1) := by decide +kernel
theorem dJ9_max_7cf53_10 : decode cJ9_max_7cf53 10 = .ok (.ireturn, 1) := by decide +kernel
theorem dJ9_min_7cf53_0 : decode cJ9_min_7cf53 0 = .ok (.iload_n 0, 1) := by decide +kernel
theorem dJ9_min_7cf53_1 : decode cJ9_min_7cf53 1 = .ok (.iload_n 1, 1) := by decide +kernel
theorem dJ9_min_7cf53_2 : decode cJ9_min_7cf53 2 = .ok (.if_icmp .gt 7, 3) := by decide +kernel
theorem dJ9_min_7cf53_5 : decode cJ9_min_7cf53 5 = .ok (.iload_n 0, 1) := by decide +kernel
theorem dJ9_min_7cf53_6 : decode cJ9_min_7cf53 6 = .ok (.goto 4, 3) := by decide +kernel
theorem dJ9_min_7cf53_9 : decode cJ9_min_7cf53 9 = .ok (.iload_n 1, 1) := by decide +kernel
theorem dJ9_min_7cf53_10 : decode cJ9_min_7cf53 10 = .ok (.ireturn, 1) := by decide +kernel
theorem dJ0_length_8abf5_0 : decode cJ0_length_8abf5 0 = .ok (.aload_n 0, 1) := by decide +kernel
theorem dJ0_length_8abf5_1 : decode cJ0_length_8abf5 1 = .ok (.getfield 9, 3) := by decide +kernel
theorem dJ0_length_8abf5_4 : decode cJ0_length_8abf5 4 = .ok (.arraylength, 1) := by decide +kernel
theorem dJ0_length_8abf5_5 : decode cJ0_length_8abf5 5 = .ok (.aload_n 0, 1) := by decide +kernel
theorem dJ0_length_8abf5_6 : decode cJ0_length_8abf5 6 = .ok (.invokevirtual 335, 3) := by decide +kernel
theorem dJ0_length_8abf5_9 : decode cJ0_length_8abf5 9 = .ok (.ishr, 1) := by decide +kernel
theorem dJ0_length_8abf5_10 : decode cJ0_length_8abf5 10 = .ok (.ireturn, 1) := by decide +kernel
theorem dJ0_indexOf_0f7a4_0 : decode cJ0_indexOf_0f7a4 0 = .ok (.aload_n 0, 1) := by decide +kernel
theorem dJ0_indexOf_0f7a4_1 : decode cJ0_indexOf_0f7a4 1 = .ok (.iload_n 1, 1) := by decide +kernel
theorem dJ0_indexOf_0f7a4_2 : decode cJ0_indexOf_0f7a4 2 = .ok (.iconst 0, 1) := by decide +kernel
theorem dJ0_indexOf_0f7a4_3 : decode cJ0_indexOf_0f7a4 3 = .ok (.invokevirtual 633, 3) := by decide +kernel
theorem dJ0_indexOf_0f7a4_6 : decode cJ0_indexOf_0f7a4 6 = .ok (.ireturn, 1) := by decide +kernel
theorem dJ0_indexOf_7cf53_0 : decode cJ0_indexOf_7cf53 0 = .ok (.aload_n 0, 1) := by decide +kernel
theorem dJ0_indexOf_7cf53_1 : decode cJ0_indexOf_7cf53 1 = .ok (.invokevirtual 492, 3) := by decide +kernel
theorem dJ0_indexOf_7cf53_4 : decode cJ0_indexOf_7cf53 4 = .ok (.ifCond .eq 19, 3) := by decide +kernel
theorem dJ0_indexOf_7cf53_7 : decode cJ0_indexOf_7cf53 7 = .ok (.aload_n 0, 1) := by decide +kernel
theorem dJ0_indexOf_7cf53_8 : decode cJ0_indexOf_7cf53 8 = .ok (.getfield 9, 3) := by decide +kernel
theorem dJ0_indexOf_7cf53_11 : decode cJ0_indexOf_7cf53 11 = .ok (.iload_n 1, 1) := by decide +kernel
theorem dJ0_indexOf_7cf53_12 : decode cJ0_indexOf_7cf53 12 = .ok (.iload_n 2, 1) := by decide +kernel
theorem dJ0_indexOf_7cf53_13 : decode cJ0_indexOf_7cf53 13 = .ok (.aload_n 0, 1) := by decide +kernel
theorem dJ0_indexOf_7cf53_14 : decode cJ0_indexOf_7cf53 14 = .ok (.invokevirtual 505, 3) := by decide +kernel
theorem dJ0_indexOf_7cf53_17 : decode cJ0_indexOf_7cf53 17 = .ok (.invokestatic 637, 3) := by decide +kernel
theorem dJ0_indexOf_7cf53_20 : decode cJ0_indexOf_7cf53 20 = .ok (.goto 16, 3) := by decide +kernel
theorem dJ0_indexOf_7cf53_23 : decode cJ0_indexOf_7cf53 23 = .ok (.aload_n 0, 1) := by decide +kernel
theorem dJ0_indexOf_7cf53_24 : decode cJ0_indexOf_7cf53 24 = .ok (.getfield 9, 3) := by decide +kernel
theorem dJ0_indexOf_7cf53_27 : decode cJ0_indexOf_7cf53 27 = .ok (.iload_n 1, 1) := by decide +kernel
theorem dJ0_indexOf_7cf53_28 : decode cJ0_indexOf_7cf53 28 = .ok (.iload_n 2, 1) := by decide +kernel
theorem dJ0_indexOf_7cf53_29 : decode cJ0_indexOf_7cf53 29 = .ok (.aload_n 0, 1) := by decide +kernel
theorem dJ0_indexOf_7cf53_30 : decode cJ0_indexOf_7cf53 30 = .ok (.invokevirtual 505, 3) := by decide +kernel
theorem dJ0_indexOf_7cf53_33 : decode cJ0_indexOf_7cf53 33 = .ok (.invokestatic 640, 3) := by decide +kernel
theorem dJ0_indexOf_7cf53_36 : decode cJ0_indexOf_7cf53 36 = .ok (.ireturn, 1) := by decide +kernel
theorem dJ0_coder_7d493_0 : decode cJ0_coder_7d493 0 = .ok (.getstatic 38, 3) := by decide +kernel
theorem dJ0_coder_7d493_3 : decode cJ0_coder_7d493 3 = .ok (.ifCond .eq 10, 3) := by decide +kernel
theorem dJ0_coder_7d493_6 : decode cJ0_coder_7d493 6 = .ok (.aload_n 0, 1) := by decide +kernel
theorem dJ0_coder_7d493_7 : decode cJ0_coder_7d493 7 = .ok (.getfield 15, 3) := by decide +kernel
theorem dJ0_coder_7d493_10 : decode cJ0_coder_7d493 10 = .ok (.goto 4, 3) := by decide +kernel
theorem dJ0_coder_7d493_13 : decode cJ0_coder_7d493 13 = .ok (.iconst 1, 1) := by decide +kernel
theorem dJ0_coder_7d493_14 : decode cJ0_coder_7d493 14 = .ok (.ireturn, 1) := by decide +kernel
theorem dJ0_isLatin1_aae02_0 : decode cJ0_isLatin1_aae02 0 = .ok (.getstatic 38, 3) := by decide +kernel
theorem dJ0_isLatin1_aae02_3 : decode cJ0_isLatin1_aae02 3 = .ok (.ifCond .eq 14, 3) := by decide +kernel
theorem dJ0_isLatin1_aae02_6 : decode cJ0_isLatin1_aae02 6 = .ok (.aload_n 0, 1) := by decide +kernel
theorem dJ0_isLatin1_aae02_7 : decode cJ0_isLatin1_aae02 7 = .ok (.getfield 15, 3) := by decide +kernel
theorem dJ0_isLatin1_aae02_10 : decode cJ0_isLatin1_aae02 10 = .ok (.ifCond .ne 7, 3) := by decide +kernel
theorem dJ0_isLatin1_aae02_13 : decode cJ0_isLatin1_aae02 13 = .ok (.iconst 1, 1) := by decide +kernel
theorem dJ0_isLatin1_aae02_14 : decode cJ0_isLatin1_aae02 14 = .ok (.goto 4, 3) := by decide +kernel
theorem dJ0_isLatin1_aae02_17 : decode cJ0_isLatin1_aae02 17 = .ok (.iconst 0, 1) := by decide +kernel
theorem dJ0_isLatin1_aae02_18 : decode cJ0_isLatin1_aae02 18 = .ok (.ireturn, 1) := by decide +kernel
theorem dJ0_checkBoundsBeginEnd_23922_0 : decode cJ0_checkBoundsBeginEnd_23922 0 = .ok (.iload_n 0, 1) := by decide +kernel
theorem dJ0_checkBoundsBeginEnd_23922_1 : decode cJ0_checkBoundsBeginEnd_23922 1 = .ok (.iload_n 1, 1) := by decide +kernel
theorem dJ0_checkBoundsBeginEnd_23922_2 : decode cJ0_checkBoundsBeginEnd_23922 2 = .ok (.iload_n 2, 1) := by decide +kernel
theorem dJ0_checkBoundsBeginEnd_23922_3 : decode cJ0_checkBoundsBeginEnd_23922 3 = .ok (.getstatic 1053, 3) := by decide +kernel
theorem dJ0_checkBoundsBeginEnd_23922_6 : decode cJ0_checkBoundsBeginEnd_23922 6 = .ok (.invokestatic 1062, 3) := by decide +kernel
theorem dJ0_checkBoundsBeginEnd_23922_9 : decode cJ0_checkBoundsBeginEnd_23922 9 = .ok (.pop, 1) := by decide +kernel
theorem dJ0_checkBoundsBeginEnd_23922_10 : decode cJ0_checkBoundsBeginEnd_23922 10 = .ok (.return_, 1) := by decide +kernel
theorem dJ1_canEncode_9a6ad_0 : decode cJ1_canEncode_9a6ad 0 = .ok (.iload_n 0, 1) := by decide +kernel
theorem dJ1_canEncode_9a6ad_1 : decode cJ1_canEncode_9a6ad 1 = .ok (.ifCond .lt 14, 3) := by decide +kernel
theorem dJ1_canEncode_9a6ad_4 : decode cJ1_canEncode_9a6ad 4 = .ok (.iload_n 0, 1) := by decide +kernel
theorem dJ1_canEncode_9a6ad_5 : decode cJ1_canEncode_9a6ad 5 = .ok (.sipush 255, 3) := by decide +kernel
theorem dJ1_canEncode_9a6ad_8 : decode cJ1_canEncode_9a6ad 8 = .ok (.if_icmp .gt 7, 3) := by decide +kernel
theorem dJ1_canEncode_9a6ad_11 : decode cJ1_canEncode_9a6ad 11 = .ok (.iconst 1, 1) := by decide +kernel
theorem dJ1_canEncode_9a6ad_12 : decode cJ1_canEncode_9a6ad 12 = .ok (.goto 4, 3) := by decide +kernel
theorem dJ1_canEncode_9a6ad_15 : decode cJ1_canEncode_9a6ad 15 = .ok (.iconst 0, 1) := by decide +kernel
theorem dJ1_canEncode_9a6ad_16 : decode cJ1_canEncode_9a6ad 16 = .ok (.ireturn, 1) := by decide +kernel
theorem dJ1_indexOf_4cfef_0 : decode cJ1_indexOf_4cfef 0 = .ok (.iload_n 1, 1) := by decide +kernel
theorem dJ1_indexOf_4cfef_1 : decode cJ1_indexOf_4cfef 1 = .ok (.invokestatic 88, 3) := by decide +kernel
theorem dJ1_indexOf_4cfef_4 : decode cJ1_indexOf_4cfef 4 = .ok (.ifCond .ne 5, 3) := by decide +kernel
theorem dJ1_indexOf_4cfef_7 : decode cJ1_indexOf_4cfef 7 = .ok (.iconst (-1), 1) := by decide +kernel
theorem dJ1_indexOf_4cfef_8 : decode cJ1_indexOf_4cfef 8 = .ok (.ireturn, 1) := by decide +kernel
theorem dJ1_indexOf_4cfef_9 : decode cJ1_indexOf_4cfef 9 = .ok (.iload_n 2, 1) := by decide +kernel
theorem dJ1_indexOf_4cfef_10 : decode cJ1_indexOf_4cfef 10 = .ok (.iconst 0, 1) := by decide +kernel
theorem dJ1_indexOf_4cfef_11 : decode cJ1_indexOf_4cfef 11 = .ok (.invokestatic 92, 3) := by decide +kernel
theorem dJ1_indexOf_4cfef_14 : decode cJ1_indexOf_4cfef 14 = .ok (.istore_n 2, 1) := by decide +kernel
theorem dJ1_indexOf_4cfef_15 : decode cJ1_indexOf_4cfef 15 = .ok (.iload_n 3, 1) := by decide +kernel
theorem dJ1_indexOf_4cfef_16 : decode cJ1_indexOf_4cfef 16 = .ok (.aload_n 0, 1) := by decide +kernel
theorem dJ1_indexOf_4cfef_17 : decode cJ1_indexOf_4cfef 17 = .ok (.arraylength, 1) := by decide +kernel
theorem dJ1_indexOf_4cfef_18 : decode cJ1_indexOf_4cfef 18 = .ok (.invokestatic 38, 3) := by decide +kernel
theorem dJ1_indexOf_4cfef_21 : decode cJ1_indexOf_4cfef 21 = .ok (.istore_n 3, 1) := by decide +kernel
theorem dJ1_indexOf_4cfef_22 : decode cJ1_indexOf_4cfef 22 = .ok (.iload_n 2, 1) := by decide +kernel
theorem dJ1_indexOf_4cfef_23 : decode cJ1_indexOf_4cfef 23 = .ok (.iload_n 3, 1) := by decide +kernel
theorem dJ1_indexOf_4cfef_24 : decode cJ1_indexOf_4cfef 24 = .ok (.if_icmp .lt 5, 3) := by decide +kernel
theorem dJ1_indexOf_4cfef_27 : decode cJ1_indexOf_4cfef 27 = .ok (.iconst (-1), 1) := by decide +kernel
theorem dJ1_indexOf_4cfef_28 : decode cJ1_indexOf_4cfef 28 = .ok (.ireturn, 1) := by decide +kernel
theorem dJ1_indexOf_4cfef_29 : decode cJ1_indexOf_4cfef 29 = .ok (.aload_n 0, 1) := by decide +kernel
theorem dJ1_indexOf_4cfef_30 : decode cJ1_indexOf_4cfef 30 = .ok (.iload_n 1, 1) := by decide +kernel
theorem dJ1_indexOf_4cfef_31 : decode cJ1_indexOf_4cfef 31 = .ok (.iload_n 2, 1) := by decide +kernel
theorem dJ1_indexOf_4cfef_32 : decode cJ1_indexOf_4cfef 32 = .ok (.iload_n 3, 1) := by decide +kernel
theorem dJ1_indexOf_4cfef_33 : decode cJ1_indexOf_4cfef 33 = .ok (.invokestatic 95, 3) := by decide +kernel
theorem dJ1_indexOf_4cfef_36 : decode cJ1_indexOf_4cfef 36 = .ok (.ireturn, 1) := by decide +kernel
theorem dJ1_indexOfChar_4cfef_0 : decode cJ1_indexOfChar_4cfef 0 = .ok (.iload_n 1, 1) := by decide +kernel
theorem dJ1_indexOfChar_4cfef_1 : decode cJ1_indexOfChar_4cfef 1 = .ok (.i2b, 1) := by decide +kernel
theorem dJ1_indexOfChar_4cfef_2 : decode cJ1_indexOfChar_4cfef 2 = .ok (.istore 4, 2) := by decide +kernel
theorem dJ1_indexOfChar_4cfef_4 : decode cJ1_indexOfChar_4cfef 4 = .ok (.iload_n 2, 1) := by decide +kernel
theorem dJ1_indexOfChar_4cfef_5 : decode cJ1_indexOfChar_4cfef 5 = .ok (.istore 5, 2) := by decide +kernel
theorem dJ1_indexOfChar_4cfef_7 : decode cJ1_indexOfChar_4cfef 7 = .ok (.iload 5, 2) := by decide +kernel
theorem dJ1_indexOfChar_4cfef_9 : decode cJ1_indexOfChar_4cfef 9 = .ok (.iload_n 3, 1) := by decide +kernel
theorem dJ1_indexOfChar_4cfef_10 : decode cJ1_indexOfChar_4cfef 10 = .ok (.if_icmp .ge 21, 3) := by decide +kernel
theorem dJ1_indexOfChar_4cfef_13 : decode cJ1_indexOfChar_4cfef 13 = .ok (.aload_n 0, 1) := by decide +kernel
theorem dJ1_indexOfChar_4cfef_14 : decode cJ1_indexOfChar_4cfef 14 = .ok (.iload 5, 2) := by decide +kernel
theorem dJ1_indexOfChar_4cfef_16 : decode cJ1_indexOfChar_4cfef 16 = .ok (.baload, 1) := by decide +kernel
theorem dJ1_indexOfChar_4cfef_17 : decode cJ1_indexOfChar_4cfef 17 = .ok (.iload 4, 2) := by decide +kernel
theorem dJ1_indexOfChar_4cfef_19 : decode cJ1_indexOfChar_4cfef 19 = .ok (.if_icmp .ne 6, 3) := by decide +kernel
theorem dJ1_indexOfChar_4cfef_22 : decode cJ1_indexOfChar_4cfef 22 = .ok (.iload 5, 2) := by decide +kernel
theorem dJ1_indexOfChar_4cfef_24 : decode cJ1_indexOfChar_4cfef 24 = .ok (.ireturn, 1) := by decide +kernel
theorem dJ1_indexOfChar_4cfef_25 : decode cJ1_indexOfChar_4cfef 25 = .ok (.iinc 5 1, 3) := by decide +kernel
theorem dJ1_indexOfChar_4cfef_28 : decode cJ1_indexOfChar_4cfef 28 = .ok (.goto (-21), 3) := by decide +kernel
theorem dJ1_indexOfChar_4cfef_31 : decode cJ1_indexOfChar_4cfef 31 = .ok (.iconst (-1), 1) := by decide +kernel
theorem dJ1_indexOfChar_4cfef_32 : decode cJ1_indexOfChar_4cfef 32 = .ok (.ireturn, 1) := by decide +kernel
theorem dJ2_getChar_3b067_0 : decode cJ2_getChar_3b067 0 = .ok (.getstatic 44, 3) := by decide +kernel
theorem dJ2_getChar_3b067_3 : decode cJ2_getChar_3b067 3 = .ok (.ifCond .ne 25, 3) := by decide +kernel
theorem dJ2_getChar_3b067_6 : decode cJ2_getChar_3b067 6 = .ok (.iload_n 1, 1) := by decide +kernel
theorem dJ2_getChar_3b067_7 : decode cJ2_getChar_3b067 7 = .ok (.ifCond .lt 11, 3) := by decide +kernel
theorem dJ2_getChar_3b067_10 : decode cJ2_getChar_3b067 10 = .ok (.iload_n 1, 1) := by decide +kernel
theorem dJ2_getChar_3b067_11 : decode cJ2_getChar_3b067 11 = .ok (.aload_n 0, 1) := by decide +kernel
theorem dJ2_getChar_3b067_12 : decode cJ2_getChar_3b067 12 = .ok (.invokestatic 48, 3) := by decide +kernel
theorem dJ2_getChar_3b067_15 : decode cJ2_getChar_3b067 15 = .ok (.if_icmp .lt 13, 3) := by decide +kernel
theorem dJ2_getChar_3b067_18 : decode cJ2_getChar_3b067 18 = .ok (.new 52, 3) := by decide +kernel
theorem dJ2_getChar_3b067_21 : decode cJ2_getChar_3b067 21 = .ok (.dup, 1) := by decide +kernel
theorem dJ2_getChar_3b067_22 : decode cJ2_getChar_3b067 22 = .ok (.ldc 54, 2) := by decide +kernel
theorem dJ2_getChar_3b067_24 : decode cJ2_getChar_3b067 24 = .ok (.invokespecial 56, 3) := by decide +kernel
theorem dJ2_getChar_3b067_27 : decode cJ2_getChar_3b067 27 = .ok (.athrow, 1) := by decide +kernel
theorem dJ2_getChar_3b067_28 : decode cJ2_getChar_3b067 28 = .ok (.iload_n 1, 1) := by decide +kernel
theorem dJ2_getChar_3b067_29 : decode cJ2_getChar_3b067 29 = .ok (.iconst 1, 1) := by decide +kernel
theorem dJ2_getChar_3b067_30 : decode cJ2_getChar_3b067 30 = .ok (.ishl, 1) := by decide +kernel
theorem dJ2_getChar_3b067_31 : decode cJ2_getChar_3b067 31 = .ok (.istore_n 1, 1) := by decide +kernel
theorem dJ2_getChar_3b067_32 : decode cJ2_getChar_3b067 32 = .ok (.aload_n 0, 1) := by decide +kernel
theorem dJ2_getChar_3b067_33 : decode cJ2_getChar_3b067 33 = .ok (.iload_n 1, 1) := by decide +kernel
theorem dJ2_getChar_3b067_34 : decode cJ2_getChar_3b067 34 = .ok (.iinc 1 1, 3) := by decide +kernel
theorem dJ2_getChar_3b067_37 : decode cJ2_getChar_3b067 37 = .ok (.baload, 1) := by decide +kernel
theorem dJ2_getChar_3b067_38 : decode cJ2_getChar_3b067 38 = .ok (.sipush 255, 3) := by decide +kernel
theorem dJ2_getChar_3b067_41 : decode cJ2_getChar_3b067 41 = .ok (.iand, 1) := by decide +kernel
theorem dJ2_getChar_3b067_42 : decode cJ2_getChar_3b067 42 = .ok (.getstatic 59, 3) := by decide +kernel
theorem dJ2_getChar_3b067_45 : decode cJ2_getChar_3b067 45 = .ok (.ishl, 1) := by decide +kernel
theorem dJ2_getChar_3b067_46 : decode cJ2_getChar_3b067 46 = .ok (.aload_n 0, 1) := by decide +kernel
theorem dJ2_getChar_3b067_47 : decode cJ2_getChar_3b067 47 = .ok (.iload_n 1, 1) := by decide +kernel
theorem dJ2_getChar_3b067_48 : decode cJ2_getChar_3b067 48 = .ok (.baload, 1) := by decide +kernel
theorem dJ2_getChar_3b067_49 : decode cJ2_getChar_3b067 49 = .ok (.sipush 255, 3) := by decide +kernel
theorem dJ2_getChar_3b067_52 : decode cJ2_getChar_3b067 52 = .ok (.iand, 1) := by decide +kernel
theorem dJ2_getChar_3b067_53 : decode cJ2_getChar_3b067 53 = .ok (.getstatic 63, 3) := by decide +kernel
theorem dJ2_getChar_3b067_56 : decode cJ2_getChar_3b067 56 = .ok (.ishl, 1) := by decide +kernel
theorem dJ2_getChar_3b067_57 : decode cJ2_getChar_3b067 57 = .ok (.ior, 1) := by decide +kernel
theorem dJ2_getChar_3b067_58 : decode cJ2_getChar_3b067 58 = .ok (.i2c, 1) := by decide +kernel
theorem dJ2_getChar_3b067_59 : decode cJ2_getChar_3b067 59 = .ok (.ireturn, 1) := by decide +kernel
theorem dJ2_length_9d52b_0 : decode cJ2_length_9d52b 0 = .ok (.aload_n 0, 1) := by decide +kernel
theorem dJ2_length_9d52b_1 : decode cJ2_length_9d52b 1 = .ok (.arraylength, 1) := by decide +kernel
theorem dJ2_length_9d52b_2 : decode cJ2_length_9d52b 2 = .ok (.iconst 1, 1) := by decide +kernel
theorem dJ2_length_9d52b_3 : decode cJ2_length_9d52b 3 = .ok (.ishr, 1) := by decide +kernel
theorem dJ2_length_9d52b_4 : decode cJ2_length_9d52b 4 = .ok (.ireturn, 1) := by decide +kernel
theorem dJ2_indexOf_4cfef_0 : decode cJ2_indexOf_4cfef 0 = .ok (.iload_n 2, 1) := by decide +kernel
theorem dJ2_indexOf_4cfef_1 : decode cJ2_indexOf_4cfef 1 = .ok (.iconst 0, 1) := by decide +kernel
theorem dJ2_indexOf_4cfef_2 : decode cJ2_indexOf_4cfef 2 = .ok (.invokestatic 224, 3) := by decide +kernel
theorem dJ2_indexOf_4cfef_5 : decode cJ2_indexOf_4cfef 5 = .ok (.istore_n 2, 1) := by decide +kernel
theorem dJ2_indexOf_4cfef_6 : decode cJ2_indexOf_4cfef 6 = .ok (.iload_n 3, 1) := by decide +kernel
theorem dJ2_indexOf_4cfef_7 : decode cJ2_indexOf_4cfef 7 = .ok (.aload_n 0, 1) := by decide +kernel
theorem dJ2_indexOf_4cfef_8 : decode cJ2_indexOf_4cfef 8 = .ok (.arraylength, 1) := by decide +kernel
theorem dJ2_indexOf_4cfef_9 : decode cJ2_indexOf_4cfef 9 = .ok (.iconst 1, 1) := by decide +kernel
theorem dJ2_indexOf_4cfef_10 : decode cJ2_indexOf_4cfef 10 = .ok (.ishr, 1) := by decide +kernel
theorem dJ2_indexOf_4cfef_11 : decode cJ2_indexOf_4cfef 11 = .ok (.invokestatic 183, 3) := by decide +kernel
theorem dJ2_indexOf_4cfef_14 : decode cJ2_indexOf_4cfef 14 = .ok (.istore_n 3, 1) := by decide +kernel
theorem dJ2_indexOf_4cfef_15 : decode cJ2_indexOf_4cfef 15 = .ok (.iload_n 2, 1) := by decide +kernel
theorem dJ2_indexOf_4cfef_16 : decode cJ2_indexOf_4cfef 16 = .ok (.iload_n 3, 1) := by decide +kernel
theorem dJ2_indexOf_4cfef_17 : decode cJ2_indexOf_4cfef 17 = .ok (.if_icmp .lt 5, 3) := by decide +kernel
theorem dJ2_indexOf_4cfef_20 : decode cJ2_indexOf_4cfef 20 = .ok (.iconst (-1), 1) := by decide +kernel
theorem dJ2_indexOf_4cfef_21 : decode cJ2_indexOf_4cfef 21 = .ok (.ireturn, 1) := by decide +kernel
theorem dJ2_indexOf_4cfef_22 : decode cJ2_indexOf_4cfef 22 = .ok (.iload_n 1, 1) := by decide +kernel
theorem dJ2_indexOf_4cfef_23 : decode cJ2_indexOf_4cfef 23 = .ok (.ldc 227, 2) := by decide +kernel
theorem dJ2_indexOf_4cfef_25 : decode cJ2_indexOf_4cfef 25 = .ok (.if_icmp .ge 11, 3) := by decide +kernel
theorem dJ2_indexOf_4cfef_28 : decode cJ2_indexOf_4cfef 28 = .ok (.aload_n 0, 1) := by decide +kernel
theorem dJ2_indexOf_4cfef_29 : decode cJ2_indexOf_4cfef 29 = .ok (.iload_n 1, 1) := by decide +kernel
theorem dJ2_indexOf_4cfef_30 : decode cJ2_indexOf_4cfef 30 = .ok (.iload_n 2, 1) := by decide +kernel
theorem dJ2_indexOf_4cfef_31 : decode cJ2_indexOf_4cfef 31 = .ok (.iload_n 3, 1) := by decide +kernel
theorem dJ2_indexOf_4cfef_32 : decode cJ2_indexOf_4cfef 32 = .ok (.invokestatic 228, 3) := by decide +kernel
theorem dJ2_indexOf_4cfef_35 : decode cJ2_indexOf_4cfef 35 = .ok (.ireturn, 1) := by decide +kernel
theorem dJ2_indexOf_4cfef_36 : decode cJ2_indexOf_4cfef 36 = .ok (.aload_n 0, 1) := by decide +kernel
theorem dJ2_indexOf_4cfef_37 : decode cJ2_indexOf_4cfef 37 = .ok (.iload_n 1, 1) := by decide +kernel
theorem dJ2_indexOf_4cfef_38 : decode cJ2_indexOf_4cfef 38 = .ok (.iload_n 2, 1) := by decide +kernel
theorem dJ2_indexOf_4cfef_39 : decode cJ2_indexOf_4cfef 39 = .ok (.iload_n 3, 1) := by decide +kernel
theorem dJ2_indexOf_4cfef_40 : decode cJ2_indexOf_4cfef 40 = .ok (.invokestatic 232, 3) := by decide +kernel
theorem dJ2_indexOf_4cfef_43 : decode cJ2_indexOf_4cfef 43 = .ok (.ireturn, 1) := by decide +kernel
theorem dJ2_indexOfChar_4cfef_0 : decode cJ2_indexOfChar_4cfef 0 = .ok (.iload_n 2, 1) := by decide +kernel
theorem dJ2_indexOfChar_4cfef_1 : decode cJ2_indexOfChar_4cfef 1 = .ok (.iload_n 3, 1) := by decide +kernel
theorem dJ2_indexOfChar_4cfef_2 : decode cJ2_indexOfChar_4cfef 2 = .ok (.aload_n 0, 1) := by decide +kernel
theorem dJ2_indexOfChar_4cfef_3 : decode cJ2_indexOfChar_4cfef 3 = .ok (.invokestatic 96, 3) := by decide +kernel
theorem dJ2_indexOfChar_4cfef_6 : decode cJ2_indexOfChar_4cfef 6 = .ok (.aload_n 0, 1) := by decide +kernel
theorem dJ2_indexOfChar_4cfef_7 : decode cJ2_indexOfChar_4cfef 7 = .ok (.iload_n 1, 1) := by decide +kernel
theorem dJ2_indexOfChar_4cfef_8 : decode cJ2_indexOfChar_4cfef 8 = .ok (.iload_n 2, 1) := by decide +kernel
theorem dJ2_indexOfChar_4cfef_9 : decode cJ2_indexOfChar_4cfef 9 = .ok (.iload_n 3, 1) := by decide +kernel
theorem dJ2_indexOfChar_4cfef_10 : decode cJ2_indexOfChar_4cfef 10 = .ok (.invokestatic 244, 3) := by decide +kernel
theorem dJ2_indexOfChar_4cfef_13 : decode cJ2_indexOfChar_4cfef 13 = .ok (.ireturn, 1) := by decide +kernel
theorem dJ2_indexOfCharUnsafe_4cfef_0 : decode cJ2_indexOfCharUnsafe_4cfef 0 = .ok (.iload_n 2, 1) := by decide +kernel
theorem dJ2_indexOfCharUnsafe_4cfef_1 : decode cJ2_indexOfCharUnsafe_4cfef 1 = .ok (.istore 4, 2) := by decide +kernel
theorem dJ2_indexOfCharUnsafe_4cfef_3 : decode cJ2_indexOfCharUnsafe_4cfef 3 = .ok (.iload 4, 2) := by decide +kernel
theorem dJ2_indexOfCharUnsafe_4cfef_5 : decode cJ2_indexOfCharUnsafe_4cfef 5 = .ok (.iload_n 3, 1) := by decide +kernel
theorem dJ2_indexOfCharUnsafe_4cfef_6 : decode cJ2_indexOfCharUnsafe_4cfef 6 = .ok (.if_icmp .ge 22, 3) := by decide +kernel
theorem dJ2_indexOfCharUnsafe_4cfef_9 : decode cJ2_indexOfCharUnsafe_4cfef 9 = .ok (.aload_n 0, 1) := by decide +kernel
theorem dJ2_indexOfCharUnsafe_4cfef_10 : decode cJ2_indexOfCharUnsafe_4cfef 10 = .ok (.iload 4, 2) := by decide +kernel
theorem dJ2_indexOfCharUnsafe_4cfef_12 : decode cJ2_indexOfCharUnsafe_4cfef 12 = .ok (.invokestatic 71, 3) := by decide +kernel
theorem dJ2_indexOfCharUnsafe_4cfef_15 : decode cJ2_indexOfCharUnsafe_4cfef 15 = .ok (.iload_n 1, 1) := by decide +kernel
theorem dJ2_indexOfCharUnsafe_4cfef_16 : decode cJ2_indexOfCharUnsafe_4cfef 16 = .ok (.if_icmp .ne 6, 3) := by decide +kernel
theorem dJ2_indexOfCharUnsafe_4cfef_19 : decode cJ2_indexOfCharUnsafe_4cfef 19 = .ok (.iload 4, 2) := by decide +kernel
theorem dJ2_indexOfCharUnsafe_4cfef_21 : decode cJ2_indexOfCharUnsafe_4cfef 21 = .ok (.ireturn, 1) := by decide +kernel
theorem dJ2_indexOfCharUnsafe_4cfef_22 : decode cJ2_indexOfCharUnsafe_4cfef 22 = .ok (.iinc 4 1, 3) := by decide +kernel
theorem dJ2_indexOfCharUnsafe_4cfef_25 : decode cJ2_indexOfCharUnsafe_4cfef 25 = .ok (.goto (-22), 3) := by decide +kernel
theorem dJ2_indexOfCharUnsafe_4cfef_28 : decode cJ2_indexOfCharUnsafe_4cfef 28 = .ok (.iconst (-1), 1) := by decide +kernel
theorem dJ2_indexOfCharUnsafe_4cfef_29 : decode cJ2_indexOfCharUnsafe_4cfef 29 = .ok (.ireturn, 1) := by decide +kernel
theorem dJ2_indexOfSupplementary_4cfef_0 : decode cJ2_indexOfSupplementary_4cfef 0 = .ok (.iload_n 1, 1) := by decide +kernel
theorem dJ2_indexOfSupplementary_4cfef_1 : decode cJ2_indexOfSupplementary_4cfef 1 = .ok (.invokestatic 164, 3) := by decide +kernel
theorem dJ2_indexOfSupplementary_4cfef_4 : decode cJ2_indexOfSupplementary_4cfef 4 = .ok (.ifCond .eq 65, 3) := by decide +kernel
theorem dJ2_indexOfSupplementary_4cfef_7 : decode cJ2_indexOfSupplementary_4cfef 7 = .ok (.iload_n 1, 1) := by decide +kernel
theorem dJ2_indexOfSupplementary_4cfef_8 : decode cJ2_indexOfSupplementary_4cfef 8 = .ok (.invokestatic 157, 3) := by decide +kernel
theorem dJ2_indexOfSupplementary_4cfef_11 : decode cJ2_indexOfSupplementary_4cfef 11 = .ok (.istore 4, 2) := by decide +kernel
theorem dJ2_indexOfSupplementary_4cfef_13 : decode cJ2_indexOfSupplementary_4cfef 13 = .ok (.iload_n 1, 1) := by decide +kernel
theorem dJ2_indexOfSupplementary_4cfef_14 : decode cJ2_indexOfSupplementary_4cfef 14 = .ok (.invokestatic 161, 3) := by decide +kernel
theorem dJ2_indexOfSupplementary_4cfef_17 : decode cJ2_indexOfSupplementary_4cfef 17 = .ok (.istore 5, 2) := by decide +kernel
theorem dJ2_indexOfSupplementary_4cfef_19 : decode cJ2_indexOfSupplementary_4cfef 19 = .ok (.iload_n 2, 1) := by decide +kernel
theorem dJ2_indexOfSupplementary_4cfef_20 : decode cJ2_indexOfSupplementary_4cfef 20 = .ok (.iload_n 3, 1) := by decide +kernel
theorem dJ2_indexOfSupplementary_4cfef_21 : decode cJ2_indexOfSupplementary_4cfef 21 = .ok (.aload_n 0, 1) := by decide +kernel
theorem dJ2_indexOfSupplementary_4cfef_22 : decode cJ2_indexOfSupplementary_4cfef 22 = .ok (.invokestatic 96, 3) := by decide +kernel
theorem dJ2_indexOfSupplementary_4cfef_25 : decode cJ2_indexOfSupplementary_4cfef 25 = .ok (.iload_n 2, 1) := by decide +kernel
theorem dJ2_indexOfSupplementary_4cfef_26 : decode cJ2_indexOfSupplementary_4cfef 26 = .ok (.istore 6, 2) := by decide +kernel
theorem dJ2_indexOfSupplementary_4cfef_28 : decode cJ2_indexOfSupplementary_4cfef 28 = .ok (.iload 6, 2) := by decide +kernel
theorem dJ2_indexOfSupplementary_4cfef_30 : decode cJ2_indexOfSupplementary_4cfef 30 = .ok (.iload_n 3, 1) := by decide +kernel
theorem dJ2_indexOfSupplementary_4cfef_31 : decode cJ2_indexOfSupplementary_4cfef 31 = .ok (.iconst 1, 1) := by decide +kernel
theorem dJ2_indexOfSupplementary_4cfef_32 : decode cJ2_indexOfSupplementary_4cfef 32 = .ok (.isub, 1) := by decide +kernel
theorem dJ2_indexOfSupplementary_4cfef_33 : decode cJ2_indexOfSupplementary_4cfef 33 = .ok (.if_icmp .ge 36, 3) := by decide +kernel
theorem dJ2_indexOfSupplementary_4cfef_36 : decode cJ2_indexOfSupplementary_4cfef 36 = .ok (.aload_n 0, 1) := by decide +kernel
theorem dJ2_indexOfSupplementary_4cfef_37 : decode cJ2_indexOfSupplementary_4cfef 37 = .ok (.iload 6, 2) := by decide +kernel
theorem dJ2_indexOfSupplementary_4cfef_39 : decode cJ2_indexOfSupplementary_4cfef 39 = .ok (.invokestatic 71, 3) := by decide +kernel
theorem dJ2_indexOfSupplementary_4cfef_42 : decode cJ2_indexOfSupplementary_4cfef 42 = .ok (.iload 4, 2) := by decide +kernel
theorem dJ2_indexOfSupplementary_4cfef_44 : decode cJ2_indexOfSupplementary_4cfef 44 = .ok (.if_icmp .ne 19, 3) := by decide +kernel
theorem dJ2_indexOfSupplementary_4cfef_47 : decode cJ2_indexOfSupplementary_4cfef 47 = .ok (.aload_n 0, 1) := by decide +kernel
theorem dJ2_indexOfSupplementary_4cfef_48 : decode cJ2_indexOfSupplementary_4cfef 48 = .ok (.iload 6, 2) := by decide +kernel
theorem dJ2_indexOfSupplementary_4cfef_50 : decode cJ2_indexOfSupplementary_4cfef 50 = .ok (.iconst 1, 1) := by decide +kernel
theorem dJ2_indexOfSupplementary_4cfef_51 : decode cJ2_indexOfSupplementary_4cfef 51 = .ok (.iadd, 1) := by decide +kernel
theorem dJ2_indexOfSupplementary_4cfef_52 : decode cJ2_indexOfSupplementary_4cfef 52 = .ok (.invokestatic 71, 3) := by decide +kernel
theorem dJ2_indexOfSupplementary_4cfef_55 : decode cJ2_indexOfSupplementary_4cfef 55 = .ok (.iload 5, 2) := by decide +kernel
theorem dJ2_indexOfSupplementary_4cfef_57 : decode cJ2_indexOfSupplementary_4cfef 57 = .ok (.if_icmp .ne 6, 3) := by decide +kernel
theorem dJ2_indexOfSupplementary_4cfef_60 : decode cJ2_indexOfSupplementary_4cfef 60 = .ok (.iload 6, 2) := by decide +kernel
theorem dJ2_indexOfSupplementary_4cfef_62 : decode cJ2_indexOfSupplementary_4cfef 62 = .ok (.ireturn, 1) := by decide +kernel
theorem dJ2_indexOfSupplementary_4cfef_63 : decode cJ2_indexOfSupplementary_4cfef 63 = .ok (.iinc 6 1, 3) := by decide +kernel
theorem dJ2_indexOfSupplementary_4cfef_66 : decode cJ2_indexOfSupplementary_4cfef 66 = .ok (.goto (-38), 3) := by decide +kernel
theorem dJ2_indexOfSupplementary_4cfef_69 : decode cJ2_indexOfSupplementary_4cfef 69 = .ok (.iconst (-1), 1) := by decide +kernel
theorem dJ2_indexOfSupplementary_4cfef_70 : decode cJ2_indexOfSupplementary_4cfef 70 = .ok (.ireturn, 1) := by decide +kernel
theorem dJ2_checkBoundsBeginEnd_d044e_0 : decode cJ2_checkBoundsBeginEnd_d044e 0 = .ok (.iload_n 0, 1) := by decide +kernel
theorem dJ2_checkBoundsBeginEnd_d044e_1 : decode cJ2_checkBoundsBeginEnd_d044e 1 = .ok (.iload_n 1, 1) := by decide +kernel
theorem dJ2_checkBoundsBeginEnd_d044e_2 : decode cJ2_checkBoundsBeginEnd_d044e 2 = .ok (.aload_n 2, 1) := by decide +kernel
theorem dJ2_checkBoundsBeginEnd_d044e_3 : decode cJ2_checkBoundsBeginEnd_d044e 3 = .ok (.invokestatic 48, 3) := by decide +kernel
theorem dJ2_checkBoundsBeginEnd_d044e_6 : decode cJ2_checkBoundsBeginEnd_d044e 6 = .ok (.invokestatic 241, 3) := by decide +kernel
theorem dJ2_checkBoundsBeginEnd_d044e_9 : decode cJ2_checkBoundsBeginEnd_d044e 9 = .ok (.return_, 1) := by decide +kernel
theorem dJ3_checkFromToIndex_8c36e_0 : decode cJ3_checkFromToIndex_8c36e 0 = .ok (.iload_n 0, 1) := by decide +kernel
theorem dJ3_checkFromToIndex_8c36e_1 : decode cJ3_checkFromToIndex_8c36e 1 = .ok (.ifCond .lt 13, 3) := by decide +kernel
theorem dJ3_checkFromToIndex_8c36e_4 : decode cJ3_checkFromToIndex_8c36e 4 = .ok (.iload_n 0, 1) := by decide +kernel
theorem dJ3_checkFromToIndex_8c36e_5 : decode cJ3_checkFromToIndex_8c36e 5 = .ok (.iload_n 1, 1) := by decide +kernel
theorem dJ3_checkFromToIndex_8c36e_6 : decode cJ3_checkFromToIndex_8c36e 6 = .ok (.if_icmp .gt 8, 3) := by decide +kernel
theorem dJ3_checkFromToIndex_8c36e_9 : decode cJ3_checkFromToIndex_8c36e 9 = .ok (.iload_n 1, 1) := by decide +kernel
theorem dJ3_checkFromToIndex_8c36e_10 : decode cJ3_checkFromToIndex_8c36e 10 = .ok (.iload_n 2, 1) := by decide +kernel
theorem dJ3_checkFromToIndex_8c36e_11 : decode cJ3_checkFromToIndex_8c36e 11 = .ok (.if_icmp .le 11, 3) := by decide +kernel
theorem dJ3_checkFromToIndex_8c36e_14 : decode cJ3_checkFromToIndex_8c36e 14 = .ok (.aload_n 3, 1) := by decide +kernel
theorem dJ3_checkFromToIndex_8c36e_15 : decode cJ3_checkFromToIndex_8c36e 15 = .ok (.iload_n 0, 1) := by decide +kernel
theorem dJ3_checkFromToIndex_8c36e_16 : decode cJ3_checkFromToIndex_8c36e 16 = .ok (.iload_n 1, 1) := by decide +kernel
theorem dJ3_checkFromToIndex_8c36e_17 : decode cJ3_checkFromToIndex_8c36e 17 = .ok (.iload_n 2, 1) := by decide +kernel
theorem dJ3_checkFromToIndex_8c36e_18 : decode cJ3_checkFromToIndex_8c36e 18 = .ok (.invokestatic 99, 3) := by decide +kernel
theorem dJ3_checkFromToIndex_8c36e_21 : decode cJ3_checkFromToIndex_8c36e 21 = .ok (.athrow, 1) := by decide +kernel
theorem dJ3_checkFromToIndex_8c36e_22 : decode cJ3_checkFromToIndex_8c36e 22 = .ok (.iload_n 0, 1) := by decide +kernel
theorem dJ3_checkFromToIndex_8c36e_23 : decode cJ3_checkFromToIndex_8c36e 23 = .ok (.ireturn, 1) := by decide +kernel
theorem dL_bearer_0 : decode cL_bearer 0 = .ok (.aload_n 3, 1) := by decide +kernel
theorem dL_bearer_1 : decode cL_bearer 1 = .ok (.iconst 0, 1) := by decide +kernel
theorem dL_bearer_2 : decode cL_bearer 2 = .ok (.aload_n 0, 1) := by decide +kernel
theorem dL_bearer_3 : decode cL_bearer 3 = .ok (.iload_n 1, 1) := by decide +kernel
theorem dL_bearer_4 : decode cL_bearer 4 = .ok (.iload_n 2, 1) := by decide +kernel
theorem dL_bearer_5 : decode cL_bearer 5 = .ok (.invokevirtual 7, 3) := by decide +kernel
theorem dL_bearer_8 : decode cL_bearer 8 = .ok (.i2l, 1) := by decide +kernel
theorem dL_bearer_9 : decode cL_bearer 9 = .ok (.lastore, 1) := by decide +kernel
theorem dL_bearer_10 : decode cL_bearer 10 = .ok (.goto 7, 3) := by decide +kernel
theorem dL_bearer_13 : decode cL_bearer 13 = .ok (.astore 4, 2) := by decide +kernel
theorem dL_bearer_15 : decode cL_bearer 15 = .ok (.iconst 1, 1) := by decide +kernel
theorem dL_bearer_16 : decode cL_bearer 16 = .ok (.ireturn, 1) := by decide +kernel
theorem dL_bearer_17 : decode cL_bearer 17 = .ok (.iconst 0, 1) := by decide +kernel
theorem dL_bearer_18 : decode cL_bearer 18 = .ok (.ireturn, 1) := by decide +kernel
theorem dL_saying_0 : decode cL_saying 0 = .ok (.aload_n 3, 1) := by decide +kernel
theorem dL_saying_1 : decode cL_saying 1 = .ok (.iconst 0, 1) := by decide +kernel
theorem dL_saying_2 : decode cL_saying 2 = .ok (.aload_n 0, 1) := by decide +kernel
theorem dL_saying_3 : decode cL_saying 3 = .ok (.iload_n 1, 1) := by decide +kernel
theorem dL_saying_4 : decode cL_saying 4 = .ok (.iload_n 2, 1) := by decide +kernel
theorem dL_saying_5 : decode cL_saying 5 = .ok (.invokevirtual 15, 3) := by decide +kernel
theorem dL_saying_8 : decode cL_saying 8 = .ok (.i2l, 1) := by decide +kernel
theorem dL_saying_9 : decode cL_saying 9 = .ok (.lastore, 1) := by decide +kernel
theorem dL_saying_10 : decode cL_saying 10 = .ok (.goto 7, 3) := by decide +kernel
theorem dL_saying_13 : decode cL_saying 13 = .ok (.astore 4, 2) := by decide +kernel
theorem dL_saying_15 : decode cL_saying 15 = .ok (.iconst 1, 1) := by decide +kernel
theorem dL_saying_16 : decode cL_saying 16 = .ok (.ireturn, 1) := by decide +kernel
theorem dL_saying_17 : decode cL_saying 17 = .ok (.iconst 0, 1) := by decide +kernel
theorem dL_saying_18 : decode cL_saying 18 = .ok (.ireturn, 1) := by decide +kernel
theorem dL_row_0 : decode cL_row 0 = .ok (.aload_n 2, 1) := by decide +kernel
theorem dL_row_1 : decode cL_row 1 = .ok (.iconst 0, 1) := by decide +kernel
theorem dL_row_2 : decode cL_row 2 = .ok (.aload_n 0, 1) := by decide +kernel
theorem dL_row_3 : decode cL_row 3 = .ok (.iload_n 1, 1) := by decide +kernel
theorem dL_row_4 : decode cL_row 4 = .ok (.invokevirtual 18, 3) := by decide +kernel
theorem dL_row_7 : decode cL_row 7 = .ok (.lastore, 1) := by decide +kernel
theorem dL_row_8 : decode cL_row 8 = .ok (.goto 6, 3) := by decide +kernel
theorem dL_row_11 : decode cL_row 11 = .ok (.astore_n 3, 1) := by decide +kernel
theorem dL_row_12 : decode cL_row 12 = .ok (.iconst 1, 1) := by decide +kernel
theorem dL_row_13 : decode cL_row 13 = .ok (.ireturn, 1) := by decide +kernel
theorem dL_row_14 : decode cL_row 14 = .ok (.iconst 0, 1) := by decide +kernel
theorem dL_row_15 : decode cL_row 15 = .ok (.ireturn, 1) := by decide +kernel
theorem dL_law_0 : decode cL_law 0 = .ok (.new 8, 3) := by decide +kernel
theorem dL_law_3 : decode cL_law 3 = .ok (.dup, 1) := by decide +kernel
theorem dL_law_4 : decode cL_law 4 = .ok (.invokespecial 22, 3) := by decide +kernel
theorem dL_law_7 : decode cL_law 7 = .ok (.astore_n 1, 1) := by decide +kernel
theorem dL_law_8 : decode cL_law 8 = .ok (.new 23, 3) := by decide +kernel
theorem dL_law_11 : decode cL_law 11 = .ok (.dup, 1) := by decide +kernel
theorem dL_law_12 : decode cL_law 12 = .ok (.invokespecial 25, 3) := by decide +kernel
theorem dL_law_15 : decode cL_law 15 = .ok (.astore_n 2, 1) := by decide +kernel
theorem dL_law_16 : decode cL_law 16 = .ok (.iconst 1, 1) := by decide +kernel
theorem dL_law_17 : decode cL_law 17 = .ok (.newarray .long, 2) := by decide +kernel
theorem dL_law_19 : decode cL_law 19 = .ok (.astore_n 3, 1) := by decide +kernel
theorem dL_law_20 : decode cL_law 20 = .ok (.iconst 0, 1) := by decide +kernel
theorem dL_law_21 : decode cL_law 21 = .ok (.istore 4, 2) := by decide +kernel
theorem dL_law_23 : decode cL_law 23 = .ok (.iload 4, 2) := by decide +kernel
theorem dL_law_25 : decode cL_law 25 = .ok (.aload_n 0, 1) := by decide +kernel
theorem dL_law_26 : decode cL_law 26 = .ok (.arraylength, 1) := by decide +kernel
theorem dL_law_27 : decode cL_law 27 = .ok (.iconst 5, 1) := by decide +kernel
theorem dL_law_28 : decode cL_law 28 = .ok (.isub, 1) := by decide +kernel
theorem dL_law_29 : decode cL_law 29 = .ok (.if_icmp .gt 1420, 3) := by decide +kernel
theorem dL_law_32 : decode cL_law 32 = .ok (.aload_n 0, 1) := by decide +kernel
theorem dL_law_33 : decode cL_law 33 = .ok (.iload 4, 2) := by decide +kernel
theorem dL_law_35 : decode cL_law 35 = .ok (.iaload, 1) := by decide +kernel
theorem dL_law_36 : decode cL_law 36 = .ok (.bipush 63, 2) := by decide +kernel
theorem dL_law_38 : decode cL_law 38 = .ok (.iand, 1) := by decide +kernel
theorem dL_law_39 : decode cL_law 39 = .ok (.tableswitch 1404 0 50 #[217, 242, 267, 280, 293, 306, 319, 387, 455, 468, 493, 554, 567, 592, 617, 642, 667, 680, 693, 718, 731, 744, 757, 770, 783, 808, 821, 834, 847, 872, 885, 910, 935, 960, 973, 1010, 1023, 1036, 1049, 1062, 1099, 1148, 1161, 1174, 1199, 1224, 1237, 1274, 1299, 1324, 1349], 217) := by decide +kernel
theorem dL_law_256 : decode cL_law 256 = .ok (.aload_n 1, 1) := by decide +kernel
theorem dL_law_257 : decode cL_law 257 = .ok (.aload_n 0, 1) := by decide +kernel
theorem dL_law_258 : decode cL_law 258 = .ok (.iload 4, 2) := by decide +kernel
theorem dL_law_260 : decode cL_law 260 = .ok (.iconst 1, 1) := by decide +kernel
theorem dL_law_261 : decode cL_law 261 = .ok (.iadd, 1) := by decide +kernel
theorem dL_law_262 : decode cL_law 262 = .ok (.iaload, 1) := by decide +kernel
theorem dL_law_263 : decode cL_law 263 = .ok (.invokevirtual 26, 3) := by decide +kernel
theorem dL_law_266 : decode cL_law 266 = .ok (.aload_n 2, 1) := by decide +kernel
theorem dL_law_267 : decode cL_law 267 = .ok (.aload_n 0, 1) := by decide +kernel
theorem dL_law_268 : decode cL_law 268 = .ok (.iload 4, 2) := by decide +kernel
theorem dL_law_270 : decode cL_law 270 = .ok (.iconst 1, 1) := by decide +kernel
theorem dL_law_271 : decode cL_law 271 = .ok (.iadd, 1) := by decide +kernel
theorem dL_law_272 : decode cL_law 272 = .ok (.iaload, 1) := by decide +kernel
theorem dL_law_273 : decode cL_law 273 = .ok (.invokevirtual 30, 3) := by decide +kernel
theorem dL_law_276 : decode cL_law 276 = .ok (.if_icmp .eq 1167, 3) := by decide +kernel
theorem dL_law_279 : decode cL_law 279 = .ok (.iconst 0, 1) := by decide +kernel
theorem dL_law_280 : decode cL_law 280 = .ok (.ireturn, 1) := by decide +kernel
theorem dL_law_281 : decode cL_law 281 = .ok (.aload_n 1, 1) := by decide +kernel
theorem dL_law_282 : decode cL_law 282 = .ok (.aload_n 0, 1) := by decide +kernel
theorem dL_law_283 : decode cL_law 283 = .ok (.iload 4, 2) := by decide +kernel
theorem dL_law_285 : decode cL_law 285 = .ok (.iconst 1, 1) := by decide +kernel
theorem dL_law_286 : decode cL_law 286 = .ok (.iadd, 1) := by decide +kernel
theorem dL_law_287 : decode cL_law 287 = .ok (.iaload, 1) := by decide +kernel
theorem dL_law_288 : decode cL_law 288 = .ok (.invokevirtual 31, 3) := by decide +kernel
theorem dL_law_291 : decode cL_law 291 = .ok (.aload_n 2, 1) := by decide +kernel
theorem dL_law_292 : decode cL_law 292 = .ok (.aload_n 0, 1) := by decide +kernel
theorem dL_law_293 : decode cL_law 293 = .ok (.iload 4, 2) := by decide +kernel
theorem dL_law_295 : decode cL_law 295 = .ok (.iconst 1, 1) := by decide +kernel
theorem dL_law_296 : decode cL_law 296 = .ok (.iadd, 1) := by decide +kernel
theorem dL_law_297 : decode cL_law 297 = .ok (.iaload, 1) := by decide +kernel
theorem dL_law_298 : decode cL_law 298 = .ok (.invokevirtual 35, 3) := by decide +kernel
theorem dL_law_301 : decode cL_law 301 = .ok (.if_icmp .eq 1142, 3) := by decide +kernel
theorem dL_law_304 : decode cL_law 304 = .ok (.iconst 0, 1) := by decide +kernel
theorem dL_law_305 : decode cL_law 305 = .ok (.ireturn, 1) := by decide +kernel
theorem dL_law_306 : decode cL_law 306 = .ok (.aload_n 1, 1) := by decide +kernel
theorem dL_law_307 : decode cL_law 307 = .ok (.invokevirtual 36, 3) := by decide +kernel
theorem dL_law_310 : decode cL_law 310 = .ok (.aload_n 2, 1) := by decide +kernel
theorem dL_law_311 : decode cL_law 311 = .ok (.invokevirtual 40, 3) := by decide +kernel
theorem dL_law_314 : decode cL_law 314 = .ok (.if_icmp .eq 1129, 3) := by decide +kernel
theorem dL_law_317 : decode cL_law 317 = .ok (.iconst 0, 1) := by decide +kernel
theorem dL_law_318 : decode cL_law 318 = .ok (.ireturn, 1) := by decide +kernel
theorem dL_law_319 : decode cL_law 319 = .ok (.aload_n 1, 1) := by decide +kernel
theorem dL_law_320 : decode cL_law 320 = .ok (.invokevirtual 41, 3) := by decide +kernel
theorem dL_law_323 : decode cL_law 323 = .ok (.aload_n 2, 1) := by decide +kernel
theorem dL_law_324 : decode cL_law 324 = .ok (.invokevirtual 44, 3) := by decide +kernel
theorem dL_law_327 : decode cL_law 327 = .ok (.if_icmp .eq 1116, 3) := by decide +kernel
theorem dL_law_330 : decode cL_law 330 = .ok (.iconst 0, 1) := by decide +kernel
theorem dL_law_331 : decode cL_law 331 = .ok (.ireturn, 1) := by decide +kernel
theorem dL_law_332 : decode cL_law 332 = .ok (.aload_n 1, 1) := by decide +kernel
theorem dL_law_333 : decode cL_law 333 = .ok (.invokevirtual 45, 3) := by decide +kernel
theorem dL_law_336 : decode cL_law 336 = .ok (.aload_n 2, 1) := by decide +kernel
theorem dL_law_337 : decode cL_law 337 = .ok (.invokevirtual 48, 3) := by decide +kernel
theorem dL_law_340 : decode cL_law 340 = .ok (.if_icmp .eq 1103, 3) := by decide +kernel
theorem dL_law_343 : decode cL_law 343 = .ok (.iconst 0, 1) := by decide +kernel
theorem dL_law_344 : decode cL_law 344 = .ok (.ireturn, 1) := by decide +kernel
theorem dL_law_345 : decode cL_law 345 = .ok (.aload_n 1, 1) := by decide +kernel
theorem dL_law_346 : decode cL_law 346 = .ok (.invokevirtual 49, 3) := by decide +kernel
theorem dL_law_349 : decode cL_law 349 = .ok (.aload_n 2, 1) := by decide +kernel
theorem dL_law_350 : decode cL_law 350 = .ok (.invokevirtual 52, 3) := by decide +kernel
theorem dL_law_353 : decode cL_law 353 = .ok (.if_icmp .eq 1090, 3) := by decide +kernel
theorem dL_law_356 : decode cL_law 356 = .ok (.iconst 0, 1) := by decide +kernel
theorem dL_law_357 : decode cL_law 357 = .ok (.ireturn, 1) := by decide +kernel
theorem dL_law_358 : decode cL_law 358 = .ok (.aload_n 1, 1) := by decide +kernel
theorem dL_law_359 : decode cL_law 359 = .ok (.aload_n 0, 1) := by decide +kernel
theorem dL_law_360 : decode cL_law 360 = .ok (.iload 4, 2) := by decide +kernel
theorem dL_law_362 : decode cL_law 362 = .ok (.iconst 1, 1) := by decide +kernel
theorem dL_law_363 : decode cL_law 363 = .ok (.iadd, 1) := by decide +kernel
theorem dL_law_364 : decode cL_law 364 = .ok (.iaload, 1) := by decide +kernel
theorem dL_law_365 : decode cL_law 365 = .ok (.aload_n 0, 1) := by decide +kernel
theorem dL_law_366 : decode cL_law 366 = .ok (.iload 4, 2) := by decide +kernel
theorem dL_law_368 : decode cL_law 368 = .ok (.iconst 2, 1) := by decide +kernel
theorem dL_law_369 : decode cL_law 369 = .ok (.iadd, 1) := by decide +kernel
theorem dL_law_370 : decode cL_law 370 = .ok (.iaload, 1) := by decide +kernel
theorem dL_law_371 : decode cL_law 371 = .ok (.aload_n 3, 1) := by decide +kernel
theorem dL_law_372 : decode cL_law 372 = .ok (.invokestatic 53, 3) := by decide +kernel
theorem dL_law_375 : decode cL_law 375 = .ok (.istore 5, 2) := by decide +kernel
theorem dL_law_377 : decode cL_law 377 = .ok (.aload_n 2, 1) := by decide +kernel
theorem dL_law_378 : decode cL_law 378 = .ok (.aload_n 0, 1) := by decide +kernel
theorem dL_law_379 : decode cL_law 379 = .ok (.iload 4, 2) := by decide +kernel
theorem dL_law_381 : decode cL_law 381 = .ok (.iconst 1, 1) := by decide +kernel
theorem dL_law_382 : decode cL_law 382 = .ok (.iadd, 1) := by decide +kernel
theorem dL_law_383 : decode cL_law 383 = .ok (.iaload, 1) := by decide +kernel
theorem dL_law_384 : decode cL_law 384 = .ok (.aload_n 0, 1) := by decide +kernel
theorem dL_law_385 : decode cL_law 385 = .ok (.iload 4, 2) := by decide +kernel
theorem dL_law_387 : decode cL_law 387 = .ok (.iconst 2, 1) := by decide +kernel
theorem dL_law_388 : decode cL_law 388 = .ok (.iadd, 1) := by decide +kernel
theorem dL_law_389 : decode cL_law 389 = .ok (.iaload, 1) := by decide +kernel
theorem dL_law_390 : decode cL_law 390 = .ok (.invokevirtual 58, 3) := by decide +kernel
theorem dL_law_393 : decode cL_law 393 = .ok (.istore 6, 2) := by decide +kernel
theorem dL_law_395 : decode cL_law 395 = .ok (.aload_n 2, 1) := by decide +kernel
theorem dL_law_396 : decode cL_law 396 = .ok (.invokevirtual 59, 3) := by decide +kernel
theorem dL_law_399 : decode cL_law 399 = .ok (.iload 5, 2) := by decide +kernel
theorem dL_law_401 : decode cL_law 401 = .ok (.if_icmp .eq 5, 3) := by decide +kernel
theorem dL_law_404 : decode cL_law 404 = .ok (.iconst 0, 1) := by decide +kernel
theorem dL_law_405 : decode cL_law 405 = .ok (.ireturn, 1) := by decide +kernel
theorem dL_law_406 : decode cL_law 406 = .ok (.iload 5, 2) := by decide +kernel
theorem dL_law_408 : decode cL_law 408 = .ok (.ifCond .ne 15, 3) := by decide +kernel
theorem dL_law_411 : decode cL_law 411 = .ok (.aload_n 3, 1) := by decide +kernel
theorem dL_law_412 : decode cL_law 412 = .ok (.iconst 0, 1) := by decide +kernel
theorem dL_law_413 : decode cL_law 413 = .ok (.laload, 1) := by decide +kernel
theorem dL_law_414 : decode cL_law 414 = .ok (.iload 6, 2) := by decide +kernel
theorem dL_law_416 : decode cL_law 416 = .ok (.i2l, 1) := by decide +kernel
theorem dL_law_417 : decode cL_law 417 = .ok (.lcmp, 1) := by decide +kernel
theorem dL_law_418 : decode cL_law 418 = .ok (.ifCond .eq 5, 3) := by decide +kernel
theorem dL_law_421 : decode cL_law 421 = .ok (.iconst 0, 1) := by decide +kernel
theorem dL_law_422 : decode cL_law 422 = .ok (.ireturn, 1) := by decide +kernel
theorem dL_law_423 : decode cL_law 423 = .ok (.goto 1020, 3) := by decide +kernel
theorem dL_law_426 : decode cL_law 426 = .ok (.aload_n 1, 1) := by decide +kernel
theorem dL_law_427 : decode cL_law 427 = .ok (.aload_n 0, 1) := by decide +kernel
theorem dL_law_428 : decode cL_law 428 = .ok (.iload 4, 2) := by decide +kernel
theorem dL_law_430 : decode cL_law 430 = .ok (.iconst 1, 1) := by decide +kernel
theorem dL_law_431 : decode cL_law 431 = .ok (.iadd, 1) := by decide +kernel
theorem dL_law_432 : decode cL_law 432 = .ok (.iaload, 1) := by decide +kernel
theorem dL_law_433 : decode cL_law 433 = .ok (.aload_n 0, 1) := by decide +kernel
theorem dL_law_434 : decode cL_law 434 = .ok (.iload 4, 2) := by decide +kernel
theorem dL_law_436 : decode cL_law 436 = .ok (.iconst 2, 1) := by decide +kernel
theorem dL_law_437 : decode cL_law 437 = .ok (.iadd, 1) := by decide +kernel
theorem dL_law_438 : decode cL_law 438 = .ok (.iaload, 1) := by decide +kernel
theorem dL_law_439 : decode cL_law 439 = .ok (.aload_n 3, 1) := by decide +kernel
theorem dL_law_440 : decode cL_law 440 = .ok (.invokestatic 62, 3) := by decide +kernel
theorem dL_law_443 : decode cL_law 443 = .ok (.istore 5, 2) := by decide +kernel
theorem dL_law_445 : decode cL_law 445 = .ok (.aload_n 2, 1) := by decide +kernel
theorem dL_law_446 : decode cL_law 446 = .ok (.aload_n 0, 1) := by decide +kernel
theorem dL_law_447 : decode cL_law 447 = .ok (.iload 4, 2) := by decide +kernel
theorem dL_law_449 : decode cL_law 449 = .ok (.iconst 1, 1) := by decide +kernel
theorem dL_law_450 : decode cL_law 450 = .ok (.iadd, 1) := by decide +kernel
theorem dL_law_451 : decode cL_law 451 = .ok (.iaload, 1) := by decide +kernel
theorem dL_law_452 : decode cL_law 452 = .ok (.aload_n 0, 1) := by decide +kernel
theorem dL_law_453 : decode cL_law 453 = .ok (.iload 4, 2) := by decide +kernel
theorem dL_law_455 : decode cL_law 455 = .ok (.iconst 2, 1) := by decide +kernel
theorem dL_law_456 : decode cL_law 456 = .ok (.iadd, 1) := by decide +kernel
theorem dL_law_457 : decode cL_law 457 = .ok (.iaload, 1) := by decide +kernel
theorem dL_law_458 : decode cL_law 458 = .ok (.invokevirtual 64, 3) := by decide +kernel
theorem dL_law_461 : decode cL_law 461 = .ok (.istore 6, 2) := by decide +kernel
theorem dL_law_463 : decode cL_law 463 = .ok (.aload_n 2, 1) := by decide +kernel
theorem dL_law_464 : decode cL_law 464 = .ok (.invokevirtual 59, 3) := by decide +kernel
theorem dL_law_467 : decode cL_law 467 = .ok (.iload 5, 2) := by decide +kernel
theorem dL_law_469 : decode cL_law 469 = .ok (.if_icmp .eq 5, 3) := by decide +kernel
theorem dL_law_472 : decode cL_law 472 = .ok (.iconst 0, 1) := by decide +kernel
theorem dL_law_473 : decode cL_law 473 = .ok (.ireturn, 1) := by decide +kernel
theorem dL_law_474 : decode cL_law 474 = .ok (.iload 5, 2) := by decide +kernel
theorem dL_law_476 : decode cL_law 476 = .ok (.ifCond .ne 15, 3) := by decide +kernel
theorem dL_law_479 : decode cL_law 479 = .ok (.aload_n 3, 1) := by decide +kernel
theorem dL_law_480 : decode cL_law 480 = .ok (.iconst 0, 1) := by decide +kernel
theorem dL_law_481 : decode cL_law 481 = .ok (.laload, 1) := by decide +kernel
theorem dL_law_482 : decode cL_law 482 = .ok (.iload 6, 2) := by decide +kernel
theorem dL_law_484 : decode cL_law 484 = .ok (.i2l, 1) := by decide +kernel
theorem dL_law_485 : decode cL_law 485 = .ok (.lcmp, 1) := by decide +kernel
theorem dL_law_486 : decode cL_law 486 = .ok (.ifCond .eq 5, 3) := by decide +kernel
theorem dL_law_489 : decode cL_law 489 = .ok (.iconst 0, 1) := by decide +kernel
theorem dL_law_490 : decode cL_law 490 = .ok (.ireturn, 1) := by decide +kernel
theorem dL_law_491 : decode cL_law 491 = .ok (.goto 952, 3) := by decide +kernel
theorem dL_law_494 : decode cL_law 494 = .ok (.aload_n 1, 1) := by decide +kernel
theorem dL_law_495 : decode cL_law 495 = .ok (.invokevirtual 65, 3) := by decide +kernel
theorem dL_law_498 : decode cL_law 498 = .ok (.aload_n 2, 1) := by decide +kernel
theorem dL_law_499 : decode cL_law 499 = .ok (.invokevirtual 68, 3) := by decide +kernel
theorem dL_law_502 : decode cL_law 502 = .ok (.if_icmp .eq 941, 3) := by decide +kernel
theorem dL_law_505 : decode cL_law 505 = .ok (.iconst 0, 1) := by decide +kernel
theorem dL_law_506 : decode cL_law 506 = .ok (.ireturn, 1) := by decide +kernel
theorem dL_law_507 : decode cL_law 507 = .ok (.aload_n 1, 1) := by decide +kernel
theorem dL_law_508 : decode cL_law 508 = .ok (.aload_n 0, 1) := by decide +kernel
theorem dL_law_509 : decode cL_law 509 = .ok (.iload 4, 2) := by decide +kernel
theorem dL_law_511 : decode cL_law 511 = .ok (.iconst 1, 1) := by decide +kernel
theorem dL_law_512 : decode cL_law 512 = .ok (.iadd, 1) := by decide +kernel
theorem dL_law_513 : decode cL_law 513 = .ok (.iaload, 1) := by decide +kernel
theorem dL_law_514 : decode cL_law 514 = .ok (.invokevirtual 69, 3) := by decide +kernel
theorem dL_law_517 : decode cL_law 517 = .ok (.aload_n 2, 1) := by decide +kernel
theorem dL_law_518 : decode cL_law 518 = .ok (.aload_n 0, 1) := by decide +kernel
theorem dL_law_519 : decode cL_law 519 = .ok (.iload 4, 2) := by decide +kernel
theorem dL_law_521 : decode cL_law 521 = .ok (.iconst 1, 1) := by decide +kernel
theorem dL_law_522 : decode cL_law 522 = .ok (.iadd, 1) := by decide +kernel
theorem dL_law_523 : decode cL_law 523 = .ok (.iaload, 1) := by decide +kernel
theorem dL_law_524 : decode cL_law 524 = .ok (.invokevirtual 72, 3) := by decide +kernel
theorem dL_law_527 : decode cL_law 527 = .ok (.if_icmp .eq 916, 3) := by decide +kernel
theorem dL_law_530 : decode cL_law 530 = .ok (.iconst 0, 1) := by decide +kernel
theorem dL_law_531 : decode cL_law 531 = .ok (.ireturn, 1) := by decide +kernel
theorem dL_law_532 : decode cL_law 532 = .ok (.aload_n 1, 1) := by decide +kernel
theorem dL_law_533 : decode cL_law 533 = .ok (.aload_n 0, 1) := by decide +kernel
theorem dL_law_534 : decode cL_law 534 = .ok (.iload 4, 2) := by decide +kernel
theorem dL_law_536 : decode cL_law 536 = .ok (.iconst 1, 1) := by decide +kernel
theorem dL_law_537 : decode cL_law 537 = .ok (.iadd, 1) := by decide +kernel
theorem dL_law_538 : decode cL_law 538 = .ok (.iaload, 1) := by decide +kernel
theorem dL_law_539 : decode cL_law 539 = .ok (.aload_n 0, 1) := by decide +kernel
theorem dL_law_540 : decode cL_law 540 = .ok (.iload 4, 2) := by decide +kernel
theorem dL_law_542 : decode cL_law 542 = .ok (.iconst 2, 1) := by decide +kernel
theorem dL_law_543 : decode cL_law 543 = .ok (.iadd, 1) := by decide +kernel
theorem dL_law_544 : decode cL_law 544 = .ok (.iaload, 1) := by decide +kernel
theorem dL_law_545 : decode cL_law 545 = .ok (.aload_n 0, 1) := by decide +kernel
theorem dL_law_546 : decode cL_law 546 = .ok (.iload 4, 2) := by decide +kernel
theorem dL_law_548 : decode cL_law 548 = .ok (.iconst 3, 1) := by decide +kernel
theorem dL_law_549 : decode cL_law 549 = .ok (.iadd, 1) := by decide +kernel
theorem dL_law_550 : decode cL_law 550 = .ok (.iaload, 1) := by decide +kernel
theorem dL_law_551 : decode cL_law 551 = .ok (.aload_n 0, 1) := by decide +kernel
theorem dL_law_552 : decode cL_law 552 = .ok (.iload 4, 2) := by decide +kernel
theorem dL_law_554 : decode cL_law 554 = .ok (.iconst 4, 1) := by decide +kernel
theorem dL_law_555 : decode cL_law 555 = .ok (.iadd, 1) := by decide +kernel
theorem dL_law_556 : decode cL_law 556 = .ok (.iaload, 1) := by decide +kernel
theorem dL_law_557 : decode cL_law 557 = .ok (.invokevirtual 73, 3) := by decide +kernel
theorem dL_law_560 : decode cL_law 560 = .ok (.aload_n 2, 1) := by decide +kernel
theorem dL_law_561 : decode cL_law 561 = .ok (.aload_n 0, 1) := by decide +kernel
theorem dL_law_562 : decode cL_law 562 = .ok (.iload 4, 2) := by decide +kernel
theorem dL_law_564 : decode cL_law 564 = .ok (.iconst 1, 1) := by decide +kernel
theorem dL_law_565 : decode cL_law 565 = .ok (.iadd, 1) := by decide +kernel
theorem dL_law_566 : decode cL_law 566 = .ok (.iaload, 1) := by decide +kernel
theorem dL_law_567 : decode cL_law 567 = .ok (.aload_n 0, 1) := by decide +kernel
theorem dL_law_568 : decode cL_law 568 = .ok (.iload 4, 2) := by decide +kernel
theorem dL_law_570 : decode cL_law 570 = .ok (.iconst 2, 1) := by decide +kernel
theorem dL_law_571 : decode cL_law 571 = .ok (.iadd, 1) := by decide +kernel
theorem dL_law_572 : decode cL_law 572 = .ok (.iaload, 1) := by decide +kernel
theorem dL_law_573 : decode cL_law 573 = .ok (.aload_n 0, 1) := by decide +kernel
theorem dL_law_574 : decode cL_law 574 = .ok (.iload 4, 2) := by decide +kernel
theorem dL_law_576 : decode cL_law 576 = .ok (.iconst 3, 1) := by decide +kernel
theorem dL_law_577 : decode cL_law 577 = .ok (.iadd, 1) := by decide +kernel
theorem dL_law_578 : decode cL_law 578 = .ok (.iaload, 1) := by decide +kernel
theorem dL_law_579 : decode cL_law 579 = .ok (.aload_n 0, 1) := by decide +kernel
theorem dL_law_580 : decode cL_law 580 = .ok (.iload 4, 2) := by decide +kernel
theorem dL_law_582 : decode cL_law 582 = .ok (.iconst 4, 1) := by decide +kernel
theorem dL_law_583 : decode cL_law 583 = .ok (.iadd, 1) := by decide +kernel
theorem dL_law_584 : decode cL_law 584 = .ok (.iaload, 1) := by decide +kernel
theorem dL_law_585 : decode cL_law 585 = .ok (.invokevirtual 77, 3) := by decide +kernel
theorem dL_law_588 : decode cL_law 588 = .ok (.if_icmp .eq 855, 3) := by decide +kernel
theorem dL_law_591 : decode cL_law 591 = .ok (.iconst 0, 1) := by decide +kernel
theorem dL_law_592 : decode cL_law 592 = .ok (.ireturn, 1) := by decide +kernel
theorem dL_law_593 : decode cL_law 593 = .ok (.aload_n 1, 1) := by decide +kernel
theorem dL_law_594 : decode cL_law 594 = .ok (.invokevirtual 78, 3) := by decide +kernel
theorem dL_law_597 : decode cL_law 597 = .ok (.aload_n 2, 1) := by decide +kernel
theorem dL_law_598 : decode cL_law 598 = .ok (.invokevirtual 81, 3) := by decide +kernel
theorem dL_law_601 : decode cL_law 601 = .ok (.if_icmp .eq 842, 3) := by decide +kernel
theorem dL_law_604 : decode cL_law 604 = .ok (.iconst 0, 1) := by decide +kernel
theorem dL_law_605 : decode cL_law 605 = .ok (.ireturn, 1) := by decide +kernel
theorem dL_law_606 : decode cL_law 606 = .ok (.aload_n 1, 1) := by decide +kernel
theorem dL_law_607 : decode cL_law 607 = .ok (.aload_n 0, 1) := by decide +kernel
theorem dL_law_608 : decode cL_law 608 = .ok (.iload 4, 2) := by decide +kernel
theorem dL_law_610 : decode cL_law 610 = .ok (.iconst 1, 1) := by decide +kernel
theorem dL_law_611 : decode cL_law 611 = .ok (.iadd, 1) := by decide +kernel
theorem dL_law_612 : decode cL_law 612 = .ok (.iaload, 1) := by decide +kernel
theorem dL_law_613 : decode cL_law 613 = .ok (.invokevirtual 82, 3) := by decide +kernel
theorem dL_law_616 : decode cL_law 616 = .ok (.aload_n 2, 1) := by decide +kernel
theorem dL_law_617 : decode cL_law 617 = .ok (.aload_n 0, 1) := by decide +kernel
theorem dL_law_618 : decode cL_law 618 = .ok (.iload 4, 2) := by decide +kernel
theorem dL_law_620 : decode cL_law 620 = .ok (.iconst 1, 1) := by decide +kernel
theorem dL_law_621 : decode cL_law 621 = .ok (.iadd, 1) := by decide +kernel
theorem dL_law_622 : decode cL_law 622 = .ok (.iaload, 1) := by decide +kernel
theorem dL_law_623 : decode cL_law 623 = .ok (.invokevirtual 85, 3) := by decide +kernel
theorem dL_law_626 : decode cL_law 626 = .ok (.if_icmp .eq 817, 3) := by decide +kernel
theorem dL_law_629 : decode cL_law 629 = .ok (.iconst 0, 1) := by decide +kernel
theorem dL_law_630 : decode cL_law 630 = .ok (.ireturn, 1) := by decide +kernel
theorem dL_law_631 : decode cL_law 631 = .ok (.aload_n 1, 1) := by decide +kernel
theorem dL_law_632 : decode cL_law 632 = .ok (.aload_n 0, 1) := by decide +kernel
theorem dL_law_633 : decode cL_law 633 = .ok (.iload 4, 2) := by decide +kernel
theorem dL_law_635 : decode cL_law 635 = .ok (.iconst 1, 1) := by decide +kernel
theorem dL_law_636 : decode cL_law 636 = .ok (.iadd, 1) := by decide +kernel
theorem dL_law_637 : decode cL_law 637 = .ok (.iaload, 1) := by decide +kernel
theorem dL_law_638 : decode cL_law 638 = .ok (.invokevirtual 86, 3) := by decide +kernel
theorem dL_law_641 : decode cL_law 641 = .ok (.aload_n 2, 1) := by decide +kernel
theorem dL_law_642 : decode cL_law 642 = .ok (.aload_n 0, 1) := by decide +kernel
theorem dL_law_643 : decode cL_law 643 = .ok (.iload 4, 2) := by decide +kernel
theorem dL_law_645 : decode cL_law 645 = .ok (.iconst 1, 1) := by decide +kernel
theorem dL_law_646 : decode cL_law 646 = .ok (.iadd, 1) := by decide +kernel
theorem dL_law_647 : decode cL_law 647 = .ok (.iaload, 1) := by decide +kernel
theorem dL_law_648 : decode cL_law 648 = .ok (.invokevirtual 89, 3) := by decide +kernel
theorem dL_law_651 : decode cL_law 651 = .ok (.if_icmp .eq 792, 3) := by decide +kernel
theorem dL_law_654 : decode cL_law 654 = .ok (.iconst 0, 1) := by decide +kernel
theorem dL_law_655 : decode cL_law 655 = .ok (.ireturn, 1) := by decide +kernel
theorem dL_law_656 : decode cL_law 656 = .ok (.aload_n 1, 1) := by decide +kernel
theorem dL_law_657 : decode cL_law 657 = .ok (.aload_n 0, 1) := by decide +kernel
theorem dL_law_658 : decode cL_law 658 = .ok (.iload 4, 2) := by decide +kernel
theorem dL_law_660 : decode cL_law 660 = .ok (.iconst 1, 1) := by decide +kernel
theorem dL_law_661 : decode cL_law 661 = .ok (.iadd, 1) := by decide +kernel
theorem dL_law_662 : decode cL_law 662 = .ok (.iaload, 1) := by decide +kernel
theorem dL_law_663 : decode cL_law 663 = .ok (.invokevirtual 90, 3) := by decide +kernel
theorem dL_law_666 : decode cL_law 666 = .ok (.aload_n 2, 1) := by decide +kernel
theorem dL_law_667 : decode cL_law 667 = .ok (.aload_n 0, 1) := by decide +kernel
theorem dL_law_668 : decode cL_law 668 = .ok (.iload 4, 2) := by decide +kernel
theorem dL_law_670 : decode cL_law 670 = .ok (.iconst 1, 1) := by decide +kernel
theorem dL_law_671 : decode cL_law 671 = .ok (.iadd, 1) := by decide +kernel
theorem dL_law_672 : decode cL_law 672 = .ok (.iaload, 1) := by decide +kernel
theorem dL_law_673 : decode cL_law 673 = .ok (.invokevirtual 93, 3) := by decide +kernel
theorem dL_law_676 : decode cL_law 676 = .ok (.if_icmp .eq 767, 3) := by decide +kernel
theorem dL_law_679 : decode cL_law 679 = .ok (.iconst 0, 1) := by decide +kernel
theorem dL_law_680 : decode cL_law 680 = .ok (.ireturn, 1) := by decide +kernel
theorem dL_law_681 : decode cL_law 681 = .ok (.aload_n 1, 1) := by decide +kernel
theorem dL_law_682 : decode cL_law 682 = .ok (.aload_n 0, 1) := by decide +kernel
theorem dL_law_683 : decode cL_law 683 = .ok (.iload 4, 2) := by decide +kernel
theorem dL_law_685 : decode cL_law 685 = .ok (.iconst 1, 1) := by decide +kernel
theorem dL_law_686 : decode cL_law 686 = .ok (.iadd, 1) := by decide +kernel
theorem dL_law_687 : decode cL_law 687 = .ok (.iaload, 1) := by decide +kernel
theorem dL_law_688 : decode cL_law 688 = .ok (.invokevirtual 94, 3) := by decide +kernel
theorem dL_law_691 : decode cL_law 691 = .ok (.aload_n 2, 1) := by decide +kernel
theorem dL_law_692 : decode cL_law 692 = .ok (.aload_n 0, 1) := by decide +kernel
theorem dL_law_693 : decode cL_law 693 = .ok (.iload 4, 2) := by decide +kernel
theorem dL_law_695 : decode cL_law 695 = .ok (.iconst 1, 1) := by decide +kernel
theorem dL_law_696 : decode cL_law 696 = .ok (.iadd, 1) := by decide +kernel
theorem dL_law_697 : decode cL_law 697 = .ok (.iaload, 1) := by decide +kernel
theorem dL_law_698 : decode cL_law 698 = .ok (.invokevirtual 97, 3) := by decide +kernel
theorem dL_law_701 : decode cL_law 701 = .ok (.if_icmp .eq 742, 3) := by decide +kernel
theorem dL_law_704 : decode cL_law 704 = .ok (.iconst 0, 1) := by decide +kernel
theorem dL_law_705 : decode cL_law 705 = .ok (.ireturn, 1) := by decide +kernel
theorem dL_law_706 : decode cL_law 706 = .ok (.aload_n 1, 1) := by decide +kernel
theorem dL_law_707 : decode cL_law 707 = .ok (.invokevirtual 98, 3) := by decide +kernel
theorem dL_law_710 : decode cL_law 710 = .ok (.aload_n 2, 1) := by decide +kernel
theorem dL_law_711 : decode cL_law 711 = .ok (.invokevirtual 101, 3) := by decide +kernel
theorem dL_law_714 : decode cL_law 714 = .ok (.if_icmp .eq 729, 3) := by decide +kernel
theorem dL_law_717 : decode cL_law 717 = .ok (.iconst 0, 1) := by decide +kernel
theorem dL_law_718 : decode cL_law 718 = .ok (.ireturn, 1) := by decide +kernel
theorem dL_law_719 : decode cL_law 719 = .ok (.aload_n 1, 1) := by decide +kernel
theorem dL_law_720 : decode cL_law 720 = .ok (.invokevirtual 102, 3) := by decide +kernel
theorem dL_law_723 : decode cL_law 723 = .ok (.aload_n 2, 1) := by decide +kernel
theorem dL_law_724 : decode cL_law 724 = .ok (.invokevirtual 105, 3) := by decide +kernel
theorem dL_law_727 : decode cL_law 727 = .ok (.if_icmp .eq 716, 3) := by decide +kernel
theorem dL_law_730 : decode cL_law 730 = .ok (.iconst 0, 1) := by decide +kernel
theorem dL_law_731 : decode cL_law 731 = .ok (.ireturn, 1) := by decide +kernel
theorem dL_law_732 : decode cL_law 732 = .ok (.aload_n 1, 1) := by decide +kernel
theorem dL_law_733 : decode cL_law 733 = .ok (.aload_n 0, 1) := by decide +kernel
theorem dL_law_734 : decode cL_law 734 = .ok (.iload 4, 2) := by decide +kernel
theorem dL_law_736 : decode cL_law 736 = .ok (.iconst 1, 1) := by decide +kernel
theorem dL_law_737 : decode cL_law 737 = .ok (.iadd, 1) := by decide +kernel
theorem dL_law_738 : decode cL_law 738 = .ok (.iaload, 1) := by decide +kernel
theorem dL_law_739 : decode cL_law 739 = .ok (.invokevirtual 106, 3) := by decide +kernel
theorem dL_law_742 : decode cL_law 742 = .ok (.aload_n 2, 1) := by decide +kernel
theorem dL_law_743 : decode cL_law 743 = .ok (.aload_n 0, 1) := by decide +kernel
theorem dL_law_744 : decode cL_law 744 = .ok (.iload 4, 2) := by decide +kernel
theorem dL_law_746 : decode cL_law 746 = .ok (.iconst 1, 1) := by decide +kernel
theorem dL_law_747 : decode cL_law 747 = .ok (.iadd, 1) := by decide +kernel
theorem dL_law_748 : decode cL_law 748 = .ok (.iaload, 1) := by decide +kernel
theorem dL_law_749 : decode cL_law 749 = .ok (.invokevirtual 109, 3) := by decide +kernel
theorem dL_law_752 : decode cL_law 752 = .ok (.if_icmp .eq 691, 3) := by decide +kernel
theorem dL_law_755 : decode cL_law 755 = .ok (.iconst 0, 1) := by decide +kernel
theorem dL_law_756 : decode cL_law 756 = .ok (.ireturn, 1) := by decide +kernel
theorem dL_law_757 : decode cL_law 757 = .ok (.aload_n 1, 1) := by decide +kernel
theorem dL_law_758 : decode cL_law 758 = .ok (.invokevirtual 110, 3) := by decide +kernel
theorem dL_law_761 : decode cL_law 761 = .ok (.aload_n 2, 1) := by decide +kernel
theorem dL_law_762 : decode cL_law 762 = .ok (.invokevirtual 113, 3) := by decide +kernel
theorem dL_law_765 : decode cL_law 765 = .ok (.if_icmp .eq 678, 3) := by decide +kernel
theorem dL_law_768 : decode cL_law 768 = .ok (.iconst 0, 1) := by decide +kernel
theorem dL_law_769 : decode cL_law 769 = .ok (.ireturn, 1) := by decide +kernel
theorem dL_law_770 : decode cL_law 770 = .ok (.aload_n 1, 1) := by decide +kernel
theorem dL_law_771 : decode cL_law 771 = .ok (.invokevirtual 114, 3) := by decide +kernel
theorem dL_law_774 : decode cL_law 774 = .ok (.aload_n 2, 1) := by decide +kernel
theorem dL_law_775 : decode cL_law 775 = .ok (.invokevirtual 117, 3) := by decide +kernel
theorem dL_law_778 : decode cL_law 778 = .ok (.if_icmp .eq 665, 3) := by decide +kernel
theorem dL_law_781 : decode cL_law 781 = .ok (.iconst 0, 1) := by decide +kernel
theorem dL_law_782 : decode cL_law 782 = .ok (.ireturn, 1) := by decide +kernel
theorem dL_law_783 : decode cL_law 783 = .ok (.aload_n 1, 1) := by decide +kernel
theorem dL_law_784 : decode cL_law 784 = .ok (.invokevirtual 118, 3) := by decide +kernel
theorem dL_law_787 : decode cL_law 787 = .ok (.aload_n 2, 1) := by decide +kernel
theorem dL_law_788 : decode cL_law 788 = .ok (.invokevirtual 121, 3) := by decide +kernel
theorem dL_law_791 : decode cL_law 791 = .ok (.if_icmp .eq 652, 3) := by decide +kernel
theorem dL_law_794 : decode cL_law 794 = .ok (.iconst 0, 1) := by decide +kernel
theorem dL_law_795 : decode cL_law 795 = .ok (.ireturn, 1) := by decide +kernel
theorem dL_law_796 : decode cL_law 796 = .ok (.aload_n 1, 1) := by decide +kernel
theorem dL_law_797 : decode cL_law 797 = .ok (.invokevirtual 122, 3) := by decide +kernel
theorem dL_law_800 : decode cL_law 800 = .ok (.aload_n 2, 1) := by decide +kernel
theorem dL_law_801 : decode cL_law 801 = .ok (.invokevirtual 125, 3) := by decide +kernel
theorem dL_law_804 : decode cL_law 804 = .ok (.if_icmp .eq 639, 3) := by decide +kernel
theorem dL_law_807 : decode cL_law 807 = .ok (.iconst 0, 1) := by decide +kernel
theorem dL_law_808 : decode cL_law 808 = .ok (.ireturn, 1) := by decide +kernel
theorem dL_law_809 : decode cL_law 809 = .ok (.aload_n 1, 1) := by decide +kernel
theorem dL_law_810 : decode cL_law 810 = .ok (.invokevirtual 126, 3) := by decide +kernel
theorem dL_law_813 : decode cL_law 813 = .ok (.aload_n 2, 1) := by decide +kernel
theorem dL_law_814 : decode cL_law 814 = .ok (.invokevirtual 129, 3) := by decide +kernel
theorem dL_law_817 : decode cL_law 817 = .ok (.if_icmp .eq 626, 3) := by decide +kernel
theorem dL_law_820 : decode cL_law 820 = .ok (.iconst 0, 1) := by decide +kernel
theorem dL_law_821 : decode cL_law 821 = .ok (.ireturn, 1) := by decide +kernel
theorem dL_law_822 : decode cL_law 822 = .ok (.aload_n 1, 1) := by decide +kernel
theorem dL_law_823 : decode cL_law 823 = .ok (.aload_n 0, 1) := by decide +kernel
theorem dL_law_824 : decode cL_law 824 = .ok (.iload 4, 2) := by decide +kernel
theorem dL_law_826 : decode cL_law 826 = .ok (.iconst 1, 1) := by decide +kernel
theorem dL_law_827 : decode cL_law 827 = .ok (.iadd, 1) := by decide +kernel
theorem dL_law_828 : decode cL_law 828 = .ok (.iaload, 1) := by decide +kernel
theorem dL_law_829 : decode cL_law 829 = .ok (.invokevirtual 130, 3) := by decide +kernel
theorem dL_law_832 : decode cL_law 832 = .ok (.aload_n 2, 1) := by decide +kernel
theorem dL_law_833 : decode cL_law 833 = .ok (.aload_n 0, 1) := by decide +kernel
theorem dL_law_834 : decode cL_law 834 = .ok (.iload 4, 2) := by decide +kernel
theorem dL_law_836 : decode cL_law 836 = .ok (.iconst 1, 1) := by decide +kernel
theorem dL_law_837 : decode cL_law 837 = .ok (.iadd, 1) := by decide +kernel
theorem dL_law_838 : decode cL_law 838 = .ok (.iaload, 1) := by decide +kernel
theorem dL_law_839 : decode cL_law 839 = .ok (.invokevirtual 133, 3) := by decide +kernel
theorem dL_law_842 : decode cL_law 842 = .ok (.if_icmp .eq 601, 3) := by decide +kernel
theorem dL_law_845 : decode cL_law 845 = .ok (.iconst 0, 1) := by decide +kernel
theorem dL_law_846 : decode cL_law 846 = .ok (.ireturn, 1) := by decide +kernel
theorem dL_law_847 : decode cL_law 847 = .ok (.aload_n 1, 1) := by decide +kernel
theorem dL_law_848 : decode cL_law 848 = .ok (.invokevirtual 134, 3) := by decide +kernel
theorem dL_law_851 : decode cL_law 851 = .ok (.aload_n 2, 1) := by decide +kernel
theorem dL_law_852 : decode cL_law 852 = .ok (.invokevirtual 137, 3) := by decide +kernel
theorem dL_law_855 : decode cL_law 855 = .ok (.if_icmp .eq 588, 3) := by decide +kernel
theorem dL_law_858 : decode cL_law 858 = .ok (.iconst 0, 1) := by decide +kernel
theorem dL_law_859 : decode cL_law 859 = .ok (.ireturn, 1) := by decide +kernel
theorem dL_law_860 : decode cL_law 860 = .ok (.aload_n 1, 1) := by decide +kernel
theorem dL_law_861 : decode cL_law 861 = .ok (.invokevirtual 138, 3) := by decide +kernel
theorem dL_law_864 : decode cL_law 864 = .ok (.aload_n 2, 1) := by decide +kernel
theorem dL_law_865 : decode cL_law 865 = .ok (.invokevirtual 141, 3) := by decide +kernel
theorem dL_law_868 : decode cL_law 868 = .ok (.if_icmp .eq 575, 3) := by decide +kernel
theorem dL_law_871 : decode cL_law 871 = .ok (.iconst 0, 1) := by decide +kernel
theorem dL_law_872 : decode cL_law 872 = .ok (.ireturn, 1) := by decide +kernel
theorem dL_law_873 : decode cL_law 873 = .ok (.aload_n 1, 1) := by decide +kernel
theorem dL_law_874 : decode cL_law 874 = .ok (.invokevirtual 142, 3) := by decide +kernel
theorem dL_law_877 : decode cL_law 877 = .ok (.aload_n 2, 1) := by decide +kernel
theorem dL_law_878 : decode cL_law 878 = .ok (.invokevirtual 145, 3) := by decide +kernel
theorem dL_law_881 : decode cL_law 881 = .ok (.if_icmp .eq 562, 3) := by decide +kernel
theorem dL_law_884 : decode cL_law 884 = .ok (.iconst 0, 1) := by decide +kernel
theorem dL_law_885 : decode cL_law 885 = .ok (.ireturn, 1) := by decide +kernel
theorem dL_law_886 : decode cL_law 886 = .ok (.aload_n 1, 1) := by decide +kernel
theorem dL_law_887 : decode cL_law 887 = .ok (.aload_n 0, 1) := by decide +kernel
theorem dL_law_888 : decode cL_law 888 = .ok (.iload 4, 2) := by decide +kernel
theorem dL_law_890 : decode cL_law 890 = .ok (.iconst 1, 1) := by decide +kernel
theorem dL_law_891 : decode cL_law 891 = .ok (.iadd, 1) := by decide +kernel
theorem dL_law_892 : decode cL_law 892 = .ok (.iaload, 1) := by decide +kernel
theorem dL_law_893 : decode cL_law 893 = .ok (.invokevirtual 146, 3) := by decide +kernel
theorem dL_law_896 : decode cL_law 896 = .ok (.aload_n 2, 1) := by decide +kernel
theorem dL_law_897 : decode cL_law 897 = .ok (.aload_n 0, 1) := by decide +kernel
theorem dL_law_898 : decode cL_law 898 = .ok (.iload 4, 2) := by decide +kernel
theorem dL_law_900 : decode cL_law 900 = .ok (.iconst 1, 1) := by decide +kernel
theorem dL_law_901 : decode cL_law 901 = .ok (.iadd, 1) := by decide +kernel
theorem dL_law_902 : decode cL_law 902 = .ok (.iaload, 1) := by decide +kernel
theorem dL_law_903 : decode cL_law 903 = .ok (.invokevirtual 149, 3) := by decide +kernel
theorem dL_law_906 : decode cL_law 906 = .ok (.if_icmp .eq 537, 3) := by decide +kernel
theorem dL_law_909 : decode cL_law 909 = .ok (.iconst 0, 1) := by decide +kernel
theorem dL_law_910 : decode cL_law 910 = .ok (.ireturn, 1) := by decide +kernel
theorem dL_law_911 : decode cL_law 911 = .ok (.aload_n 1, 1) := by decide +kernel
theorem dL_law_912 : decode cL_law 912 = .ok (.invokevirtual 150, 3) := by decide +kernel
theorem dL_law_915 : decode cL_law 915 = .ok (.aload_n 2, 1) := by decide +kernel
theorem dL_law_916 : decode cL_law 916 = .ok (.invokevirtual 153, 3) := by decide +kernel
theorem dL_law_919 : decode cL_law 919 = .ok (.if_icmp .eq 524, 3) := by decide +kernel
theorem dL_law_922 : decode cL_law 922 = .ok (.iconst 0, 1) := by decide +kernel
theorem dL_law_923 : decode cL_law 923 = .ok (.ireturn, 1) := by decide +kernel
theorem dL_law_924 : decode cL_law 924 = .ok (.aload_n 1, 1) := by decide +kernel
theorem dL_law_925 : decode cL_law 925 = .ok (.aload_n 0, 1) := by decide +kernel
theorem dL_law_926 : decode cL_law 926 = .ok (.iload 4, 2) := by decide +kernel
theorem dL_law_928 : decode cL_law 928 = .ok (.iconst 1, 1) := by decide +kernel
theorem dL_law_929 : decode cL_law 929 = .ok (.iadd, 1) := by decide +kernel
theorem dL_law_930 : decode cL_law 930 = .ok (.iaload, 1) := by decide +kernel
theorem dL_law_931 : decode cL_law 931 = .ok (.invokevirtual 154, 3) := by decide +kernel
theorem dL_law_934 : decode cL_law 934 = .ok (.aload_n 2, 1) := by decide +kernel
theorem dL_law_935 : decode cL_law 935 = .ok (.aload_n 0, 1) := by decide +kernel
theorem dL_law_936 : decode cL_law 936 = .ok (.iload 4, 2) := by decide +kernel
theorem dL_law_938 : decode cL_law 938 = .ok (.iconst 1, 1) := by decide +kernel
theorem dL_law_939 : decode cL_law 939 = .ok (.iadd, 1) := by decide +kernel
theorem dL_law_940 : decode cL_law 940 = .ok (.iaload, 1) := by decide +kernel
theorem dL_law_941 : decode cL_law 941 = .ok (.invokevirtual 157, 3) := by decide +kernel
theorem dL_law_944 : decode cL_law 944 = .ok (.if_icmp .eq 499, 3) := by decide +kernel
theorem dL_law_947 : decode cL_law 947 = .ok (.iconst 0, 1) := by decide +kernel
theorem dL_law_948 : decode cL_law 948 = .ok (.ireturn, 1) := by decide +kernel
theorem dL_law_949 : decode cL_law 949 = .ok (.aload_n 1, 1) := by decide +kernel
theorem dL_law_950 : decode cL_law 950 = .ok (.aload_n 0, 1) := by decide +kernel
theorem dL_law_951 : decode cL_law 951 = .ok (.iload 4, 2) := by decide +kernel
theorem dL_law_953 : decode cL_law 953 = .ok (.iconst 1, 1) := by decide +kernel
theorem dL_law_954 : decode cL_law 954 = .ok (.iadd, 1) := by decide +kernel
theorem dL_law_955 : decode cL_law 955 = .ok (.iaload, 1) := by decide +kernel
theorem dL_law_956 : decode cL_law 956 = .ok (.invokevirtual 158, 3) := by decide +kernel
theorem dL_law_959 : decode cL_law 959 = .ok (.aload_n 2, 1) := by decide +kernel
theorem dL_law_960 : decode cL_law 960 = .ok (.aload_n 0, 1) := by decide +kernel
theorem dL_law_961 : decode cL_law 961 = .ok (.iload 4, 2) := by decide +kernel
theorem dL_law_963 : decode cL_law 963 = .ok (.iconst 1, 1) := by decide +kernel
theorem dL_law_964 : decode cL_law 964 = .ok (.iadd, 1) := by decide +kernel
theorem dL_law_965 : decode cL_law 965 = .ok (.iaload, 1) := by decide +kernel
theorem dL_law_966 : decode cL_law 966 = .ok (.invokevirtual 161, 3) := by decide +kernel
theorem dL_law_969 : decode cL_law 969 = .ok (.if_icmp .eq 474, 3) := by decide +kernel
theorem dL_law_972 : decode cL_law 972 = .ok (.iconst 0, 1) := by decide +kernel
theorem dL_law_973 : decode cL_law 973 = .ok (.ireturn, 1) := by decide +kernel
theorem dL_law_974 : decode cL_law 974 = .ok (.aload_n 1, 1) := by decide +kernel
theorem dL_law_975 : decode cL_law 975 = .ok (.aload_n 0, 1) := by decide +kernel
theorem dL_law_976 : decode cL_law 976 = .ok (.iload 4, 2) := by decide +kernel
theorem dL_law_978 : decode cL_law 978 = .ok (.iconst 1, 1) := by decide +kernel
theorem dL_law_979 : decode cL_law 979 = .ok (.iadd, 1) := by decide +kernel
theorem dL_law_980 : decode cL_law 980 = .ok (.iaload, 1) := by decide +kernel
theorem dL_law_981 : decode cL_law 981 = .ok (.invokevirtual 162, 3) := by decide +kernel
theorem dL_law_984 : decode cL_law 984 = .ok (.aload_n 2, 1) := by decide +kernel
theorem dL_law_985 : decode cL_law 985 = .ok (.aload_n 0, 1) := by decide +kernel
theorem dL_law_986 : decode cL_law 986 = .ok (.iload 4, 2) := by decide +kernel
theorem dL_law_988 : decode cL_law 988 = .ok (.iconst 1, 1) := by decide +kernel
theorem dL_law_989 : decode cL_law 989 = .ok (.iadd, 1) := by decide +kernel
theorem dL_law_990 : decode cL_law 990 = .ok (.iaload, 1) := by decide +kernel
theorem dL_law_991 : decode cL_law 991 = .ok (.invokevirtual 165, 3) := by decide +kernel
