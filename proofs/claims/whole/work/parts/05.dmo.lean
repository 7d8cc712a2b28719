theorem dX4_init_0 : decode cX4_init 0 = .ok (.aload_n 0, 1) := by decide +kernel
theorem dX4_init_1 : decode cX4_init 1 = .ok (.invokespecial 1, 3) := by decide +kernel
theorem dX4_init_4 : decode cX4_init 4 = .ok (.aload_n 0, 1) := by decide +kernel
theorem dX4_init_5 : decode cX4_init 5 = .ok (.bipush 6, 2) := by decide +kernel
theorem dX4_init_7 : decode cX4_init 7 = .ok (.newarray .int, 2) := by decide +kernel
theorem dX4_init_9 : decode cX4_init 9 = .ok (.putfield 7, 3) := by decide +kernel
theorem dX4_init_12 : decode cX4_init 12 = .ok (.aload_n 0, 1) := by decide +kernel
theorem dX4_init_13 : decode cX4_init 13 = .ok (.bipush 6, 2) := by decide +kernel
theorem dX4_init_15 : decode cX4_init 15 = .ok (.newarray .int, 2) := by decide +kernel
theorem dX4_init_17 : decode cX4_init 17 = .ok (.putfield 13, 3) := by decide +kernel
theorem dX4_init_20 : decode cX4_init 20 = .ok (.aload_n 0, 1) := by decide +kernel
theorem dX4_init_21 : decode cX4_init 21 = .ok (.bipush 6, 2) := by decide +kernel
theorem dX4_init_23 : decode cX4_init 23 = .ok (.newarray .int, 2) := by decide +kernel
theorem dX4_init_25 : decode cX4_init 25 = .ok (.putfield 16, 3) := by decide +kernel
theorem dX4_init_28 : decode cX4_init 28 = .ok (.aload_n 0, 1) := by decide +kernel
theorem dX4_init_29 : decode cX4_init 29 = .ok (.bipush 6, 2) := by decide +kernel
theorem dX4_init_31 : decode cX4_init 31 = .ok (.newarray .boolean, 2) := by decide +kernel
theorem dX4_init_33 : decode cX4_init 33 = .ok (.putfield 19, 3) := by decide +kernel
theorem dX4_init_36 : decode cX4_init 36 = .ok (.aload_n 0, 1) := by decide +kernel
theorem dX4_init_37 : decode cX4_init 37 = .ok (.bipush 6, 2) := by decide +kernel
theorem dX4_init_39 : decode cX4_init 39 = .ok (.newarray .int, 2) := by decide +kernel
theorem dX4_init_41 : decode cX4_init 41 = .ok (.putfield 23, 3) := by decide +kernel
theorem dX4_init_44 : decode cX4_init 44 = .ok (.aload_n 0, 1) := by decide +kernel
theorem dX4_init_45 : decode cX4_init 45 = .ok (.bipush 60, 2) := by decide +kernel
theorem dX4_init_47 : decode cX4_init 47 = .ok (.newarray .boolean, 2) := by decide +kernel
theorem dX4_init_49 : decode cX4_init 49 = .ok (.putfield 26, 3) := by decide +kernel
theorem dX4_init_52 : decode cX4_init 52 = .ok (.aload_n 0, 1) := by decide +kernel
theorem dX4_init_53 : decode cX4_init 53 = .ok (.bipush 60, 2) := by decide +kernel
theorem dX4_init_55 : decode cX4_init 55 = .ok (.newarray .int, 2) := by decide +kernel
theorem dX4_init_57 : decode cX4_init 57 = .ok (.putfield 29, 3) := by decide +kernel
theorem dX4_init_60 : decode cX4_init 60 = .ok (.aload_n 0, 1) := by decide +kernel
theorem dX4_init_61 : decode cX4_init 61 = .ok (.bipush 60, 2) := by decide +kernel
theorem dX4_init_63 : decode cX4_init 63 = .ok (.newarray .int, 2) := by decide +kernel
theorem dX4_init_65 : decode cX4_init 65 = .ok (.putfield 32, 3) := by decide +kernel
theorem dX4_init_68 : decode cX4_init 68 = .ok (.aload_n 0, 1) := by decide +kernel
theorem dX4_init_69 : decode cX4_init 69 = .ok (.sipush 360, 3) := by decide +kernel
theorem dX4_init_72 : decode cX4_init 72 = .ok (.newarray .int, 2) := by decide +kernel
theorem dX4_init_74 : decode cX4_init 74 = .ok (.putfield 35, 3) := by decide +kernel
theorem dX4_init_77 : decode cX4_init 77 = .ok (.aload_n 0, 1) := by decide +kernel
theorem dX4_init_78 : decode cX4_init 78 = .ok (.bipush 6, 2) := by decide +kernel
theorem dX4_init_80 : decode cX4_init 80 = .ok (.newarray .int, 2) := by decide +kernel
theorem dX4_init_82 : decode cX4_init 82 = .ok (.putfield 38, 3) := by decide +kernel
theorem dX4_init_85 : decode cX4_init 85 = .ok (.aload_n 0, 1) := by decide +kernel
theorem dX4_init_86 : decode cX4_init 86 = .ok (.sipush 360, 3) := by decide +kernel
theorem dX4_init_89 : decode cX4_init 89 = .ok (.newarray .int, 2) := by decide +kernel
theorem dX4_init_91 : decode cX4_init 91 = .ok (.putfield 41, 3) := by decide +kernel
theorem dX4_init_94 : decode cX4_init 94 = .ok (.aload_n 0, 1) := by decide +kernel
theorem dX4_init_95 : decode cX4_init 95 = .ok (.iconst 4, 1) := by decide +kernel
theorem dX4_init_96 : decode cX4_init 96 = .ok (.newarray .int, 2) := by decide +kernel
theorem dX4_init_98 : decode cX4_init 98 = .ok (.putfield 44, 3) := by decide +kernel
theorem dX4_init_101 : decode cX4_init 101 = .ok (.aload_n 0, 1) := by decide +kernel
theorem dX4_init_102 : decode cX4_init 102 = .ok (.bipush 6, 2) := by decide +kernel
theorem dX4_init_104 : decode cX4_init 104 = .ok (.newarray .int, 2) := by decide +kernel
theorem dX4_init_106 : decode cX4_init 106 = .ok (.putfield 47, 3) := by decide +kernel
theorem dX4_init_109 : decode cX4_init 109 = .ok (.aload_n 0, 1) := by decide +kernel
theorem dX4_init_110 : decode cX4_init 110 = .ok (.bipush 60, 2) := by decide +kernel
theorem dX4_init_112 : decode cX4_init 112 = .ok (.newarray .boolean, 2) := by decide +kernel
theorem dX4_init_114 : decode cX4_init 114 = .ok (.putfield 50, 3) := by decide +kernel
theorem dX4_init_117 : decode cX4_init 117 = .ok (.aload_n 0, 1) := by decide +kernel
theorem dX4_init_118 : decode cX4_init 118 = .ok (.iconst (-1), 1) := by decide +kernel
theorem dX4_init_119 : decode cX4_init 119 = .ok (.putfield 53, 3) := by decide +kernel
theorem dX4_init_122 : decode cX4_init 122 = .ok (.iconst 0, 1) := by decide +kernel
theorem dX4_init_123 : decode cX4_init 123 = .ok (.istore_n 1, 1) := by decide +kernel
theorem dX4_init_124 : decode cX4_init 124 = .ok (.iload_n 1, 1) := by decide +kernel
theorem dX4_init_125 : decode cX4_init 125 = .ok (.iconst 4, 1) := by decide +kernel
theorem dX4_init_126 : decode cX4_init 126 = .ok (.if_icmp .ge 16, 3) := by decide +kernel
theorem dX4_init_129 : decode cX4_init 129 = .ok (.aload_n 0, 1) := by decide +kernel
theorem dX4_init_130 : decode cX4_init 130 = .ok (.getfield 44, 3) := by decide +kernel
theorem dX4_init_133 : decode cX4_init 133 = .ok (.iload_n 1, 1) := by decide +kernel
theorem dX4_init_134 : decode cX4_init 134 = .ok (.iconst (-1), 1) := by decide +kernel
theorem dX4_init_135 : decode cX4_init 135 = .ok (.iastore, 1) := by decide +kernel
theorem dX4_init_136 : decode cX4_init 136 = .ok (.iinc 1 1, 3) := by decide +kernel
theorem dX4_init_139 : decode cX4_init 139 = .ok (.goto (-15), 3) := by decide +kernel
theorem dX4_init_142 : decode cX4_init 142 = .ok (.iconst 0, 1) := by decide +kernel
theorem dX4_init_143 : decode cX4_init 143 = .ok (.istore_n 1, 1) := by decide +kernel
theorem dX4_init_144 : decode cX4_init 144 = .ok (.iload_n 1, 1) := by decide +kernel
theorem dX4_init_145 : decode cX4_init 145 = .ok (.bipush 6, 2) := by decide +kernel
theorem dX4_init_147 : decode cX4_init 147 = .ok (.if_icmp .ge 16, 3) := by decide +kernel
theorem dX4_init_150 : decode cX4_init 150 = .ok (.aload_n 0, 1) := by decide +kernel
theorem dX4_init_151 : decode cX4_init 151 = .ok (.getfield 47, 3) := by decide +kernel
theorem dX4_init_154 : decode cX4_init 154 = .ok (.iload_n 1, 1) := by decide +kernel
theorem dX4_init_155 : decode cX4_init 155 = .ok (.iconst (-1), 1) := by decide +kernel
theorem dX4_init_156 : decode cX4_init 156 = .ok (.iastore, 1) := by decide +kernel
theorem dX4_init_157 : decode cX4_init 157 = .ok (.iinc 1 1, 3) := by decide +kernel
theorem dX4_init_160 : decode cX4_init 160 = .ok (.goto (-16), 3) := by decide +kernel
theorem dX4_init_163 : decode cX4_init 163 = .ok (.iconst 0, 1) := by decide +kernel
theorem dX4_init_164 : decode cX4_init 164 = .ok (.istore_n 1, 1) := by decide +kernel
theorem dX4_init_165 : decode cX4_init 165 = .ok (.iload_n 1, 1) := by decide +kernel
theorem dX4_init_166 : decode cX4_init 166 = .ok (.sipush 360, 3) := by decide +kernel
theorem dX4_init_169 : decode cX4_init 169 = .ok (.if_icmp .ge 16, 3) := by decide +kernel
theorem dX4_init_172 : decode cX4_init 172 = .ok (.aload_n 0, 1) := by decide +kernel
theorem dX4_init_173 : decode cX4_init 173 = .ok (.getfield 35, 3) := by decide +kernel
theorem dX4_init_176 : decode cX4_init 176 = .ok (.iload_n 1, 1) := by decide +kernel
theorem dX4_init_177 : decode cX4_init 177 = .ok (.iconst (-1), 1) := by decide +kernel
theorem dX4_init_178 : decode cX4_init 178 = .ok (.iastore, 1) := by decide +kernel
theorem dX4_init_179 : decode cX4_init 179 = .ok (.iinc 1 1, 3) := by decide +kernel
theorem dX4_init_182 : decode cX4_init 182 = .ok (.goto (-17), 3) := by decide +kernel
theorem dX4_init_185 : decode cX4_init 185 = .ok (.return_, 1) := by decide +kernel
theorem dX4_thrown_0 : decode cX4_thrown 0 = .ok (.aload_n 0, 1) := by decide +kernel
theorem dX4_thrown_1 : decode cX4_thrown 1 = .ok (.getfield 57, 3) := by decide +kernel
theorem dX4_thrown_4 : decode cX4_thrown 4 = .ok (.ireturn, 1) := by decide +kernel
theorem dX4_can_0 : decode cX4_can 0 = .ok (.aload_n 0, 1) := by decide +kernel
theorem dX4_can_1 : decode cX4_can 1 = .ok (.iload_n 1, 1) := by decide +kernel
theorem dX4_can_2 : decode cX4_can 2 = .ok (.putfield 57, 3) := by decide +kernel
theorem dX4_can_5 : decode cX4_can 5 = .ok (.iload_n 1, 1) := by decide +kernel
theorem dX4_can_6 : decode cX4_can 6 = .ok (.ifCond .ne 7, 3) := by decide +kernel
theorem dX4_can_9 : decode cX4_can 9 = .ok (.iconst 1, 1) := by decide +kernel
theorem dX4_can_10 : decode cX4_can 10 = .ok (.goto 4, 3) := by decide +kernel
theorem dX4_can_13 : decode cX4_can 13 = .ok (.iconst 0, 1) := by decide +kernel
theorem dX4_can_14 : decode cX4_can 14 = .ok (.ireturn, 1) := by decide +kernel
theorem dX4_isIn_0 : decode cX4_isIn 0 = .ok (.iload_n 0, 1) := by decide +kernel
theorem dX4_isIn_1 : decode cX4_isIn 1 = .ok (.iload_n 1, 1) := by decide +kernel
theorem dX4_isIn_2 : decode cX4_isIn 2 = .ok (.if_icmp .lt 12, 3) := by decide +kernel
theorem dX4_isIn_5 : decode cX4_isIn 5 = .ok (.iload_n 0, 1) := by decide +kernel
theorem dX4_isIn_6 : decode cX4_isIn 6 = .ok (.iload_n 2, 1) := by decide +kernel
theorem dX4_isIn_7 : decode cX4_isIn 7 = .ok (.if_icmp .gt 7, 3) := by decide +kernel
theorem dX4_isIn_10 : decode cX4_isIn 10 = .ok (.iconst 1, 1) := by decide +kernel
theorem dX4_isIn_11 : decode cX4_isIn 11 = .ok (.goto 4, 3) := by decide +kernel
theorem dX4_isIn_14 : decode cX4_isIn 14 = .ok (.iconst 0, 1) := by decide +kernel
theorem dX4_isIn_15 : decode cX4_isIn 15 = .ok (.ireturn, 1) := by decide +kernel
theorem dX4_isSet_0 : decode cX4_isSet 0 = .ok (.iload_n 1, 1) := by decide +kernel
theorem dX4_isSet_1 : decode cX4_isSet 1 = .ok (.iconst 0, 1) := by decide +kernel
theorem dX4_isSet_2 : decode cX4_isSet 2 = .ok (.aload_n 0, 1) := by decide +kernel
theorem dX4_isSet_3 : decode cX4_isSet 3 = .ok (.getfield 60, 3) := by decide +kernel
theorem dX4_isSet_6 : decode cX4_isSet 6 = .ok (.iconst 1, 1) := by decide +kernel
theorem dX4_isSet_7 : decode cX4_isSet 7 = .ok (.isub, 1) := by decide +kernel
theorem dX4_isSet_8 : decode cX4_isSet 8 = .ok (.invokestatic 63, 3) := by decide +kernel
theorem dX4_isSet_11 : decode cX4_isSet 11 = .ok (.ireturn, 1) := by decide +kernel
theorem dX4_isRecord_0 : decode cX4_isRecord 0 = .ok (.iload_n 1, 1) := by decide +kernel
theorem dX4_isRecord_1 : decode cX4_isRecord 1 = .ok (.iconst 0, 1) := by decide +kernel
theorem dX4_isRecord_2 : decode cX4_isRecord 2 = .ok (.aload_n 0, 1) := by decide +kernel
theorem dX4_isRecord_3 : decode cX4_isRecord 3 = .ok (.getfield 67, 3) := by decide +kernel
theorem dX4_isRecord_6 : decode cX4_isRecord 6 = .ok (.iconst 1, 1) := by decide +kernel
theorem dX4_isRecord_7 : decode cX4_isRecord 7 = .ok (.isub, 1) := by decide +kernel
theorem dX4_isRecord_8 : decode cX4_isRecord 8 = .ok (.invokestatic 63, 3) := by decide +kernel
theorem dX4_isRecord_11 : decode cX4_isRecord 11 = .ok (.ifCond .eq 16, 3) := by decide +kernel
theorem dX4_isRecord_14 : decode cX4_isRecord 14 = .ok (.aload_n 0, 1) := by decide +kernel
theorem dX4_isRecord_15 : decode cX4_isRecord 15 = .ok (.getfield 26, 3) := by decide +kernel
theorem dX4_isRecord_18 : decode cX4_isRecord 18 = .ok (.iload_n 1, 1) := by decide +kernel
theorem dX4_isRecord_19 : decode cX4_isRecord 19 = .ok (.baload, 1) := by decide +kernel
theorem dX4_isRecord_20 : decode cX4_isRecord 20 = .ok (.ifCond .eq 7, 3) := by decide +kernel
theorem dX4_isRecord_23 : decode cX4_isRecord 23 = .ok (.iconst 1, 1) := by decide +kernel
theorem dX4_isRecord_24 : decode cX4_isRecord 24 = .ok (.goto 4, 3) := by decide +kernel
theorem dX4_isRecord_27 : decode cX4_isRecord 27 = .ok (.iconst 0, 1) := by decide +kernel
theorem dX4_isRecord_28 : decode cX4_isRecord 28 = .ok (.ireturn, 1) := by decide +kernel
theorem dX4_ownerIn_0 : decode cX4_ownerIn 0 = .ok (.aload_n 0, 1) := by decide +kernel
theorem dX4_ownerIn_1 : decode cX4_ownerIn 1 = .ok (.getfield 35, 3) := by decide +kernel
theorem dX4_ownerIn_4 : decode cX4_ownerIn 4 = .ok (.bipush 60, 2) := by decide +kernel
theorem dX4_ownerIn_6 : decode cX4_ownerIn 6 = .ok (.iload_n 1, 1) := by decide +kernel
theorem dX4_ownerIn_7 : decode cX4_ownerIn 7 = .ok (.imul, 1) := by decide +kernel
theorem dX4_ownerIn_8 : decode cX4_ownerIn 8 = .ok (.iload_n 2, 1) := by decide +kernel
theorem dX4_ownerIn_9 : decode cX4_ownerIn 9 = .ok (.iadd, 1) := by decide +kernel
theorem dX4_ownerIn_10 : decode cX4_ownerIn 10 = .ok (.iaload, 1) := by decide +kernel
theorem dX4_ownerIn_11 : decode cX4_ownerIn 11 = .ok (.ireturn, 1) := by decide +kernel
theorem dX4_declare_0 : decode cX4_declare 0 = .ok (.iload_n 1, 1) := by decide +kernel
theorem dX4_declare_1 : decode cX4_declare 1 = .ok (.iconst 0, 1) := by decide +kernel
theorem dX4_declare_2 : decode cX4_declare 2 = .ok (.iconst 3, 1) := by decide +kernel
theorem dX4_declare_3 : decode cX4_declare 3 = .ok (.invokestatic 63, 3) := by decide +kernel
theorem dX4_declare_6 : decode cX4_declare 6 = .ok (.ifCond .eq 40, 3) := by decide +kernel
theorem dX4_declare_9 : decode cX4_declare 9 = .ok (.iload_n 2, 1) := by decide +kernel
theorem dX4_declare_10 : decode cX4_declare 10 = .ok (.iconst 0, 1) := by decide +kernel
theorem dX4_declare_11 : decode cX4_declare 11 = .ok (.iconst 3, 1) := by decide +kernel
theorem dX4_declare_12 : decode cX4_declare 12 = .ok (.invokestatic 63, 3) := by decide +kernel
theorem dX4_declare_15 : decode cX4_declare 15 = .ok (.ifCond .eq 31, 3) := by decide +kernel
theorem dX4_declare_18 : decode cX4_declare 18 = .ok (.iload_n 3, 1) := by decide +kernel
theorem dX4_declare_19 : decode cX4_declare 19 = .ok (.iconst 0, 1) := by decide +kernel
theorem dX4_declare_20 : decode cX4_declare 20 = .ok (.iconst 4, 1) := by decide +kernel
theorem dX4_declare_21 : decode cX4_declare 21 = .ok (.invokestatic 63, 3) := by decide +kernel
theorem dX4_declare_24 : decode cX4_declare 24 = .ok (.ifCond .eq 22, 3) := by decide +kernel
theorem dX4_declare_27 : decode cX4_declare 27 = .ok (.iload 5, 2) := by decide +kernel
theorem dX4_declare_29 : decode cX4_declare 29 = .ok (.iconst 0, 1) := by decide +kernel
theorem dX4_declare_30 : decode cX4_declare 30 = .ok (.iconst 2, 1) := by decide +kernel
theorem dX4_declare_31 : decode cX4_declare 31 = .ok (.invokestatic 63, 3) := by decide +kernel
theorem dX4_declare_34 : decode cX4_declare 34 = .ok (.ifCond .eq 12, 3) := by decide +kernel
theorem dX4_declare_37 : decode cX4_declare 37 = .ok (.iload_n 1, 1) := by decide +kernel
theorem dX4_declare_38 : decode cX4_declare 38 = .ok (.iload_n 2, 1) := by decide +kernel
theorem dX4_declare_39 : decode cX4_declare 39 = .ok (.if_icmp .eq 7, 3) := by decide +kernel
theorem dX4_declare_42 : decode cX4_declare 42 = .ok (.iconst 1, 1) := by decide +kernel
theorem dX4_declare_43 : decode cX4_declare 43 = .ok (.goto 4, 3) := by decide +kernel
theorem dX4_declare_46 : decode cX4_declare 46 = .ok (.iconst 0, 1) := by decide +kernel
theorem dX4_declare_47 : decode cX4_declare 47 = .ok (.istore 6, 2) := by decide +kernel
theorem dX4_declare_49 : decode cX4_declare 49 = .ok (.aload_n 0, 1) := by decide +kernel
theorem dX4_declare_50 : decode cX4_declare 50 = .ok (.iload 6, 2) := by decide +kernel
theorem dX4_declare_52 : decode cX4_declare 52 = .ok (.ifCond .ne 7, 3) := by decide +kernel
theorem dX4_declare_55 : decode cX4_declare 55 = .ok (.iconst 1, 1) := by decide +kernel
theorem dX4_declare_56 : decode cX4_declare 56 = .ok (.goto 24, 3) := by decide +kernel
theorem dX4_declare_59 : decode cX4_declare 59 = .ok (.aload_n 0, 1) := by decide +kernel
theorem dX4_declare_60 : decode cX4_declare 60 = .ok (.getfield 60, 3) := by decide +kernel
theorem dX4_declare_63 : decode cX4_declare 63 = .ok (.bipush 6, 2) := by decide +kernel
theorem dX4_declare_65 : decode cX4_declare 65 = .ok (.if_icmp .eq 10, 3) := by decide +kernel
theorem dX4_declare_68 : decode cX4_declare 68 = .ok (.aload_n 0, 1) := by decide +kernel
theorem dX4_declare_69 : decode cX4_declare 69 = .ok (.getfield 67, 3) := by decide +kernel
theorem dX4_declare_72 : decode cX4_declare 72 = .ok (.ifCond .le 7, 3) := by decide +kernel
theorem dX4_declare_75 : decode cX4_declare 75 = .ok (.iconst 2, 1) := by decide +kernel
theorem dX4_declare_76 : decode cX4_declare 76 = .ok (.goto 4, 3) := by decide +kernel
theorem dX4_declare_79 : decode cX4_declare 79 = .ok (.iconst 0, 1) := by decide +kernel
theorem dX4_declare_80 : decode cX4_declare 80 = .ok (.invokevirtual 70, 3) := by decide +kernel
theorem dX4_declare_83 : decode cX4_declare 83 = .ok (.ifCond .ne 5, 3) := by decide +kernel
theorem dX4_declare_86 : decode cX4_declare 86 = .ok (.iconst 0, 1) := by decide +kernel
theorem dX4_declare_87 : decode cX4_declare 87 = .ok (.ireturn, 1) := by decide +kernel
theorem dX4_declare_88 : decode cX4_declare 88 = .ok (.aload_n 0, 1) := by decide +kernel
theorem dX4_declare_89 : decode cX4_declare 89 = .ok (.getfield 7, 3) := by decide +kernel
theorem dX4_declare_92 : decode cX4_declare 92 = .ok (.aload_n 0, 1) := by decide +kernel
theorem dX4_declare_93 : decode cX4_declare 93 = .ok (.getfield 60, 3) := by decide +kernel
theorem dX4_declare_96 : decode cX4_declare 96 = .ok (.iload_n 1, 1) := by decide +kernel
theorem dX4_declare_97 : decode cX4_declare 97 = .ok (.iastore, 1) := by decide +kernel
theorem dX4_declare_98 : decode cX4_declare 98 = .ok (.aload_n 0, 1) := by decide +kernel
theorem dX4_declare_99 : decode cX4_declare 99 = .ok (.getfield 13, 3) := by decide +kernel
theorem dX4_declare_102 : decode cX4_declare 102 = .ok (.aload_n 0, 1) := by decide +kernel
theorem dX4_declare_103 : decode cX4_declare 103 = .ok (.getfield 60, 3) := by decide +kernel
theorem dX4_declare_106 : decode cX4_declare 106 = .ok (.iload_n 2, 1) := by decide +kernel
theorem dX4_declare_107 : decode cX4_declare 107 = .ok (.iastore, 1) := by decide +kernel
theorem dX4_declare_108 : decode cX4_declare 108 = .ok (.aload_n 0, 1) := by decide +kernel
theorem dX4_declare_109 : decode cX4_declare 109 = .ok (.getfield 16, 3) := by decide +kernel
theorem dX4_declare_112 : decode cX4_declare 112 = .ok (.aload_n 0, 1) := by decide +kernel
theorem dX4_declare_113 : decode cX4_declare 113 = .ok (.getfield 60, 3) := by decide +kernel
theorem dX4_declare_116 : decode cX4_declare 116 = .ok (.iload_n 3, 1) := by decide +kernel
theorem dX4_declare_117 : decode cX4_declare 117 = .ok (.iastore, 1) := by decide +kernel
theorem dX4_declare_118 : decode cX4_declare 118 = .ok (.aload_n 0, 1) := by decide +kernel
theorem dX4_declare_119 : decode cX4_declare 119 = .ok (.getfield 19, 3) := by decide +kernel
theorem dX4_declare_122 : decode cX4_declare 122 = .ok (.aload_n 0, 1) := by decide +kernel
theorem dX4_declare_123 : decode cX4_declare 123 = .ok (.getfield 60, 3) := by decide +kernel
theorem dX4_declare_126 : decode cX4_declare 126 = .ok (.iload 4, 2) := by decide +kernel
theorem dX4_declare_128 : decode cX4_declare 128 = .ok (.bastore, 1) := by decide +kernel
theorem dX4_declare_129 : decode cX4_declare 129 = .ok (.aload_n 0, 1) := by decide +kernel
theorem dX4_declare_130 : decode cX4_declare 130 = .ok (.getfield 23, 3) := by decide +kernel
theorem dX4_declare_133 : decode cX4_declare 133 = .ok (.aload_n 0, 1) := by decide +kernel
theorem dX4_declare_134 : decode cX4_declare 134 = .ok (.getfield 60, 3) := by decide +kernel
theorem dX4_declare_137 : decode cX4_declare 137 = .ok (.iload 5, 2) := by decide +kernel
theorem dX4_declare_139 : decode cX4_declare 139 = .ok (.iastore, 1) := by decide +kernel
theorem dX4_declare_140 : decode cX4_declare 140 = .ok (.aload_n 0, 1) := by decide +kernel
theorem dX4_declare_141 : decode cX4_declare 141 = .ok (.dup, 1) := by decide +kernel
theorem dX4_declare_142 : decode cX4_declare 142 = .ok (.getfield 60, 3) := by decide +kernel
theorem dX4_declare_145 : decode cX4_declare 145 = .ok (.iconst 1, 1) := by decide +kernel
theorem dX4_declare_146 : decode cX4_declare 146 = .ok (.iadd, 1) := by decide +kernel
theorem dX4_declare_147 : decode cX4_declare 147 = .ok (.putfield 60, 3) := by decide +kernel
theorem dX4_declare_150 : decode cX4_declare 150 = .ok (.aload_n 0, 1) := by decide +kernel
theorem dX4_declare_151 : decode cX4_declare 151 = .ok (.getfield 60, 3) := by decide +kernel
theorem dX4_declare_154 : decode cX4_declare 154 = .ok (.iconst 1, 1) := by decide +kernel
theorem dX4_declare_155 : decode cX4_declare 155 = .ok (.isub, 1) := by decide +kernel
theorem dX4_declare_156 : decode cX4_declare 156 = .ok (.ireturn, 1) := by decide +kernel
theorem dX4_placeOf_0 : decode cX4_placeOf 0 = .ok (.iconst 0, 1) := by decide +kernel
theorem dX4_placeOf_1 : decode cX4_placeOf 1 = .ok (.istore_n 3, 1) := by decide +kernel
theorem dX4_placeOf_2 : decode cX4_placeOf 2 = .ok (.iload_n 3, 1) := by decide +kernel
theorem dX4_placeOf_3 : decode cX4_placeOf 3 = .ok (.aload_n 0, 1) := by decide +kernel
theorem dX4_placeOf_4 : decode cX4_placeOf 4 = .ok (.getfield 38, 3) := by decide +kernel
theorem dX4_placeOf_7 : decode cX4_placeOf 7 = .ok (.iload_n 1, 1) := by decide +kernel
theorem dX4_placeOf_8 : decode cX4_placeOf 8 = .ok (.iaload, 1) := by decide +kernel
theorem dX4_placeOf_9 : decode cX4_placeOf 9 = .ok (.if_icmp .ge 24, 3) := by decide +kernel
theorem dX4_placeOf_12 : decode cX4_placeOf 12 = .ok (.aload_n 0, 1) := by decide +kernel
theorem dX4_placeOf_13 : decode cX4_placeOf 13 = .ok (.getfield 41, 3) := by decide +kernel
theorem dX4_placeOf_16 : decode cX4_placeOf 16 = .ok (.bipush 60, 2) := by decide +kernel
theorem dX4_placeOf_18 : decode cX4_placeOf 18 = .ok (.iload_n 1, 1) := by decide +kernel
theorem dX4_placeOf_19 : decode cX4_placeOf 19 = .ok (.imul, 1) := by decide +kernel
theorem dX4_placeOf_20 : decode cX4_placeOf 20 = .ok (.iload_n 3, 1) := by decide +kernel
theorem dX4_placeOf_21 : decode cX4_placeOf 21 = .ok (.iadd, 1) := by decide +kernel
theorem dX4_placeOf_22 : decode cX4_placeOf 22 = .ok (.iaload, 1) := by decide +kernel
theorem dX4_placeOf_23 : decode cX4_placeOf 23 = .ok (.iload_n 2, 1) := by decide +kernel
theorem dX4_placeOf_24 : decode cX4_placeOf 24 = .ok (.if_icmp .eq 9, 3) := by decide +kernel
theorem dX4_placeOf_27 : decode cX4_placeOf 27 = .ok (.iinc 3 1, 3) := by decide +kernel
theorem dX4_placeOf_30 : decode cX4_placeOf 30 = .ok (.goto (-28), 3) := by decide +kernel
theorem dX4_placeOf_33 : decode cX4_placeOf 33 = .ok (.iload_n 3, 1) := by decide +kernel
theorem dX4_placeOf_34 : decode cX4_placeOf 34 = .ok (.ireturn, 1) := by decide +kernel
theorem dX4_takeOut_0 : decode cX4_takeOut 0 = .ok (.aload_n 0, 1) := by decide +kernel
theorem dX4_takeOut_1 : decode cX4_takeOut 1 = .ok (.getfield 38, 3) := by decide +kernel
theorem dX4_takeOut_4 : decode cX4_takeOut 4 = .ok (.iload_n 1, 1) := by decide +kernel
theorem dX4_takeOut_5 : decode cX4_takeOut 5 = .ok (.dup2, 1) := by decide +kernel
theorem dX4_takeOut_6 : decode cX4_takeOut 6 = .ok (.iaload, 1) := by decide +kernel
theorem dX4_takeOut_7 : decode cX4_takeOut 7 = .ok (.iconst 1, 1) := by decide +kernel
theorem dX4_takeOut_8 : decode cX4_takeOut 8 = .ok (.isub, 1) := by decide +kernel
theorem dX4_takeOut_9 : decode cX4_takeOut 9 = .ok (.iastore, 1) := by decide +kernel
theorem dX4_takeOut_10 : decode cX4_takeOut 10 = .ok (.aload_n 0, 1) := by decide +kernel
theorem dX4_takeOut_11 : decode cX4_takeOut 11 = .ok (.iload_n 1, 1) := by decide +kernel
theorem dX4_takeOut_12 : decode cX4_takeOut 12 = .ok (.iload_n 2, 1) := by decide +kernel
theorem dX4_takeOut_13 : decode cX4_takeOut 13 = .ok (.invokevirtual 74, 3) := by decide +kernel
theorem dX4_takeOut_16 : decode cX4_takeOut 16 = .ok (.istore_n 3, 1) := by decide +kernel
theorem dX4_takeOut_17 : decode cX4_takeOut 17 = .ok (.iload_n 3, 1) := by decide +kernel
theorem dX4_takeOut_18 : decode cX4_takeOut 18 = .ok (.aload_n 0, 1) := by decide +kernel
theorem dX4_takeOut_19 : decode cX4_takeOut 19 = .ok (.getfield 38, 3) := by decide +kernel
theorem dX4_takeOut_22 : decode cX4_takeOut 22 = .ok (.iload_n 1, 1) := by decide +kernel
theorem dX4_takeOut_23 : decode cX4_takeOut 23 = .ok (.iaload, 1) := by decide +kernel
theorem dX4_takeOut_24 : decode cX4_takeOut 24 = .ok (.if_icmp .ge 33, 3) := by decide +kernel
theorem dX4_takeOut_27 : decode cX4_takeOut 27 = .ok (.aload_n 0, 1) := by decide +kernel
theorem dX4_takeOut_28 : decode cX4_takeOut 28 = .ok (.getfield 41, 3) := by decide +kernel
theorem dX4_takeOut_31 : decode cX4_takeOut 31 = .ok (.bipush 60, 2) := by decide +kernel
theorem dX4_takeOut_33 : decode cX4_takeOut 33 = .ok (.iload_n 1, 1) := by decide +kernel
theorem dX4_takeOut_34 : decode cX4_takeOut 34 = .ok (.imul, 1) := by decide +kernel
theorem dX4_takeOut_35 : decode cX4_takeOut 35 = .ok (.iload_n 3, 1) := by decide +kernel
theorem dX4_takeOut_36 : decode cX4_takeOut 36 = .ok (.iadd, 1) := by decide +kernel
theorem dX4_takeOut_37 : decode cX4_takeOut 37 = .ok (.aload_n 0, 1) := by decide +kernel
theorem dX4_takeOut_38 : decode cX4_takeOut 38 = .ok (.getfield 41, 3) := by decide +kernel
theorem dX4_takeOut_41 : decode cX4_takeOut 41 = .ok (.bipush 60, 2) := by decide +kernel
theorem dX4_takeOut_43 : decode cX4_takeOut 43 = .ok (.iload_n 1, 1) := by decide +kernel
theorem dX4_takeOut_44 : decode cX4_takeOut 44 = .ok (.imul, 1) := by decide +kernel
theorem dX4_takeOut_45 : decode cX4_takeOut 45 = .ok (.iload_n 3, 1) := by decide +kernel
theorem dX4_takeOut_46 : decode cX4_takeOut 46 = .ok (.iadd, 1) := by decide +kernel
theorem dX4_takeOut_47 : decode cX4_takeOut 47 = .ok (.iconst 1, 1) := by decide +kernel
theorem dX4_takeOut_48 : decode cX4_takeOut 48 = .ok (.iadd, 1) := by decide +kernel
theorem dX4_takeOut_49 : decode cX4_takeOut 49 = .ok (.iaload, 1) := by decide +kernel
theorem dX4_takeOut_50 : decode cX4_takeOut 50 = .ok (.iastore, 1) := by decide +kernel
theorem dX4_takeOut_51 : decode cX4_takeOut 51 = .ok (.iinc 3 1, 3) := by decide +kernel
theorem dX4_takeOut_54 : decode cX4_takeOut 54 = .ok (.goto (-37), 3) := by decide +kernel
theorem dX4_takeOut_57 : decode cX4_takeOut 57 = .ok (.aload_n 0, 1) := by decide +kernel
theorem dX4_takeOut_58 : decode cX4_takeOut 58 = .ok (.getfield 35, 3) := by decide +kernel
theorem dX4_takeOut_61 : decode cX4_takeOut 61 = .ok (.bipush 60, 2) := by decide +kernel
theorem dX4_takeOut_63 : decode cX4_takeOut 63 = .ok (.iload_n 1, 1) := by decide +kernel
theorem dX4_takeOut_64 : decode cX4_takeOut 64 = .ok (.imul, 1) := by decide +kernel
theorem dX4_takeOut_65 : decode cX4_takeOut 65 = .ok (.iload_n 2, 1) := by decide +kernel
theorem dX4_takeOut_66 : decode cX4_takeOut 66 = .ok (.iadd, 1) := by decide +kernel
theorem dX4_takeOut_67 : decode cX4_takeOut 67 = .ok (.iconst (-1), 1) := by decide +kernel
theorem dX4_takeOut_68 : decode cX4_takeOut 68 = .ok (.iastore, 1) := by decide +kernel
theorem dX4_takeOut_69 : decode cX4_takeOut 69 = .ok (.return_, 1) := by decide +kernel
theorem dX4_newPlace_0 : decode cX4_newPlace 0 = .ok (.aload_n 0, 1) := by decide +kernel
theorem dX4_newPlace_1 : decode cX4_newPlace 1 = .ok (.getfield 47, 3) := by decide +kernel
theorem dX4_newPlace_4 : decode cX4_newPlace 4 = .ok (.iload_n 1, 1) := by decide +kernel
theorem dX4_newPlace_5 : decode cX4_newPlace 5 = .ok (.iaload, 1) := by decide +kernel
theorem dX4_newPlace_6 : decode cX4_newPlace 6 = .ok (.istore 4, 2) := by decide +kernel
theorem dX4_newPlace_8 : decode cX4_newPlace 8 = .ok (.aload_n 0, 1) := by decide +kernel
theorem dX4_newPlace_9 : decode cX4_newPlace 9 = .ok (.getfield 16, 3) := by decide +kernel
theorem dX4_newPlace_12 : decode cX4_newPlace 12 = .ok (.iload_n 1, 1) := by decide +kernel
theorem dX4_newPlace_13 : decode cX4_newPlace 13 = .ok (.iaload, 1) := by decide +kernel
theorem dX4_newPlace_14 : decode cX4_newPlace 14 = .ok (.istore 5, 2) := by decide +kernel
theorem dX4_newPlace_16 : decode cX4_newPlace 16 = .ok (.iload 5, 2) := by decide +kernel
theorem dX4_newPlace_18 : decode cX4_newPlace 18 = .ok (.iconst 4, 1) := by decide +kernel
theorem dX4_newPlace_19 : decode cX4_newPlace 19 = .ok (.if_icmp .ne 73, 3) := by decide +kernel
theorem dX4_newPlace_22 : decode cX4_newPlace 22 = .ok (.iconst 0, 1) := by decide +kernel
theorem dX4_newPlace_23 : decode cX4_newPlace 23 = .ok (.istore 6, 2) := by decide +kernel
theorem dX4_newPlace_25 : decode cX4_newPlace 25 = .ok (.iload 6, 2) := by decide +kernel
theorem dX4_newPlace_27 : decode cX4_newPlace 27 = .ok (.aload_n 0, 1) := by decide +kernel
theorem dX4_newPlace_28 : decode cX4_newPlace 28 = .ok (.getfield 38, 3) := by decide +kernel
theorem dX4_newPlace_31 : decode cX4_newPlace 31 = .ok (.iload_n 1, 1) := by decide +kernel
theorem dX4_newPlace_32 : decode cX4_newPlace 32 = .ok (.iaload, 1) := by decide +kernel
theorem dX4_newPlace_33 : decode cX4_newPlace 33 = .ok (.if_icmp .ge 56, 3) := by decide +kernel
theorem dX4_newPlace_36 : decode cX4_newPlace 36 = .ok (.aload_n 0, 1) := by decide +kernel
theorem dX4_newPlace_37 : decode cX4_newPlace 37 = .ok (.iload_n 1, 1) := by decide +kernel
theorem dX4_newPlace_38 : decode cX4_newPlace 38 = .ok (.aload_n 0, 1) := by decide +kernel
theorem dX4_newPlace_39 : decode cX4_newPlace 39 = .ok (.getfield 41, 3) := by decide +kernel
theorem dX4_newPlace_42 : decode cX4_newPlace 42 = .ok (.bipush 60, 2) := by decide +kernel
theorem dX4_newPlace_44 : decode cX4_newPlace 44 = .ok (.iload_n 1, 1) := by decide +kernel
theorem dX4_newPlace_45 : decode cX4_newPlace 45 = .ok (.imul, 1) := by decide +kernel
theorem dX4_newPlace_46 : decode cX4_newPlace 46 = .ok (.iload 6, 2) := by decide +kernel
theorem dX4_newPlace_48 : decode cX4_newPlace 48 = .ok (.iadd, 1) := by decide +kernel
theorem dX4_newPlace_49 : decode cX4_newPlace 49 = .ok (.iaload, 1) := by decide +kernel
theorem dX4_newPlace_50 : decode cX4_newPlace 50 = .ok (.invokevirtual 78, 3) := by decide +kernel
theorem dX4_newPlace_53 : decode cX4_newPlace 53 = .ok (.iload_n 3, 1) := by decide +kernel
theorem dX4_newPlace_54 : decode cX4_newPlace 54 = .ok (.if_icmp .ne 29, 3) := by decide +kernel
theorem dX4_newPlace_57 : decode cX4_newPlace 57 = .ok (.aload_n 0, 1) := by decide +kernel
theorem dX4_newPlace_58 : decode cX4_newPlace 58 = .ok (.getfield 32, 3) := by decide +kernel
theorem dX4_newPlace_61 : decode cX4_newPlace 61 = .ok (.aload_n 0, 1) := by decide +kernel
theorem dX4_newPlace_62 : decode cX4_newPlace 62 = .ok (.getfield 41, 3) := by decide +kernel
theorem dX4_newPlace_65 : decode cX4_newPlace 65 = .ok (.bipush 60, 2) := by decide +kernel
theorem dX4_newPlace_67 : decode cX4_newPlace 67 = .ok (.iload_n 1, 1) := by decide +kernel
theorem dX4_newPlace_68 : decode cX4_newPlace 68 = .ok (.imul, 1) := by decide +kernel
theorem dX4_newPlace_69 : decode cX4_newPlace 69 = .ok (.iload 6, 2) := by decide +kernel
theorem dX4_newPlace_71 : decode cX4_newPlace 71 = .ok (.iadd, 1) := by decide +kernel
theorem dX4_newPlace_72 : decode cX4_newPlace 72 = .ok (.iaload, 1) := by decide +kernel
theorem dX4_newPlace_73 : decode cX4_newPlace 73 = .ok (.iaload, 1) := by decide +kernel
theorem dX4_newPlace_74 : decode cX4_newPlace 74 = .ok (.aload_n 0, 1) := by decide +kernel
theorem dX4_newPlace_75 : decode cX4_newPlace 75 = .ok (.getfield 32, 3) := by decide +kernel
theorem dX4_newPlace_78 : decode cX4_newPlace 78 = .ok (.iload_n 2, 1) := by decide +kernel
theorem dX4_newPlace_79 : decode cX4_newPlace 79 = .ok (.iaload, 1) := by decide +kernel
theorem dX4_newPlace_80 : decode cX4_newPlace 80 = .ok (.if_icmp .gt 9, 3) := by decide +kernel
theorem dX4_newPlace_83 : decode cX4_newPlace 83 = .ok (.iinc 6 1, 3) := by decide +kernel
theorem dX4_newPlace_86 : decode cX4_newPlace 86 = .ok (.goto (-61), 3) := by decide +kernel
theorem dX4_newPlace_89 : decode cX4_newPlace 89 = .ok (.iload 6, 2) := by decide +kernel
theorem dX4_newPlace_91 : decode cX4_newPlace 91 = .ok (.ireturn, 1) := by decide +kernel
theorem dX4_newPlace_92 : decode cX4_newPlace 92 = .ok (.iload 4, 2) := by decide +kernel
theorem dX4_newPlace_94 : decode cX4_newPlace 94 = .ok (.iconst (-1), 1) := by decide +kernel
theorem dX4_newPlace_95 : decode cX4_newPlace 95 = .ok (.if_icmp .eq 18, 3) := by decide +kernel
theorem dX4_newPlace_98 : decode cX4_newPlace 98 = .ok (.aload_n 0, 1) := by decide +kernel
theorem dX4_newPlace_99 : decode cX4_newPlace 99 = .ok (.iload_n 1, 1) := by decide +kernel
theorem dX4_newPlace_100 : decode cX4_newPlace 100 = .ok (.iload 4, 2) := by decide +kernel
theorem dX4_newPlace_102 : decode cX4_newPlace 102 = .ok (.invokevirtual 78, 3) := by decide +kernel
theorem dX4_newPlace_105 : decode cX4_newPlace 105 = .ok (.iload_n 3, 1) := by decide +kernel
theorem dX4_newPlace_106 : decode cX4_newPlace 106 = .ok (.if_icmp .ne 7, 3) := by decide +kernel
theorem dX4_newPlace_109 : decode cX4_newPlace 109 = .ok (.iconst 1, 1) := by decide +kernel
theorem dX4_newPlace_110 : decode cX4_newPlace 110 = .ok (.goto 4, 3) := by decide +kernel
theorem dX4_newPlace_113 : decode cX4_newPlace 113 = .ok (.iconst 0, 1) := by decide +kernel
theorem dX4_newPlace_114 : decode cX4_newPlace 114 = .ok (.istore 6, 2) := by decide +kernel
theorem dX4_newPlace_116 : decode cX4_newPlace 116 = .ok (.iload 6, 2) := by decide +kernel
theorem dX4_newPlace_118 : decode cX4_newPlace 118 = .ok (.ifCond .eq 29, 3) := by decide +kernel
theorem dX4_newPlace_121 : decode cX4_newPlace 121 = .ok (.iload 5, 2) := by decide +kernel
theorem dX4_newPlace_123 : decode cX4_newPlace 123 = .ok (.iconst 2, 1) := by decide +kernel
theorem dX4_newPlace_124 : decode cX4_newPlace 124 = .ok (.if_icmp .lt 23, 3) := by decide +kernel
theorem dX4_newPlace_127 : decode cX4_newPlace 127 = .ok (.aload_n 0, 1) := by decide +kernel
theorem dX4_newPlace_128 : decode cX4_newPlace 128 = .ok (.iload_n 1, 1) := by decide +kernel
theorem dX4_newPlace_129 : decode cX4_newPlace 129 = .ok (.iload 4, 2) := by decide +kernel
theorem dX4_newPlace_131 : decode cX4_newPlace 131 = .ok (.invokevirtual 74, 3) := by decide +kernel
theorem dX4_newPlace_134 : decode cX4_newPlace 134 = .ok (.iload 5, 2) := by decide +kernel
theorem dX4_newPlace_136 : decode cX4_newPlace 136 = .ok (.iconst 2, 1) := by decide +kernel
theorem dX4_newPlace_137 : decode cX4_newPlace 137 = .ok (.if_icmp .ne 7, 3) := by decide +kernel
theorem dX4_newPlace_140 : decode cX4_newPlace 140 = .ok (.iconst 1, 1) := by decide +kernel
theorem dX4_newPlace_141 : decode cX4_newPlace 141 = .ok (.goto 4, 3) := by decide +kernel
theorem dX4_newPlace_144 : decode cX4_newPlace 144 = .ok (.iconst 0, 1) := by decide +kernel
theorem dX4_newPlace_145 : decode cX4_newPlace 145 = .ok (.iadd, 1) := by decide +kernel
theorem dX4_newPlace_146 : decode cX4_newPlace 146 = .ok (.ireturn, 1) := by decide +kernel
theorem dX4_newPlace_147 : decode cX4_newPlace 147 = .ok (.iload 5, 2) := by decide +kernel
theorem dX4_newPlace_149 : decode cX4_newPlace 149 = .ok (.ifCond .eq 9, 3) := by decide +kernel
theorem dX4_newPlace_152 : decode cX4_newPlace 152 = .ok (.iload 5, 2) := by decide +kernel
theorem dX4_newPlace_154 : decode cX4_newPlace 154 = .ok (.iconst 2, 1) := by decide +kernel
theorem dX4_newPlace_155 : decode cX4_newPlace 155 = .ok (.if_icmp .ne 7, 3) := by decide +kernel
theorem dX4_newPlace_158 : decode cX4_newPlace 158 = .ok (.iconst 0, 1) := by decide +kernel
theorem dX4_newPlace_159 : decode cX4_newPlace 159 = .ok (.goto 9, 3) := by decide +kernel
theorem dX4_newPlace_162 : decode cX4_newPlace 162 = .ok (.aload_n 0, 1) := by decide +kernel
theorem dX4_newPlace_163 : decode cX4_newPlace 163 = .ok (.getfield 38, 3) := by decide +kernel
theorem dX4_newPlace_166 : decode cX4_newPlace 166 = .ok (.iload_n 1, 1) := by decide +kernel
theorem dX4_newPlace_167 : decode cX4_newPlace 167 = .ok (.iaload, 1) := by decide +kernel
theorem dX4_newPlace_168 : decode cX4_newPlace 168 = .ok (.ireturn, 1) := by decide +kernel
theorem dX4_insert_0 : decode cX4_insert 0 = .ok (.aload_n 0, 1) := by decide +kernel
theorem dX4_insert_1 : decode cX4_insert 1 = .ok (.iload_n 1, 1) := by decide +kernel
theorem dX4_insert_2 : decode cX4_insert 2 = .ok (.iload_n 2, 1) := by decide +kernel
theorem dX4_insert_3 : decode cX4_insert 3 = .ok (.iload_n 3, 1) := by decide +kernel
theorem dX4_insert_4 : decode cX4_insert 4 = .ok (.invokevirtual 81, 3) := by decide +kernel
theorem dX4_insert_7 : decode cX4_insert 7 = .ok (.istore 4, 2) := by decide +kernel
theorem dX4_insert_9 : decode cX4_insert 9 = .ok (.aload_n 0, 1) := by decide +kernel
theorem dX4_insert_10 : decode cX4_insert 10 = .ok (.getfield 38, 3) := by decide +kernel
theorem dX4_insert_13 : decode cX4_insert 13 = .ok (.iload_n 1, 1) := by decide +kernel
theorem dX4_insert_14 : decode cX4_insert 14 = .ok (.iaload, 1) := by decide +kernel
theorem dX4_insert_15 : decode cX4_insert 15 = .ok (.istore 5, 2) := by decide +kernel
theorem dX4_insert_17 : decode cX4_insert 17 = .ok (.iload 5, 2) := by decide +kernel
theorem dX4_insert_19 : decode cX4_insert 19 = .ok (.iload 4, 2) := by decide +kernel
theorem dX4_insert_21 : decode cX4_insert 21 = .ok (.if_icmp .le 35, 3) := by decide +kernel
theorem dX4_insert_24 : decode cX4_insert 24 = .ok (.aload_n 0, 1) := by decide +kernel
theorem dX4_insert_25 : decode cX4_insert 25 = .ok (.getfield 41, 3) := by decide +kernel
theorem dX4_insert_28 : decode cX4_insert 28 = .ok (.bipush 60, 2) := by decide +kernel
theorem dX4_insert_30 : decode cX4_insert 30 = .ok (.iload_n 1, 1) := by decide +kernel
theorem dX4_insert_31 : decode cX4_insert 31 = .ok (.imul, 1) := by decide +kernel
theorem dX4_insert_32 : decode cX4_insert 32 = .ok (.iload 5, 2) := by decide +kernel
theorem dX4_insert_34 : decode cX4_insert 34 = .ok (.iadd, 1) := by decide +kernel
theorem dX4_insert_35 : decode cX4_insert 35 = .ok (.aload_n 0, 1) := by decide +kernel
theorem dX4_insert_36 : decode cX4_insert 36 = .ok (.getfield 41, 3) := by decide +kernel
theorem dX4_insert_39 : decode cX4_insert 39 = .ok (.bipush 60, 2) := by decide +kernel
theorem dX4_insert_41 : decode cX4_insert 41 = .ok (.iload_n 1, 1) := by decide +kernel
theorem dX4_insert_42 : decode cX4_insert 42 = .ok (.imul, 1) := by decide +kernel
theorem dX4_insert_43 : decode cX4_insert 43 = .ok (.iload 5, 2) := by decide +kernel
theorem dX4_insert_45 : decode cX4_insert 45 = .ok (.iadd, 1) := by decide +kernel
theorem dX4_insert_46 : decode cX4_insert 46 = .ok (.iconst 1, 1) := by decide +kernel
theorem dX4_insert_47 : decode cX4_insert 47 = .ok (.isub, 1) := by decide +kernel
theorem dX4_insert_48 : decode cX4_insert 48 = .ok (.iaload, 1) := by decide +kernel
theorem dX4_insert_49 : decode cX4_insert 49 = .ok (.iastore, 1) := by decide +kernel
theorem dX4_insert_50 : decode cX4_insert 50 = .ok (.iinc 5 (-1), 3) := by decide +kernel
theorem dX4_insert_53 : decode cX4_insert 53 = .ok (.goto (-36), 3) := by decide +kernel
theorem dX4_insert_56 : decode cX4_insert 56 = .ok (.aload_n 0, 1) := by decide +kernel
theorem dX4_insert_57 : decode cX4_insert 57 = .ok (.getfield 41, 3) := by decide +kernel
theorem dX4_insert_60 : decode cX4_insert 60 = .ok (.bipush 60, 2) := by decide +kernel
theorem dX4_insert_62 : decode cX4_insert 62 = .ok (.iload_n 1, 1) := by decide +kernel
theorem dX4_insert_63 : decode cX4_insert 63 = .ok (.imul, 1) := by decide +kernel
theorem dX4_insert_64 : decode cX4_insert 64 = .ok (.iload 4, 2) := by decide +kernel
theorem dX4_insert_66 : decode cX4_insert 66 = .ok (.iadd, 1) := by decide +kernel
theorem dX4_insert_67 : decode cX4_insert 67 = .ok (.iload_n 2, 1) := by decide +kernel
theorem dX4_insert_68 : decode cX4_insert 68 = .ok (.iastore, 1) := by decide +kernel
theorem dX4_insert_69 : decode cX4_insert 69 = .ok (.aload_n 0, 1) := by decide +kernel
theorem dX4_insert_70 : decode cX4_insert 70 = .ok (.getfield 38, 3) := by decide +kernel
theorem dX4_insert_73 : decode cX4_insert 73 = .ok (.iload_n 1, 1) := by decide +kernel
theorem dX4_insert_74 : decode cX4_insert 74 = .ok (.dup2, 1) := by decide +kernel
theorem dX4_insert_75 : decode cX4_insert 75 = .ok (.iaload, 1) := by decide +kernel
theorem dX4_insert_76 : decode cX4_insert 76 = .ok (.iconst 1, 1) := by decide +kernel
theorem dX4_insert_77 : decode cX4_insert 77 = .ok (.iadd, 1) := by decide +kernel
theorem dX4_insert_78 : decode cX4_insert 78 = .ok (.iastore, 1) := by decide +kernel
theorem dX4_insert_79 : decode cX4_insert 79 = .ok (.aload_n 0, 1) := by decide +kernel
theorem dX4_insert_80 : decode cX4_insert 80 = .ok (.getfield 35, 3) := by decide +kernel
theorem dX4_insert_83 : decode cX4_insert 83 = .ok (.bipush 60, 2) := by decide +kernel
theorem dX4_insert_85 : decode cX4_insert 85 = .ok (.iload_n 1, 1) := by decide +kernel
theorem dX4_insert_86 : decode cX4_insert 86 = .ok (.imul, 1) := by decide +kernel
theorem dX4_insert_87 : decode cX4_insert 87 = .ok (.iload_n 2, 1) := by decide +kernel
theorem dX4_insert_88 : decode cX4_insert 88 = .ok (.iadd, 1) := by decide +kernel
theorem dX4_insert_89 : decode cX4_insert 89 = .ok (.iload_n 3, 1) := by decide +kernel
theorem dX4_insert_90 : decode cX4_insert 90 = .ok (.iastore, 1) := by decide +kernel
theorem dX4_insert_91 : decode cX4_insert 91 = .ok (.return_, 1) := by decide +kernel
theorem dX4_currentOwner_0 : decode cX4_currentOwner 0 = .ok (.aload_n 0, 1) := by decide +kernel
theorem dX4_currentOwner_1 : decode cX4_currentOwner 1 = .ok (.getfield 47, 3) := by decide +kernel
theorem dX4_currentOwner_4 : decode cX4_currentOwner 4 = .ok (.iload_n 1, 1) := by decide +kernel
theorem dX4_currentOwner_5 : decode cX4_currentOwner 5 = .ok (.iaload, 1) := by decide +kernel
theorem dX4_currentOwner_6 : decode cX4_currentOwner 6 = .ok (.istore_n 2, 1) := by decide +kernel
theorem dX4_currentOwner_7 : decode cX4_currentOwner 7 = .ok (.iload_n 2, 1) := by decide +kernel
theorem dX4_currentOwner_8 : decode cX4_currentOwner 8 = .ok (.iconst (-1), 1) := by decide +kernel
theorem dX4_currentOwner_9 : decode cX4_currentOwner 9 = .ok (.if_icmp .eq 18, 3) := by decide +kernel
theorem dX4_currentOwner_12 : decode cX4_currentOwner 12 = .ok (.aload_n 0, 1) := by decide +kernel
theorem dX4_currentOwner_13 : decode cX4_currentOwner 13 = .ok (.getfield 29, 3) := by decide +kernel
theorem dX4_currentOwner_16 : decode cX4_currentOwner 16 = .ok (.iload_n 2, 1) := by decide +kernel
theorem dX4_currentOwner_17 : decode cX4_currentOwner 17 = .ok (.iaload, 1) := by decide +kernel
theorem dX4_currentOwner_18 : decode cX4_currentOwner 18 = .ok (.aload_n 0, 1) := by decide +kernel
theorem dX4_currentOwner_19 : decode cX4_currentOwner 19 = .ok (.getfield 7, 3) := by decide +kernel
theorem dX4_currentOwner_22 : decode cX4_currentOwner 22 = .ok (.iload_n 1, 1) := by decide +kernel
theorem dX4_currentOwner_23 : decode cX4_currentOwner 23 = .ok (.iaload, 1) := by decide +kernel
theorem dX4_currentOwner_24 : decode cX4_currentOwner 24 = .ok (.if_icmp .ne 7, 3) := by decide +kernel
theorem dX4_currentOwner_27 : decode cX4_currentOwner 27 = .ok (.iload_n 2, 1) := by decide +kernel
theorem dX4_currentOwner_28 : decode cX4_currentOwner 28 = .ok (.goto 9, 3) := by decide +kernel
theorem dX4_currentOwner_31 : decode cX4_currentOwner 31 = .ok (.aload_n 0, 1) := by decide +kernel
theorem dX4_currentOwner_32 : decode cX4_currentOwner 32 = .ok (.iload_n 1, 1) := by decide +kernel
theorem dX4_currentOwner_33 : decode cX4_currentOwner 33 = .ok (.iload_n 2, 1) := by decide +kernel
theorem dX4_currentOwner_34 : decode cX4_currentOwner 34 = .ok (.invokevirtual 78, 3) := by decide +kernel
theorem dX4_currentOwner_37 : decode cX4_currentOwner 37 = .ok (.ireturn, 1) := by decide +kernel
theorem dX4_membersOf_0 : decode cX4_membersOf 0 = .ok (.iconst 0, 1) := by decide +kernel
theorem dX4_membersOf_1 : decode cX4_membersOf 1 = .ok (.istore_n 3, 1) := by decide +kernel
theorem dX4_membersOf_2 : decode cX4_membersOf 2 = .ok (.iconst 0, 1) := by decide +kernel
theorem dX4_membersOf_3 : decode cX4_membersOf 3 = .ok (.istore 4, 2) := by decide +kernel
theorem dX4_membersOf_5 : decode cX4_membersOf 5 = .ok (.iload 4, 2) := by decide +kernel
theorem dX4_membersOf_7 : decode cX4_membersOf 7 = .ok (.aload_n 0, 1) := by decide +kernel
theorem dX4_membersOf_8 : decode cX4_membersOf 8 = .ok (.getfield 38, 3) := by decide +kernel
theorem dX4_membersOf_11 : decode cX4_membersOf 11 = .ok (.iload_n 1, 1) := by decide +kernel
theorem dX4_membersOf_12 : decode cX4_membersOf 12 = .ok (.iaload, 1) := by decide +kernel
theorem dX4_membersOf_13 : decode cX4_membersOf 13 = .ok (.if_icmp .ge 38, 3) := by decide +kernel
theorem dX4_membersOf_16 : decode cX4_membersOf 16 = .ok (.iload_n 3, 1) := by decide +kernel
theorem dX4_membersOf_17 : decode cX4_membersOf 17 = .ok (.aload_n 0, 1) := by decide +kernel
theorem dX4_membersOf_18 : decode cX4_membersOf 18 = .ok (.iload_n 1, 1) := by decide +kernel
theorem dX4_membersOf_19 : decode cX4_membersOf 19 = .ok (.aload_n 0, 1) := by decide +kernel
theorem dX4_membersOf_20 : decode cX4_membersOf 20 = .ok (.getfield 41, 3) := by decide +kernel
theorem dX4_membersOf_23 : decode cX4_membersOf 23 = .ok (.bipush 60, 2) := by decide +kernel
theorem dX4_membersOf_25 : decode cX4_membersOf 25 = .ok (.iload_n 1, 1) := by decide +kernel
theorem dX4_membersOf_26 : decode cX4_membersOf 26 = .ok (.imul, 1) := by decide +kernel
theorem dX4_membersOf_27 : decode cX4_membersOf 27 = .ok (.iload 4, 2) := by decide +kernel
theorem dX4_membersOf_29 : decode cX4_membersOf 29 = .ok (.iadd, 1) := by decide +kernel
theorem dX4_membersOf_30 : decode cX4_membersOf 30 = .ok (.iaload, 1) := by decide +kernel
theorem dX4_membersOf_31 : decode cX4_membersOf 31 = .ok (.invokevirtual 78, 3) := by decide +kernel
theorem dX4_membersOf_34 : decode cX4_membersOf 34 = .ok (.iload_n 2, 1) := by decide +kernel
theorem dX4_membersOf_35 : decode cX4_membersOf 35 = .ok (.if_icmp .ne 7, 3) := by decide +kernel
theorem dX4_membersOf_38 : decode cX4_membersOf 38 = .ok (.iconst 1, 1) := by decide +kernel
theorem dX4_membersOf_39 : decode cX4_membersOf 39 = .ok (.goto 4, 3) := by decide +kernel
theorem dX4_membersOf_42 : decode cX4_membersOf 42 = .ok (.iconst 0, 1) := by decide +kernel
theorem dX4_membersOf_43 : decode cX4_membersOf 43 = .ok (.iadd, 1) := by decide +kernel
theorem dX4_membersOf_44 : decode cX4_membersOf 44 = .ok (.istore_n 3, 1) := by decide +kernel
theorem dX4_membersOf_45 : decode cX4_membersOf 45 = .ok (.iinc 4 1, 3) := by decide +kernel
theorem dX4_membersOf_48 : decode cX4_membersOf 48 = .ok (.goto (-43), 3) := by decide +kernel
theorem dX4_membersOf_51 : decode cX4_membersOf 51 = .ok (.iload_n 3, 1) := by decide +kernel
theorem dX4_membersOf_52 : decode cX4_membersOf 52 = .ok (.ireturn, 1) := by decide +kernel
theorem dX4_memberOf_0 : decode cX4_memberOf 0 = .ok (.iload_n 3, 1) := by decide +kernel
theorem dX4_memberOf_1 : decode cX4_memberOf 1 = .ok (.istore 4, 2) := by decide +kernel
theorem dX4_memberOf_3 : decode cX4_memberOf 3 = .ok (.iconst (-1), 1) := by decide +kernel
theorem dX4_memberOf_4 : decode cX4_memberOf 4 = .ok (.istore 5, 2) := by decide +kernel
theorem dX4_memberOf_6 : decode cX4_memberOf 6 = .ok (.iconst 0, 1) := by decide +kernel
theorem dX4_memberOf_7 : decode cX4_memberOf 7 = .ok (.istore 6, 2) := by decide +kernel
theorem dX4_memberOf_9 : decode cX4_memberOf 9 = .ok (.iload 6, 2) := by decide +kernel
theorem dX4_memberOf_11 : decode cX4_memberOf 11 = .ok (.aload_n 0, 1) := by decide +kernel
theorem dX4_memberOf_12 : decode cX4_memberOf 12 = .ok (.getfield 38, 3) := by decide +kernel
theorem dX4_memberOf_15 : decode cX4_memberOf 15 = .ok (.iload_n 1, 1) := by decide +kernel
theorem dX4_memberOf_16 : decode cX4_memberOf 16 = .ok (.iaload, 1) := by decide +kernel
theorem dX4_memberOf_17 : decode cX4_memberOf 17 = .ok (.if_icmp .ge 74, 3) := by decide +kernel
theorem dX4_memberOf_20 : decode cX4_memberOf 20 = .ok (.iload 5, 2) := by decide +kernel
theorem dX4_memberOf_22 : decode cX4_memberOf 22 = .ok (.iconst (-1), 1) := by decide +kernel
theorem dX4_memberOf_23 : decode cX4_memberOf 23 = .ok (.if_icmp .ne 68, 3) := by decide +kernel
theorem dX4_memberOf_26 : decode cX4_memberOf 26 = .ok (.aload_n 0, 1) := by decide +kernel
theorem dX4_memberOf_27 : decode cX4_memberOf 27 = .ok (.getfield 41, 3) := by decide +kernel
theorem dX4_memberOf_30 : decode cX4_memberOf 30 = .ok (.bipush 60, 2) := by decide +kernel
theorem dX4_memberOf_32 : decode cX4_memberOf 32 = .ok (.iload_n 1, 1) := by decide +kernel
theorem dX4_memberOf_33 : decode cX4_memberOf 33 = .ok (.imul, 1) := by decide +kernel
theorem dX4_memberOf_34 : decode cX4_memberOf 34 = .ok (.iload 6, 2) := by decide +kernel
theorem dX4_memberOf_36 : decode cX4_memberOf 36 = .ok (.iadd, 1) := by decide +kernel
theorem dX4_memberOf_37 : decode cX4_memberOf 37 = .ok (.iaload, 1) := by decide +kernel
theorem dX4_memberOf_38 : decode cX4_memberOf 38 = .ok (.istore 7, 2) := by decide +kernel
theorem dX4_memberOf_40 : decode cX4_memberOf 40 = .ok (.aload_n 0, 1) := by decide +kernel
theorem dX4_memberOf_41 : decode cX4_memberOf 41 = .ok (.iload_n 1, 1) := by decide +kernel
theorem dX4_memberOf_42 : decode cX4_memberOf 42 = .ok (.iload 7, 2) := by decide +kernel
theorem dX4_memberOf_44 : decode cX4_memberOf 44 = .ok (.invokevirtual 78, 3) := by decide +kernel
theorem dX4_memberOf_47 : decode cX4_memberOf 47 = .ok (.iload_n 2, 1) := by decide +kernel
theorem dX4_memberOf_48 : decode cX4_memberOf 48 = .ok (.if_icmp .ne 13, 3) := by decide +kernel
theorem dX4_memberOf_51 : decode cX4_memberOf 51 = .ok (.iload 4, 2) := by decide +kernel
theorem dX4_memberOf_53 : decode cX4_memberOf 53 = .ok (.ifCond .ne 8, 3) := by decide +kernel
theorem dX4_memberOf_56 : decode cX4_memberOf 56 = .ok (.iload 7, 2) := by decide +kernel
theorem dX4_memberOf_58 : decode cX4_memberOf 58 = .ok (.goto 4, 3) := by decide +kernel
theorem dX4_memberOf_61 : decode cX4_memberOf 61 = .ok (.iconst (-1), 1) := by decide +kernel
theorem dX4_memberOf_62 : decode cX4_memberOf 62 = .ok (.istore 5, 2) := by decide +kernel
theorem dX4_memberOf_64 : decode cX4_memberOf 64 = .ok (.iload 4, 2) := by decide +kernel
theorem dX4_memberOf_66 : decode cX4_memberOf 66 = .ok (.aload_n 0, 1) := by decide +kernel
theorem dX4_memberOf_67 : decode cX4_memberOf 67 = .ok (.iload_n 1, 1) := by decide +kernel
theorem dX4_memberOf_68 : decode cX4_memberOf 68 = .ok (.iload 7, 2) := by decide +kernel
theorem dX4_memberOf_70 : decode cX4_memberOf 70 = .ok (.invokevirtual 78, 3) := by decide +kernel
theorem dX4_memberOf_73 : decode cX4_memberOf 73 = .ok (.iload_n 2, 1) := by decide +kernel
theorem dX4_memberOf_74 : decode cX4_memberOf 74 = .ok (.if_icmp .ne 7, 3) := by decide +kernel
theorem dX4_memberOf_77 : decode cX4_memberOf 77 = .ok (.iconst 1, 1) := by decide +kernel
theorem dX4_memberOf_78 : decode cX4_memberOf 78 = .ok (.goto 4, 3) := by decide +kernel
theorem dX4_memberOf_81 : decode cX4_memberOf 81 = .ok (.iconst 0, 1) := by decide +kernel
theorem dX4_memberOf_82 : decode cX4_memberOf 82 = .ok (.isub, 1) := by decide +kernel
theorem dX4_memberOf_83 : decode cX4_memberOf 83 = .ok (.istore 4, 2) := by decide +kernel
theorem dX4_memberOf_85 : decode cX4_memberOf 85 = .ok (.iinc 6 1, 3) := by decide +kernel
theorem dX4_memberOf_88 : decode cX4_memberOf 88 = .ok (.goto (-79), 3) := by decide +kernel
theorem dX4_memberOf_91 : decode cX4_memberOf 91 = .ok (.iload 5, 2) := by decide +kernel
theorem dX4_memberOf_93 : decode cX4_memberOf 93 = .ok (.ireturn, 1) := by decide +kernel
theorem dX4_becomes_0 : decode cX4_becomes 0 = .ok (.iload_n 1, 1) := by decide +kernel
theorem dX4_becomes_1 : decode cX4_becomes 1 = .ok (.iconst (-1), 1) := by decide +kernel
theorem dX4_becomes_2 : decode cX4_becomes 2 = .ok (.if_icmp .eq 77, 3) := by decide +kernel
theorem dX4_becomes_5 : decode cX4_becomes 5 = .ok (.aload_n 0, 1) := by decide +kernel
theorem dX4_becomes_6 : decode cX4_becomes 6 = .ok (.iload_n 1, 1) := by decide +kernel
theorem dX4_becomes_7 : decode cX4_becomes 7 = .ok (.putfield 53, 3) := by decide +kernel
theorem dX4_becomes_10 : decode cX4_becomes 10 = .ok (.aload_n 0, 1) := by decide +kernel
theorem dX4_becomes_11 : decode cX4_becomes 11 = .ok (.getfield 44, 3) := by decide +kernel
theorem dX4_becomes_14 : decode cX4_becomes 14 = .ok (.aload_n 0, 1) := by decide +kernel
theorem dX4_becomes_15 : decode cX4_becomes 15 = .ok (.getfield 29, 3) := by decide +kernel
theorem dX4_becomes_18 : decode cX4_becomes 18 = .ok (.iload_n 1, 1) := by decide +kernel
theorem dX4_becomes_19 : decode cX4_becomes 19 = .ok (.iaload, 1) := by decide +kernel
theorem dX4_becomes_20 : decode cX4_becomes 20 = .ok (.iload_n 1, 1) := by decide +kernel
theorem dX4_becomes_21 : decode cX4_becomes 21 = .ok (.iastore, 1) := by decide +kernel
theorem dX4_becomes_22 : decode cX4_becomes 22 = .ok (.iconst 0, 1) := by decide +kernel
theorem dX4_becomes_23 : decode cX4_becomes 23 = .ok (.istore_n 2, 1) := by decide +kernel
theorem dX4_becomes_24 : decode cX4_becomes 24 = .ok (.iload_n 2, 1) := by decide +kernel
theorem dX4_becomes_25 : decode cX4_becomes 25 = .ok (.aload_n 0, 1) := by decide +kernel
theorem dX4_becomes_26 : decode cX4_becomes 26 = .ok (.getfield 60, 3) := by decide +kernel
theorem dX4_becomes_29 : decode cX4_becomes 29 = .ok (.if_icmp .ge 50, 3) := by decide +kernel
theorem dX4_becomes_32 : decode cX4_becomes 32 = .ok (.aload_n 0, 1) := by decide +kernel
theorem dX4_becomes_33 : decode cX4_becomes 33 = .ok (.getfield 47, 3) := by decide +kernel
theorem dX4_becomes_36 : decode cX4_becomes 36 = .ok (.iload_n 2, 1) := by decide +kernel
theorem dX4_becomes_37 : decode cX4_becomes 37 = .ok (.aload_n 0, 1) := by decide +kernel
theorem dX4_becomes_38 : decode cX4_becomes 38 = .ok (.getfield 29, 3) := by decide +kernel
theorem dX4_becomes_41 : decode cX4_becomes 41 = .ok (.iload_n 1, 1) := by decide +kernel
theorem dX4_becomes_42 : decode cX4_becomes 42 = .ok (.iaload, 1) := by decide +kernel
theorem dX4_becomes_43 : decode cX4_becomes 43 = .ok (.aload_n 0, 1) := by decide +kernel
theorem dX4_becomes_44 : decode cX4_becomes 44 = .ok (.getfield 7, 3) := by decide +kernel
theorem dX4_becomes_47 : decode cX4_becomes 47 = .ok (.iload_n 2, 1) := by decide +kernel
theorem dX4_becomes_48 : decode cX4_becomes 48 = .ok (.iaload, 1) := by decide +kernel
theorem dX4_becomes_49 : decode cX4_becomes 49 = .ok (.if_icmp .eq 13, 3) := by decide +kernel
theorem dX4_becomes_52 : decode cX4_becomes 52 = .ok (.aload_n 0, 1) := by decide +kernel
theorem dX4_becomes_53 : decode cX4_becomes 53 = .ok (.iload_n 2, 1) := by decide +kernel
theorem dX4_becomes_54 : decode cX4_becomes 54 = .ok (.iload_n 1, 1) := by decide +kernel
theorem dX4_becomes_55 : decode cX4_becomes 55 = .ok (.invokevirtual 78, 3) := by decide +kernel
theorem dX4_becomes_58 : decode cX4_becomes 58 = .ok (.iconst (-1), 1) := by decide +kernel
theorem dX4_becomes_59 : decode cX4_becomes 59 = .ok (.if_icmp .eq 7, 3) := by decide +kernel
theorem dX4_becomes_62 : decode cX4_becomes 62 = .ok (.iload_n 1, 1) := by decide +kernel
theorem dX4_becomes_63 : decode cX4_becomes 63 = .ok (.goto 9, 3) := by decide +kernel
theorem dX4_becomes_66 : decode cX4_becomes 66 = .ok (.aload_n 0, 1) := by decide +kernel
theorem dX4_becomes_67 : decode cX4_becomes 67 = .ok (.getfield 47, 3) := by decide +kernel
theorem dX4_becomes_70 : decode cX4_becomes 70 = .ok (.iload_n 2, 1) := by decide +kernel
theorem dX4_becomes_71 : decode cX4_becomes 71 = .ok (.iaload, 1) := by decide +kernel
theorem dX4_becomes_72 : decode cX4_becomes 72 = .ok (.iastore, 1) := by decide +kernel
theorem dX4_becomes_73 : decode cX4_becomes 73 = .ok (.iinc 2 1, 3) := by decide +kernel
theorem dX4_becomes_76 : decode cX4_becomes 76 = .ok (.goto (-52), 3) := by decide +kernel
theorem dX4_becomes_79 : decode cX4_becomes 79 = .ok (.iload_n 1, 1) := by decide +kernel
theorem dX4_becomes_80 : decode cX4_becomes 80 = .ok (.ireturn, 1) := by decide +kernel
theorem dX4_store_0 : decode cX4_store 0 = .ok (.iload_n 1, 1) := by decide +kernel
theorem dX4_store_1 : decode cX4_store 1 = .ok (.iconst 0, 1) := by decide +kernel
theorem dX4_store_2 : decode cX4_store 2 = .ok (.iconst 3, 1) := by decide +kernel
theorem dX4_store_3 : decode cX4_store 3 = .ok (.invokestatic 63, 3) := by decide +kernel
theorem dX4_store_6 : decode cX4_store 6 = .ok (.ifCond .eq 20, 3) := by decide +kernel
theorem dX4_store_9 : decode cX4_store 9 = .ok (.iload_n 2, 1) := by decide +kernel
theorem dX4_store_10 : decode cX4_store 10 = .ok (.sipush (-1000), 3) := by decide +kernel
theorem dX4_store_13 : decode cX4_store 13 = .ok (.sipush 1000, 3) := by decide +kernel
theorem dX4_store_16 : decode cX4_store 16 = .ok (.invokestatic 63, 3) := by decide +kernel
theorem dX4_store_19 : decode cX4_store 19 = .ok (.ifCond .eq 7, 3) := by decide +kernel
theorem dX4_store_22 : decode cX4_store 22 = .ok (.iconst 1, 1) := by decide +kernel
theorem dX4_store_23 : decode cX4_store 23 = .ok (.goto 4, 3) := by decide +kernel
theorem dX4_store_26 : decode cX4_store 26 = .ok (.iconst 0, 1) := by decide +kernel
theorem dX4_store_27 : decode cX4_store 27 = .ok (.istore_n 3, 1) := by decide +kernel
theorem dX4_store_28 : decode cX4_store 28 = .ok (.aload_n 0, 1) := by decide +kernel
theorem dX4_store_29 : decode cX4_store 29 = .ok (.getfield 67, 3) := by decide +kernel
theorem dX4_store_32 : decode cX4_store 32 = .ok (.bipush 60, 2) := by decide +kernel
theorem dX4_store_34 : decode cX4_store 34 = .ok (.if_icmp .ge 7, 3) := by decide +kernel
theorem dX4_store_37 : decode cX4_store 37 = .ok (.iconst 1, 1) := by decide +kernel
theorem dX4_store_38 : decode cX4_store 38 = .ok (.goto 4, 3) := by decide +kernel
theorem dX4_store_41 : decode cX4_store 41 = .ok (.iconst 0, 1) := by decide +kernel
theorem dX4_store_42 : decode cX4_store 42 = .ok (.istore 4, 2) := by decide +kernel
theorem dX4_store_44 : decode cX4_store 44 = .ok (.iconst 0, 1) := by decide +kernel
theorem dX4_store_45 : decode cX4_store 45 = .ok (.istore 5, 2) := by decide +kernel
theorem dX4_store_47 : decode cX4_store 47 = .ok (.iload 5, 2) := by decide +kernel
theorem dX4_store_49 : decode cX4_store 49 = .ok (.aload_n 0, 1) := by decide +kernel
theorem dX4_store_50 : decode cX4_store 50 = .ok (.getfield 60, 3) := by decide +kernel
theorem dX4_store_53 : decode cX4_store 53 = .ok (.if_icmp .ge 53, 3) := by decide +kernel
theorem dX4_store_56 : decode cX4_store 56 = .ok (.iload 4, 2) := by decide +kernel
theorem dX4_store_58 : decode cX4_store 58 = .ok (.ifCond .eq 39, 3) := by decide +kernel
theorem dX4_store_61 : decode cX4_store 61 = .ok (.aload_n 0, 1) := by decide +kernel
theorem dX4_store_62 : decode cX4_store 62 = .ok (.getfield 19, 3) := by decide +kernel
theorem dX4_store_65 : decode cX4_store 65 = .ok (.iload 5, 2) := by decide +kernel
theorem dX4_store_67 : decode cX4_store 67 = .ok (.baload, 1) := by decide +kernel
theorem dX4_store_68 : decode cX4_store 68 = .ok (.ifCond .eq 25, 3) := by decide +kernel
theorem dX4_store_71 : decode cX4_store 71 = .ok (.aload_n 0, 1) := by decide +kernel
theorem dX4_store_72 : decode cX4_store 72 = .ok (.getfield 13, 3) := by decide +kernel
theorem dX4_store_75 : decode cX4_store 75 = .ok (.iload 5, 2) := by decide +kernel
theorem dX4_store_77 : decode cX4_store 77 = .ok (.iaload, 1) := by decide +kernel
theorem dX4_store_78 : decode cX4_store 78 = .ok (.iload_n 1, 1) := by decide +kernel
theorem dX4_store_79 : decode cX4_store 79 = .ok (.if_icmp .ne 14, 3) := by decide +kernel
theorem dX4_store_82 : decode cX4_store 82 = .ok (.aload_n 0, 1) := by decide +kernel
theorem dX4_store_83 : decode cX4_store 83 = .ok (.getfield 47, 3) := by decide +kernel
theorem dX4_store_86 : decode cX4_store 86 = .ok (.iload 5, 2) := by decide +kernel
theorem dX4_store_88 : decode cX4_store 88 = .ok (.iaload, 1) := by decide +kernel
theorem dX4_store_89 : decode cX4_store 89 = .ok (.iconst (-1), 1) := by decide +kernel
theorem dX4_store_90 : decode cX4_store 90 = .ok (.if_icmp .eq 7, 3) := by decide +kernel
theorem dX4_store_93 : decode cX4_store 93 = .ok (.iconst 1, 1) := by decide +kernel
theorem dX4_store_94 : decode cX4_store 94 = .ok (.goto 4, 3) := by decide +kernel
theorem dX4_store_97 : decode cX4_store 97 = .ok (.iconst 0, 1) := by decide +kernel
theorem dX4_store_98 : decode cX4_store 98 = .ok (.istore 4, 2) := by decide +kernel
theorem dX4_store_100 : decode cX4_store 100 = .ok (.iinc 5 1, 3) := by decide +kernel
theorem dX4_store_103 : decode cX4_store 103 = .ok (.goto (-56), 3) := by decide +kernel
theorem dX4_store_106 : decode cX4_store 106 = .ok (.aload_n 0, 1) := by decide +kernel
theorem dX4_store_107 : decode cX4_store 107 = .ok (.iload_n 3, 1) := by decide +kernel
theorem dX4_store_108 : decode cX4_store 108 = .ok (.ifCond .ne 7, 3) := by decide +kernel
theorem dX4_store_111 : decode cX4_store 111 = .ok (.iconst 1, 1) := by decide +kernel
theorem dX4_store_112 : decode cX4_store 112 = .ok (.goto 13, 3) := by decide +kernel
theorem dX4_store_115 : decode cX4_store 115 = .ok (.iload 4, 2) := by decide +kernel
theorem dX4_store_117 : decode cX4_store 117 = .ok (.ifCond .eq 7, 3) := by decide +kernel
theorem dX4_store_120 : decode cX4_store 120 = .ok (.iconst 0, 1) := by decide +kernel
theorem dX4_store_121 : decode cX4_store 121 = .ok (.goto 4, 3) := by decide +kernel
theorem dX4_store_124 : decode cX4_store 124 = .ok (.iconst 2, 1) := by decide +kernel
theorem dX4_store_125 : decode cX4_store 125 = .ok (.invokevirtual 70, 3) := by decide +kernel
theorem dX4_store_128 : decode cX4_store 128 = .ok (.ifCond .ne 5, 3) := by decide +kernel
theorem dX4_store_131 : decode cX4_store 131 = .ok (.iconst 0, 1) := by decide +kernel
theorem dX4_store_132 : decode cX4_store 132 = .ok (.ireturn, 1) := by decide +kernel
theorem dX4_store_133 : decode cX4_store 133 = .ok (.aload_n 0, 1) := by decide +kernel
theorem dX4_store_134 : decode cX4_store 134 = .ok (.getfield 67, 3) := by decide +kernel
theorem dX4_store_137 : decode cX4_store 137 = .ok (.istore 5, 2) := by decide +kernel
theorem dX4_store_139 : decode cX4_store 139 = .ok (.aload_n 0, 1) := by decide +kernel
theorem dX4_store_140 : decode cX4_store 140 = .ok (.dup, 1) := by decide +kernel
theorem dX4_store_141 : decode cX4_store 141 = .ok (.getfield 67, 3) := by decide +kernel
theorem dX4_store_144 : decode cX4_store 144 = .ok (.iconst 1, 1) := by decide +kernel
theorem dX4_store_145 : decode cX4_store 145 = .ok (.iadd, 1) := by decide +kernel
theorem dX4_store_146 : decode cX4_store 146 = .ok (.putfield 67, 3) := by decide +kernel
theorem dX4_store_149 : decode cX4_store 149 = .ok (.aload_n 0, 1) := by decide +kernel
theorem dX4_store_150 : decode cX4_store 150 = .ok (.dup, 1) := by decide +kernel
theorem dX4_store_151 : decode cX4_store 151 = .ok (.getfield 85, 3) := by decide +kernel
theorem dX4_store_154 : decode cX4_store 154 = .ok (.iconst 1, 1) := by decide +kernel
theorem dX4_store_155 : decode cX4_store 155 = .ok (.iadd, 1) := by decide +kernel
theorem dX4_store_156 : decode cX4_store 156 = .ok (.putfield 85, 3) := by decide +kernel
theorem dX4_store_159 : decode cX4_store 159 = .ok (.aload_n 0, 1) := by decide +kernel
theorem dX4_store_160 : decode cX4_store 160 = .ok (.getfield 26, 3) := by decide +kernel
theorem dX4_store_163 : decode cX4_store 163 = .ok (.iload 5, 2) := by decide +kernel
theorem dX4_store_165 : decode cX4_store 165 = .ok (.iconst 1, 1) := by decide +kernel
theorem dX4_store_166 : decode cX4_store 166 = .ok (.bastore, 1) := by decide +kernel
theorem dX4_store_167 : decode cX4_store 167 = .ok (.aload_n 0, 1) := by decide +kernel
theorem dX4_store_168 : decode cX4_store 168 = .ok (.getfield 29, 3) := by decide +kernel
theorem dX4_store_171 : decode cX4_store 171 = .ok (.iload 5, 2) := by decide +kernel
theorem dX4_store_173 : decode cX4_store 173 = .ok (.iload_n 1, 1) := by decide +kernel
theorem dX4_store_174 : decode cX4_store 174 = .ok (.iastore, 1) := by decide +kernel
theorem dX4_store_175 : decode cX4_store 175 = .ok (.aload_n 0, 1) := by decide +kernel
theorem dX4_store_176 : decode cX4_store 176 = .ok (.getfield 32, 3) := by decide +kernel
theorem dX4_store_179 : decode cX4_store 179 = .ok (.iload 5, 2) := by decide +kernel
theorem dX4_store_181 : decode cX4_store 181 = .ok (.iload_n 2, 1) := by decide +kernel
theorem dX4_store_182 : decode cX4_store 182 = .ok (.iastore, 1) := by decide +kernel
theorem dX4_store_183 : decode cX4_store 183 = .ok (.iconst 0, 1) := by decide +kernel
theorem dX4_store_184 : decode cX4_store 184 = .ok (.istore 6, 2) := by decide +kernel
theorem dX4_store_186 : decode cX4_store 186 = .ok (.iload 6, 2) := by decide +kernel
theorem dX4_store_188 : decode cX4_store 188 = .ok (.aload_n 0, 1) := by decide +kernel
theorem dX4_store_189 : decode cX4_store 189 = .ok (.getfield 60, 3) := by decide +kernel
theorem dX4_store_192 : decode cX4_store 192 = .ok (.if_icmp .ge 44, 3) := by decide +kernel
theorem dX4_store_195 : decode cX4_store 195 = .ok (.aload_n 0, 1) := by decide +kernel
theorem dX4_store_196 : decode cX4_store 196 = .ok (.getfield 19, 3) := by decide +kernel
theorem dX4_store_199 : decode cX4_store 199 = .ok (.iload 6, 2) := by decide +kernel
theorem dX4_store_201 : decode cX4_store 201 = .ok (.baload, 1) := by decide +kernel
theorem dX4_store_202 : decode cX4_store 202 = .ok (.ifCond .eq 28, 3) := by decide +kernel
theorem dX4_store_205 : decode cX4_store 205 = .ok (.aload_n 0, 1) := by decide +kernel
theorem dX4_store_206 : decode cX4_store 206 = .ok (.getfield 13, 3) := by decide +kernel
theorem dX4_store_209 : decode cX4_store 209 = .ok (.iload 6, 2) := by decide +kernel
theorem dX4_store_211 : decode cX4_store 211 = .ok (.iaload, 1) := by decide +kernel
theorem dX4_store_212 : decode cX4_store 212 = .ok (.iload_n 1, 1) := by decide +kernel
theorem dX4_store_213 : decode cX4_store 213 = .ok (.if_icmp .ne 17, 3) := by decide +kernel
theorem dX4_store_216 : decode cX4_store 216 = .ok (.aload_n 0, 1) := by decide +kernel
theorem dX4_store_217 : decode cX4_store 217 = .ok (.iload 6, 2) := by decide +kernel
theorem dX4_store_219 : decode cX4_store 219 = .ok (.iload 5, 2) := by decide +kernel
theorem dX4_store_221 : decode cX4_store 221 = .ok (.aload_n 0, 1) := by decide +kernel
theorem dX4_store_222 : decode cX4_store 222 = .ok (.iload 6, 2) := by decide +kernel
theorem dX4_store_224 : decode cX4_store 224 = .ok (.invokevirtual 88, 3) := by decide +kernel
theorem dX4_store_227 : decode cX4_store 227 = .ok (.invokevirtual 92, 3) := by decide +kernel
theorem dX4_store_230 : decode cX4_store 230 = .ok (.iinc 6 1, 3) := by decide +kernel
theorem dX4_store_233 : decode cX4_store 233 = .ok (.goto (-47), 3) := by decide +kernel
theorem dX4_store_236 : decode cX4_store 236 = .ok (.aload_n 0, 1) := by decide +kernel
theorem dX4_store_237 : decode cX4_store 237 = .ok (.iload 5, 2) := by decide +kernel
theorem dX4_store_239 : decode cX4_store 239 = .ok (.invokevirtual 96, 3) := by decide +kernel
theorem dX4_store_242 : decode cX4_store 242 = .ok (.ireturn, 1) := by decide +kernel
theorem dX4_modify_0 : decode cX4_modify 0 = .ok (.aload_n 0, 1) := by decide +kernel
theorem dX4_modify_1 : decode cX4_modify 1 = .ok (.iload_n 1, 1) := by decide +kernel
theorem dX4_modify_2 : decode cX4_modify 2 = .ok (.sipush (-1000), 3) := by decide +kernel
theorem dX4_modify_5 : decode cX4_modify 5 = .ok (.sipush 1000, 3) := by decide +kernel
theorem dX4_modify_8 : decode cX4_modify 8 = .ok (.invokestatic 63, 3) := by decide +kernel
theorem dX4_modify_11 : decode cX4_modify 11 = .ok (.ifCond .ne 7, 3) := by decide +kernel
theorem dX4_modify_14 : decode cX4_modify 14 = .ok (.iconst 1, 1) := by decide +kernel
theorem dX4_modify_15 : decode cX4_modify 15 = .ok (.goto 16, 3) := by decide +kernel
theorem dX4_modify_18 : decode cX4_modify 18 = .ok (.aload_n 0, 1) := by decide +kernel
theorem dX4_modify_19 : decode cX4_modify 19 = .ok (.getfield 53, 3) := by decide +kernel
theorem dX4_modify_22 : decode cX4_modify 22 = .ok (.iconst (-1), 1) := by decide +kernel
theorem dX4_modify_23 : decode cX4_modify 23 = .ok (.if_icmp .ne 7, 3) := by decide +kernel
theorem dX4_modify_26 : decode cX4_modify 26 = .ok (.iconst 2, 1) := by decide +kernel
theorem dX4_modify_27 : decode cX4_modify 27 = .ok (.goto 4, 3) := by decide +kernel
theorem dX4_modify_30 : decode cX4_modify 30 = .ok (.iconst 0, 1) := by decide +kernel
theorem dX4_modify_31 : decode cX4_modify 31 = .ok (.invokevirtual 70, 3) := by decide +kernel
theorem dX4_modify_34 : decode cX4_modify 34 = .ok (.ifCond .ne 5, 3) := by decide +kernel
theorem dX4_modify_37 : decode cX4_modify 37 = .ok (.iconst 0, 1) := by decide +kernel
theorem dX4_modify_38 : decode cX4_modify 38 = .ok (.ireturn, 1) := by decide +kernel
theorem dX4_modify_39 : decode cX4_modify 39 = .ok (.aload_n 0, 1) := by decide +kernel
theorem dX4_modify_40 : decode cX4_modify 40 = .ok (.getfield 32, 3) := by decide +kernel
theorem dX4_modify_43 : decode cX4_modify 43 = .ok (.aload_n 0, 1) := by decide +kernel
theorem dX4_modify_44 : decode cX4_modify 44 = .ok (.getfield 53, 3) := by decide +kernel
theorem dX4_modify_47 : decode cX4_modify 47 = .ok (.iaload, 1) := by decide +kernel
theorem dX4_modify_48 : decode cX4_modify 48 = .ok (.istore_n 2, 1) := by decide +kernel
theorem dX4_modify_49 : decode cX4_modify 49 = .ok (.aload_n 0, 1) := by decide +kernel
theorem dX4_modify_50 : decode cX4_modify 50 = .ok (.getfield 32, 3) := by decide +kernel
theorem dX4_modify_53 : decode cX4_modify 53 = .ok (.aload_n 0, 1) := by decide +kernel
theorem dX4_modify_54 : decode cX4_modify 54 = .ok (.getfield 53, 3) := by decide +kernel
theorem dX4_modify_57 : decode cX4_modify 57 = .ok (.iload_n 1, 1) := by decide +kernel
theorem dX4_modify_58 : decode cX4_modify 58 = .ok (.iastore, 1) := by decide +kernel
theorem dX4_modify_59 : decode cX4_modify 59 = .ok (.iconst 0, 1) := by decide +kernel
theorem dX4_modify_60 : decode cX4_modify 60 = .ok (.istore_n 3, 1) := by decide +kernel
theorem dX4_modify_61 : decode cX4_modify 61 = .ok (.iload_n 3, 1) := by decide +kernel
theorem dX4_modify_62 : decode cX4_modify 62 = .ok (.aload_n 0, 1) := by decide +kernel
theorem dX4_modify_63 : decode cX4_modify 63 = .ok (.getfield 60, 3) := by decide +kernel
theorem dX4_modify_66 : decode cX4_modify 66 = .ok (.if_icmp .ge 56, 3) := by decide +kernel
theorem dX4_modify_69 : decode cX4_modify 69 = .ok (.aload_n 0, 1) := by decide +kernel
theorem dX4_modify_70 : decode cX4_modify 70 = .ok (.iload_n 3, 1) := by decide +kernel
theorem dX4_modify_71 : decode cX4_modify 71 = .ok (.aload_n 0, 1) := by decide +kernel
theorem dX4_modify_72 : decode cX4_modify 72 = .ok (.getfield 53, 3) := by decide +kernel
theorem dX4_modify_75 : decode cX4_modify 75 = .ok (.invokevirtual 78, 3) := by decide +kernel
theorem dX4_modify_78 : decode cX4_modify 78 = .ok (.istore 4, 2) := by decide +kernel
theorem dX4_modify_80 : decode cX4_modify 80 = .ok (.iload 4, 2) := by decide +kernel
theorem dX4_modify_82 : decode cX4_modify 82 = .ok (.iconst (-1), 1) := by decide +kernel
theorem dX4_modify_83 : decode cX4_modify 83 = .ok (.if_icmp .eq 33, 3) := by decide +kernel
theorem dX4_modify_86 : decode cX4_modify 86 = .ok (.aload_n 0, 1) := by decide +kernel
theorem dX4_modify_87 : decode cX4_modify 87 = .ok (.getfield 16, 3) := by decide +kernel
theorem dX4_modify_90 : decode cX4_modify 90 = .ok (.iload_n 3, 1) := by decide +kernel
theorem dX4_modify_91 : decode cX4_modify 91 = .ok (.iaload, 1) := by decide +kernel
theorem dX4_modify_92 : decode cX4_modify 92 = .ok (.iconst 4, 1) := by decide +kernel
theorem dX4_modify_93 : decode cX4_modify 93 = .ok (.if_icmp .ne 23, 3) := by decide +kernel
theorem dX4_modify_96 : decode cX4_modify 96 = .ok (.aload_n 0, 1) := by decide +kernel
theorem dX4_modify_97 : decode cX4_modify 97 = .ok (.iload_n 3, 1) := by decide +kernel
theorem dX4_modify_98 : decode cX4_modify 98 = .ok (.aload_n 0, 1) := by decide +kernel
theorem dX4_modify_99 : decode cX4_modify 99 = .ok (.getfield 53, 3) := by decide +kernel
theorem dX4_modify_102 : decode cX4_modify 102 = .ok (.invokevirtual 99, 3) := by decide +kernel
theorem dX4_modify_105 : decode cX4_modify 105 = .ok (.aload_n 0, 1) := by decide +kernel
theorem dX4_modify_106 : decode cX4_modify 106 = .ok (.iload_n 3, 1) := by decide +kernel
theorem dX4_modify_107 : decode cX4_modify 107 = .ok (.aload_n 0, 1) := by decide +kernel
theorem dX4_modify_108 : decode cX4_modify 108 = .ok (.getfield 53, 3) := by decide +kernel
theorem dX4_modify_111 : decode cX4_modify 111 = .ok (.iload 4, 2) := by decide +kernel
theorem dX4_modify_113 : decode cX4_modify 113 = .ok (.invokevirtual 92, 3) := by decide +kernel
theorem dX4_modify_116 : decode cX4_modify 116 = .ok (.iinc 3 1, 3) := by decide +kernel
theorem dX4_modify_119 : decode cX4_modify 119 = .ok (.goto (-58), 3) := by decide +kernel
theorem dX4_modify_122 : decode cX4_modify 122 = .ok (.iload_n 2, 1) := by decide +kernel
theorem dX4_modify_123 : decode cX4_modify 123 = .ok (.ireturn, 1) := by decide +kernel
theorem dX4_marks_0 : decode cX4_marks 0 = .ok (.iconst 1, 1) := by decide +kernel
theorem dX4_marks_1 : decode cX4_marks 1 = .ok (.istore_n 3, 1) := by decide +kernel
theorem dX4_marks_2 : decode cX4_marks 2 = .ok (.iconst 0, 1) := by decide +kernel
theorem dX4_marks_3 : decode cX4_marks 3 = .ok (.istore 4, 2) := by decide +kernel
theorem dX4_marks_5 : decode cX4_marks 5 = .ok (.iload 4, 2) := by decide +kernel
theorem dX4_marks_7 : decode cX4_marks 7 = .ok (.bipush 60, 2) := by decide +kernel
theorem dX4_marks_9 : decode cX4_marks 9 = .ok (.if_icmp .ge 27, 3) := by decide +kernel
theorem dX4_marks_12 : decode cX4_marks 12 = .ok (.aload_n 0, 1) := by decide +kernel
theorem dX4_marks_13 : decode cX4_marks 13 = .ok (.getfield 50, 3) := by decide +kernel
theorem dX4_marks_16 : decode cX4_marks 16 = .ok (.iload 4, 2) := by decide +kernel
theorem dX4_marks_18 : decode cX4_marks 18 = .ok (.iload 4, 2) := by decide +kernel
theorem dX4_marks_20 : decode cX4_marks 20 = .ok (.iload_n 1, 1) := by decide +kernel
theorem dX4_marks_21 : decode cX4_marks 21 = .ok (.if_icmp .ne 7, 3) := by decide +kernel
theorem dX4_marks_24 : decode cX4_marks 24 = .ok (.iconst 1, 1) := by decide +kernel
theorem dX4_marks_25 : decode cX4_marks 25 = .ok (.goto 4, 3) := by decide +kernel
theorem dX4_marks_28 : decode cX4_marks 28 = .ok (.iconst 0, 1) := by decide +kernel
theorem dX4_marks_29 : decode cX4_marks 29 = .ok (.bastore, 1) := by decide +kernel
theorem dX4_marks_30 : decode cX4_marks 30 = .ok (.iinc 4 1, 3) := by decide +kernel
theorem dX4_marks_33 : decode cX4_marks 33 = .ok (.goto (-28), 3) := by decide +kernel
theorem dX4_marks_36 : decode cX4_marks 36 = .ok (.iconst 0, 1) := by decide +kernel
theorem dX4_marks_37 : decode cX4_marks 37 = .ok (.istore 4, 2) := by decide +kernel
theorem dX4_marks_39 : decode cX4_marks 39 = .ok (.iload 4, 2) := by decide +kernel
theorem dX4_marks_41 : decode cX4_marks 41 = .ok (.iload_n 3, 1) := by decide +kernel
theorem dX4_marks_42 : decode cX4_marks 42 = .ok (.if_icmp .ge 121, 3) := by decide +kernel
theorem dX4_marks_45 : decode cX4_marks 45 = .ok (.iload_n 3, 1) := by decide +kernel
theorem dX4_marks_46 : decode cX4_marks 46 = .ok (.istore 4, 2) := by decide +kernel
theorem dX4_marks_48 : decode cX4_marks 48 = .ok (.iconst 0, 1) := by decide +kernel
theorem dX4_marks_49 : decode cX4_marks 49 = .ok (.istore 5, 2) := by decide +kernel
theorem dX4_marks_51 : decode cX4_marks 51 = .ok (.iload 5, 2) := by decide +kernel
theorem dX4_marks_53 : decode cX4_marks 53 = .ok (.sipush 360, 3) := by decide +kernel
theorem dX4_marks_56 : decode cX4_marks 56 = .ok (.if_icmp .ge 104, 3) := by decide +kernel
theorem dX4_marks_59 : decode cX4_marks 59 = .ok (.aload_n 0, 1) := by decide +kernel
theorem dX4_marks_60 : decode cX4_marks 60 = .ok (.getfield 35, 3) := by decide +kernel
theorem dX4_marks_63 : decode cX4_marks 63 = .ok (.iload 5, 2) := by decide +kernel
theorem dX4_marks_65 : decode cX4_marks 65 = .ok (.iaload, 1) := by decide +kernel
theorem dX4_marks_66 : decode cX4_marks 66 = .ok (.iconst (-1), 1) := by decide +kernel
theorem dX4_marks_67 : decode cX4_marks 67 = .ok (.if_icmp .eq 35, 3) := by decide +kernel
theorem dX4_marks_70 : decode cX4_marks 70 = .ok (.aload_n 0, 1) := by decide +kernel
theorem dX4_marks_71 : decode cX4_marks 71 = .ok (.getfield 50, 3) := by decide +kernel
theorem dX4_marks_74 : decode cX4_marks 74 = .ok (.aload_n 0, 1) := by decide +kernel
theorem dX4_marks_75 : decode cX4_marks 75 = .ok (.getfield 35, 3) := by decide +kernel
theorem dX4_marks_78 : decode cX4_marks 78 = .ok (.iload 5, 2) := by decide +kernel
theorem dX4_marks_80 : decode cX4_marks 80 = .ok (.iaload, 1) := by decide +kernel
theorem dX4_marks_81 : decode cX4_marks 81 = .ok (.baload, 1) := by decide +kernel
theorem dX4_marks_82 : decode cX4_marks 82 = .ok (.ifCond .eq 20, 3) := by decide +kernel
theorem dX4_marks_85 : decode cX4_marks 85 = .ok (.aload_n 0, 1) := by decide +kernel
theorem dX4_marks_86 : decode cX4_marks 86 = .ok (.getfield 50, 3) := by decide +kernel
theorem dX4_marks_89 : decode cX4_marks 89 = .ok (.iload 5, 2) := by decide +kernel
theorem dX4_marks_91 : decode cX4_marks 91 = .ok (.bipush 60, 2) := by decide +kernel
theorem dX4_marks_93 : decode cX4_marks 93 = .ok (.irem, 1) := by decide +kernel
theorem dX4_marks_94 : decode cX4_marks 94 = .ok (.baload, 1) := by decide +kernel
theorem dX4_marks_95 : decode cX4_marks 95 = .ok (.ifCond .ne 7, 3) := by decide +kernel
theorem dX4_marks_98 : decode cX4_marks 98 = .ok (.iconst 1, 1) := by decide +kernel
theorem dX4_marks_99 : decode cX4_marks 99 = .ok (.goto 4, 3) := by decide +kernel
theorem dX4_marks_102 : decode cX4_marks 102 = .ok (.iconst 0, 1) := by decide +kernel
theorem dX4_marks_103 : decode cX4_marks 103 = .ok (.istore 6, 2) := by decide +kernel
theorem dX4_marks_105 : decode cX4_marks 105 = .ok (.iload 6, 2) := by decide +kernel
theorem dX4_marks_107 : decode cX4_marks 107 = .ok (.ifCond .eq 9, 3) := by decide +kernel
theorem dX4_marks_110 : decode cX4_marks 110 = .ok (.iload_n 2, 1) := by decide +kernel
theorem dX4_marks_111 : decode cX4_marks 111 = .ok (.ifCond .ne 5, 3) := by decide +kernel
theorem dX4_marks_114 : decode cX4_marks 114 = .ok (.iconst (-1), 1) := by decide +kernel
theorem dX4_marks_115 : decode cX4_marks 115 = .ok (.ireturn, 1) := by decide +kernel
theorem dX4_marks_116 : decode cX4_marks 116 = .ok (.iload 6, 2) := by decide +kernel
theorem dX4_marks_118 : decode cX4_marks 118 = .ok (.ifCond .eq 36, 3) := by decide +kernel
theorem dX4_marks_121 : decode cX4_marks 121 = .ok (.iload_n 2, 1) := by decide +kernel
theorem dX4_marks_122 : decode cX4_marks 122 = .ok (.iconst 2, 1) := by decide +kernel
theorem dX4_marks_123 : decode cX4_marks 123 = .ok (.if_icmp .eq 17, 3) := by decide +kernel
theorem dX4_marks_126 : decode cX4_marks 126 = .ok (.aload_n 0, 1) := by decide +kernel
theorem dX4_marks_127 : decode cX4_marks 127 = .ok (.getfield 23, 3) := by decide +kernel
theorem dX4_marks_130 : decode cX4_marks 130 = .ok (.iload 5, 2) := by decide +kernel
theorem dX4_marks_132 : decode cX4_marks 132 = .ok (.bipush 60, 2) := by decide +kernel
theorem dX4_marks_134 : decode cX4_marks 134 = .ok (.idiv, 1) := by decide +kernel
theorem dX4_marks_135 : decode cX4_marks 135 = .ok (.iaload, 1) := by decide +kernel
theorem dX4_marks_136 : decode cX4_marks 136 = .ok (.iconst 2, 1) := by decide +kernel
theorem dX4_marks_137 : decode cX4_marks 137 = .ok (.if_icmp .eq 17, 3) := by decide +kernel
theorem dX4_marks_140 : decode cX4_marks 140 = .ok (.aload_n 0, 1) := by decide +kernel
theorem dX4_marks_141 : decode cX4_marks 141 = .ok (.getfield 50, 3) := by decide +kernel
theorem dX4_marks_144 : decode cX4_marks 144 = .ok (.iload 5, 2) := by decide +kernel
theorem dX4_marks_146 : decode cX4_marks 146 = .ok (.bipush 60, 2) := by decide +kernel
theorem dX4_marks_148 : decode cX4_marks 148 = .ok (.irem, 1) := by decide +kernel
theorem dX4_marks_149 : decode cX4_marks 149 = .ok (.iconst 1, 1) := by decide +kernel
theorem dX4_marks_150 : decode cX4_marks 150 = .ok (.bastore, 1) := by decide +kernel
theorem dX4_marks_151 : decode cX4_marks 151 = .ok (.iinc 3 1, 3) := by decide +kernel
theorem dX4_marks_154 : decode cX4_marks 154 = .ok (.iinc 5 1, 3) := by decide +kernel
theorem dX4_marks_157 : decode cX4_marks 157 = .ok (.goto (-106), 3) := by decide +kernel
theorem dX4_marks_160 : decode cX4_marks 160 = .ok (.goto (-121), 3) := by decide +kernel
theorem dX4_marks_163 : decode cX4_marks 163 = .ok (.iload_n 3, 1) := by decide +kernel
theorem dX4_marks_164 : decode cX4_marks 164 = .ok (.ireturn, 1) := by decide +kernel
theorem dX4_isGone_0 : decode cX4_isGone 0 = .ok (.iload_n 1, 1) := by decide +kernel
theorem dX4_isGone_1 : decode cX4_isGone 1 = .ok (.iconst (-1), 1) := by decide +kernel
theorem dX4_isGone_2 : decode cX4_isGone 2 = .ok (.if_icmp .eq 16, 3) := by decide +kernel
theorem dX4_isGone_5 : decode cX4_isGone 5 = .ok (.aload_n 0, 1) := by decide +kernel
theorem dX4_isGone_6 : decode cX4_isGone 6 = .ok (.getfield 50, 3) := by decide +kernel
theorem dX4_isGone_9 : decode cX4_isGone 9 = .ok (.iload_n 1, 1) := by decide +kernel
theorem dX4_isGone_10 : decode cX4_isGone 10 = .ok (.baload, 1) := by decide +kernel
theorem dX4_isGone_11 : decode cX4_isGone 11 = .ok (.ifCond .eq 7, 3) := by decide +kernel
theorem dX4_isGone_14 : decode cX4_isGone 14 = .ok (.iconst 1, 1) := by decide +kernel
theorem dX4_isGone_15 : decode cX4_isGone 15 = .ok (.goto 4, 3) := by decide +kernel
theorem dX4_isGone_18 : decode cX4_isGone 18 = .ok (.iconst 0, 1) := by decide +kernel
theorem dX4_isGone_19 : decode cX4_isGone 19 = .ok (.ireturn, 1) := by decide +kernel
theorem dX4_erase_0 : decode cX4_erase 0 = .ok (.aload_n 0, 1) := by decide +kernel
theorem dX4_erase_1 : decode cX4_erase 1 = .ok (.getfield 53, 3) := by decide +kernel
theorem dX4_erase_4 : decode cX4_erase 4 = .ok (.iconst (-1), 1) := by decide +kernel
theorem dX4_erase_5 : decode cX4_erase 5 = .ok (.if_icmp .eq 12, 3) := by decide +kernel
theorem dX4_erase_8 : decode cX4_erase 8 = .ok (.iload_n 1, 1) := by decide +kernel
theorem dX4_erase_9 : decode cX4_erase 9 = .ok (.iconst 0, 1) := by decide +kernel
theorem dX4_erase_10 : decode cX4_erase 10 = .ok (.iconst 2, 1) := by decide +kernel
theorem dX4_erase_11 : decode cX4_erase 11 = .ok (.invokestatic 63, 3) := by decide +kernel
theorem dX4_erase_14 : decode cX4_erase 14 = .ok (.ifCond .ne 7, 3) := by decide +kernel
theorem dX4_erase_17 : decode cX4_erase 17 = .ok (.iconst (-1), 1) := by decide +kernel
theorem dX4_erase_18 : decode cX4_erase 18 = .ok (.goto 12, 3) := by decide +kernel
theorem dX4_erase_21 : decode cX4_erase 21 = .ok (.aload_n 0, 1) := by decide +kernel
theorem dX4_erase_22 : decode cX4_erase 22 = .ok (.aload_n 0, 1) := by decide +kernel
theorem dX4_erase_23 : decode cX4_erase 23 = .ok (.getfield 53, 3) := by decide +kernel
theorem dX4_erase_26 : decode cX4_erase 26 = .ok (.iload_n 1, 1) := by decide +kernel
theorem dX4_erase_27 : decode cX4_erase 27 = .ok (.invokevirtual 103, 3) := by decide +kernel
theorem dX4_erase_30 : decode cX4_erase 30 = .ok (.istore_n 2, 1) := by decide +kernel
theorem dX4_erase_31 : decode cX4_erase 31 = .ok (.aload_n 0, 1) := by decide +kernel
theorem dX4_erase_32 : decode cX4_erase 32 = .ok (.iload_n 1, 1) := by decide +kernel
theorem dX4_erase_33 : decode cX4_erase 33 = .ok (.iconst 0, 1) := by decide +kernel
theorem dX4_erase_34 : decode cX4_erase 34 = .ok (.iconst 2, 1) := by decide +kernel
theorem dX4_erase_35 : decode cX4_erase 35 = .ok (.invokestatic 63, 3) := by decide +kernel
theorem dX4_erase_38 : decode cX4_erase 38 = .ok (.ifCond .ne 7, 3) := by decide +kernel
theorem dX4_erase_41 : decode cX4_erase 41 = .ok (.iconst 1, 1) := by decide +kernel
theorem dX4_erase_42 : decode cX4_erase 42 = .ok (.goto 13, 3) := by decide +kernel
theorem dX4_erase_45 : decode cX4_erase 45 = .ok (.iload_n 2, 1) := by decide +kernel
theorem dX4_erase_46 : decode cX4_erase 46 = .ok (.iconst (-1), 1) := by decide +kernel
theorem dX4_erase_47 : decode cX4_erase 47 = .ok (.if_icmp .ne 7, 3) := by decide +kernel
theorem dX4_erase_50 : decode cX4_erase 50 = .ok (.iconst 2, 1) := by decide +kernel
theorem dX4_erase_51 : decode cX4_erase 51 = .ok (.goto 4, 3) := by decide +kernel
theorem dX4_erase_54 : decode cX4_erase 54 = .ok (.iconst 0, 1) := by decide +kernel
theorem dX4_erase_55 : decode cX4_erase 55 = .ok (.invokevirtual 70, 3) := by decide +kernel
theorem dX4_erase_58 : decode cX4_erase 58 = .ok (.ifCond .ne 5, 3) := by decide +kernel
theorem dX4_erase_61 : decode cX4_erase 61 = .ok (.iconst 0, 1) := by decide +kernel
theorem dX4_erase_62 : decode cX4_erase 62 = .ok (.ireturn, 1) := by decide +kernel
theorem dX4_erase_63 : decode cX4_erase 63 = .ok (.iconst 0, 1) := by decide +kernel
theorem dX4_erase_64 : decode cX4_erase 64 = .ok (.istore_n 3, 1) := by decide +kernel
theorem dX4_erase_65 : decode cX4_erase 65 = .ok (.iload_n 3, 1) := by decide +kernel
theorem dX4_erase_66 : decode cX4_erase 66 = .ok (.aload_n 0, 1) := by decide +kernel
theorem dX4_erase_67 : decode cX4_erase 67 = .ok (.getfield 60, 3) := by decide +kernel
theorem dX4_erase_70 : decode cX4_erase 70 = .ok (.if_icmp .ge 152, 3) := by decide +kernel
theorem dX4_erase_73 : decode cX4_erase 73 = .ok (.iconst 0, 1) := by decide +kernel
theorem dX4_erase_74 : decode cX4_erase 74 = .ok (.istore 4, 2) := by decide +kernel
theorem dX4_erase_76 : decode cX4_erase 76 = .ok (.iload 4, 2) := by decide +kernel
theorem dX4_erase_78 : decode cX4_erase 78 = .ok (.aload_n 0, 1) := by decide +kernel
theorem dX4_erase_79 : decode cX4_erase 79 = .ok (.getfield 67, 3) := by decide +kernel
theorem dX4_erase_82 : decode cX4_erase 82 = .ok (.if_icmp .ge 105, 3) := by decide +kernel
theorem dX4_erase_85 : decode cX4_erase 85 = .ok (.aload_n 0, 1) := by decide +kernel
theorem dX4_erase_86 : decode cX4_erase 86 = .ok (.aload_n 0, 1) := by decide +kernel
theorem dX4_erase_87 : decode cX4_erase 87 = .ok (.iload_n 3, 1) := by decide +kernel
theorem dX4_erase_88 : decode cX4_erase 88 = .ok (.iload 4, 2) := by decide +kernel
theorem dX4_erase_90 : decode cX4_erase 90 = .ok (.invokevirtual 78, 3) := by decide +kernel
theorem dX4_erase_93 : decode cX4_erase 93 = .ok (.invokevirtual 106, 3) := by decide +kernel
theorem dX4_erase_96 : decode cX4_erase 96 = .ok (.ifCond .eq 17, 3) := by decide +kernel
theorem dX4_erase_99 : decode cX4_erase 99 = .ok (.aload_n 0, 1) := by decide +kernel
theorem dX4_erase_100 : decode cX4_erase 100 = .ok (.getfield 50, 3) := by decide +kernel
theorem dX4_erase_103 : decode cX4_erase 103 = .ok (.iload 4, 2) := by decide +kernel
theorem dX4_erase_105 : decode cX4_erase 105 = .ok (.baload, 1) := by decide +kernel
theorem dX4_erase_106 : decode cX4_erase 106 = .ok (.ifCond .ne 7, 3) := by decide +kernel
theorem dX4_erase_109 : decode cX4_erase 109 = .ok (.iconst 1, 1) := by decide +kernel
theorem dX4_erase_110 : decode cX4_erase 110 = .ok (.goto 4, 3) := by decide +kernel
theorem dX4_erase_113 : decode cX4_erase 113 = .ok (.iconst 0, 1) := by decide +kernel
theorem dX4_erase_114 : decode cX4_erase 114 = .ok (.istore 5, 2) := by decide +kernel
theorem dX4_erase_116 : decode cX4_erase 116 = .ok (.aload_n 0, 1) := by decide +kernel
theorem dX4_erase_117 : decode cX4_erase 117 = .ok (.iload_n 3, 1) := by decide +kernel
theorem dX4_erase_118 : decode cX4_erase 118 = .ok (.iload 4, 2) := by decide +kernel
theorem dX4_erase_120 : decode cX4_erase 120 = .ok (.invokevirtual 78, 3) := by decide +kernel
theorem dX4_erase_123 : decode cX4_erase 123 = .ok (.iconst (-1), 1) := by decide +kernel
theorem dX4_erase_124 : decode cX4_erase 124 = .ok (.if_icmp .eq 25, 3) := by decide +kernel
theorem dX4_erase_127 : decode cX4_erase 127 = .ok (.aload_n 0, 1) := by decide +kernel
theorem dX4_erase_128 : decode cX4_erase 128 = .ok (.getfield 50, 3) := by decide +kernel
theorem dX4_erase_131 : decode cX4_erase 131 = .ok (.iload 4, 2) := by decide +kernel
theorem dX4_erase_133 : decode cX4_erase 133 = .ok (.baload, 1) := by decide +kernel
theorem dX4_erase_134 : decode cX4_erase 134 = .ok (.ifCond .ne 8, 3) := by decide +kernel
theorem dX4_erase_137 : decode cX4_erase 137 = .ok (.iload 5, 2) := by decide +kernel
theorem dX4_erase_139 : decode cX4_erase 139 = .ok (.ifCond .eq 10, 3) := by decide +kernel
theorem dX4_erase_142 : decode cX4_erase 142 = .ok (.aload_n 0, 1) := by decide +kernel
theorem dX4_erase_143 : decode cX4_erase 143 = .ok (.iload_n 3, 1) := by decide +kernel
theorem dX4_erase_144 : decode cX4_erase 144 = .ok (.iload 4, 2) := by decide +kernel
theorem dX4_erase_146 : decode cX4_erase 146 = .ok (.invokevirtual 99, 3) := by decide +kernel
theorem dX4_erase_149 : decode cX4_erase 149 = .ok (.aload_n 0, 1) := by decide +kernel
theorem dX4_erase_150 : decode cX4_erase 150 = .ok (.getfield 47, 3) := by decide +kernel
theorem dX4_erase_153 : decode cX4_erase 153 = .ok (.iload_n 3, 1) := by decide +kernel
theorem dX4_erase_154 : decode cX4_erase 154 = .ok (.iload 5, 2) := by decide +kernel
theorem dX4_erase_156 : decode cX4_erase 156 = .ok (.ifCond .eq 18, 3) := by decide +kernel
theorem dX4_erase_159 : decode cX4_erase 159 = .ok (.aload_n 0, 1) := by decide +kernel
theorem dX4_erase_160 : decode cX4_erase 160 = .ok (.getfield 47, 3) := by decide +kernel
theorem dX4_erase_163 : decode cX4_erase 163 = .ok (.iload_n 3, 1) := by decide +kernel
theorem dX4_erase_164 : decode cX4_erase 164 = .ok (.iaload, 1) := by decide +kernel
theorem dX4_erase_165 : decode cX4_erase 165 = .ok (.iload 4, 2) := by decide +kernel
theorem dX4_erase_167 : decode cX4_erase 167 = .ok (.if_icmp .ne 7, 3) := by decide +kernel
theorem dX4_erase_170 : decode cX4_erase 170 = .ok (.iconst (-1), 1) := by decide +kernel
theorem dX4_erase_171 : decode cX4_erase 171 = .ok (.goto 9, 3) := by decide +kernel
theorem dX4_erase_174 : decode cX4_erase 174 = .ok (.aload_n 0, 1) := by decide +kernel
theorem dX4_erase_175 : decode cX4_erase 175 = .ok (.getfield 47, 3) := by decide +kernel
theorem dX4_erase_178 : decode cX4_erase 178 = .ok (.iload_n 3, 1) := by decide +kernel
theorem dX4_erase_179 : decode cX4_erase 179 = .ok (.iaload, 1) := by decide +kernel
theorem dX4_erase_180 : decode cX4_erase 180 = .ok (.iastore, 1) := by decide +kernel
theorem dX4_erase_181 : decode cX4_erase 181 = .ok (.iinc 4 1, 3) := by decide +kernel
theorem dX4_erase_184 : decode cX4_erase 184 = .ok (.goto (-108), 3) := by decide +kernel
theorem dX4_erase_187 : decode cX4_erase 187 = .ok (.aload_n 0, 1) := by decide +kernel
theorem dX4_erase_188 : decode cX4_erase 188 = .ok (.getfield 47, 3) := by decide +kernel
theorem dX4_erase_191 : decode cX4_erase 191 = .ok (.iload_n 3, 1) := by decide +kernel
theorem dX4_erase_192 : decode cX4_erase 192 = .ok (.aload_n 0, 1) := by decide +kernel
theorem dX4_erase_193 : decode cX4_erase 193 = .ok (.aload_n 0, 1) := by decide +kernel
theorem dX4_erase_194 : decode cX4_erase 194 = .ok (.getfield 47, 3) := by decide +kernel
theorem dX4_erase_197 : decode cX4_erase 197 = .ok (.iload_n 3, 1) := by decide +kernel
theorem dX4_erase_198 : decode cX4_erase 198 = .ok (.iaload, 1) := by decide +kernel
theorem dX4_erase_199 : decode cX4_erase 199 = .ok (.invokevirtual 106, 3) := by decide +kernel
theorem dX4_erase_202 : decode cX4_erase 202 = .ok (.ifCond .eq 7, 3) := by decide +kernel
theorem dX4_erase_205 : decode cX4_erase 205 = .ok (.iconst (-1), 1) := by decide +kernel
theorem dX4_erase_206 : decode cX4_erase 206 = .ok (.goto 9, 3) := by decide +kernel
theorem dX4_erase_209 : decode cX4_erase 209 = .ok (.aload_n 0, 1) := by decide +kernel
theorem dX4_erase_210 : decode cX4_erase 210 = .ok (.getfield 47, 3) := by decide +kernel
theorem dX4_erase_213 : decode cX4_erase 213 = .ok (.iload_n 3, 1) := by decide +kernel
theorem dX4_erase_214 : decode cX4_erase 214 = .ok (.iaload, 1) := by decide +kernel
theorem dX4_erase_215 : decode cX4_erase 215 = .ok (.iastore, 1) := by decide +kernel
theorem dX4_erase_216 : decode cX4_erase 216 = .ok (.iinc 3 1, 3) := by decide +kernel
theorem dX4_erase_219 : decode cX4_erase 219 = .ok (.goto (-154), 3) := by decide +kernel
theorem dX4_erase_222 : decode cX4_erase 222 = .ok (.iconst 0, 1) := by decide +kernel
theorem dX4_erase_223 : decode cX4_erase 223 = .ok (.istore_n 3, 1) := by decide +kernel
theorem dX4_erase_224 : decode cX4_erase 224 = .ok (.iload_n 3, 1) := by decide +kernel
theorem dX4_erase_225 : decode cX4_erase 225 = .ok (.iconst 4, 1) := by decide +kernel
theorem dX4_erase_226 : decode cX4_erase 226 = .ok (.if_icmp .ge 38, 3) := by decide +kernel
theorem dX4_erase_229 : decode cX4_erase 229 = .ok (.aload_n 0, 1) := by decide +kernel
theorem dX4_erase_230 : decode cX4_erase 230 = .ok (.getfield 44, 3) := by decide +kernel
theorem dX4_erase_233 : decode cX4_erase 233 = .ok (.iload_n 3, 1) := by decide +kernel
theorem dX4_erase_234 : decode cX4_erase 234 = .ok (.aload_n 0, 1) := by decide +kernel
theorem dX4_erase_235 : decode cX4_erase 235 = .ok (.aload_n 0, 1) := by decide +kernel
theorem dX4_erase_236 : decode cX4_erase 236 = .ok (.getfield 44, 3) := by decide +kernel
theorem dX4_erase_239 : decode cX4_erase 239 = .ok (.iload_n 3, 1) := by decide +kernel
theorem dX4_erase_240 : decode cX4_erase 240 = .ok (.iaload, 1) := by decide +kernel
theorem dX4_erase_241 : decode cX4_erase 241 = .ok (.invokevirtual 106, 3) := by decide +kernel
theorem dX4_erase_244 : decode cX4_erase 244 = .ok (.ifCond .eq 7, 3) := by decide +kernel
theorem dX4_erase_247 : decode cX4_erase 247 = .ok (.iconst (-1), 1) := by decide +kernel
theorem dX4_erase_248 : decode cX4_erase 248 = .ok (.goto 9, 3) := by decide +kernel
theorem dX4_erase_251 : decode cX4_erase 251 = .ok (.aload_n 0, 1) := by decide +kernel
theorem dX4_erase_252 : decode cX4_erase 252 = .ok (.getfield 44, 3) := by decide +kernel
theorem dX4_erase_255 : decode cX4_erase 255 = .ok (.iload_n 3, 1) := by decide +kernel
theorem dX4_erase_256 : decode cX4_erase 256 = .ok (.iaload, 1) := by decide +kernel
theorem dX4_erase_257 : decode cX4_erase 257 = .ok (.iastore, 1) := by decide +kernel
theorem dX4_erase_258 : decode cX4_erase 258 = .ok (.iinc 3 1, 3) := by decide +kernel
theorem dX4_erase_261 : decode cX4_erase 261 = .ok (.goto (-37), 3) := by decide +kernel
theorem dX4_erase_264 : decode cX4_erase 264 = .ok (.iconst 0, 1) := by decide +kernel
theorem dX4_erase_265 : decode cX4_erase 265 = .ok (.istore_n 3, 1) := by decide +kernel
theorem dX4_erase_266 : decode cX4_erase 266 = .ok (.iload_n 3, 1) := by decide +kernel
theorem dX4_erase_267 : decode cX4_erase 267 = .ok (.aload_n 0, 1) := by decide +kernel
theorem dX4_erase_268 : decode cX4_erase 268 = .ok (.getfield 67, 3) := by decide +kernel
theorem dX4_erase_271 : decode cX4_erase 271 = .ok (.if_icmp .ge 38, 3) := by decide +kernel
theorem dX4_erase_274 : decode cX4_erase 274 = .ok (.aload_n 0, 1) := by decide +kernel
theorem dX4_erase_275 : decode cX4_erase 275 = .ok (.getfield 26, 3) := by decide +kernel
theorem dX4_erase_278 : decode cX4_erase 278 = .ok (.iload_n 3, 1) := by decide +kernel
theorem dX4_erase_279 : decode cX4_erase 279 = .ok (.aload_n 0, 1) := by decide +kernel
theorem dX4_erase_280 : decode cX4_erase 280 = .ok (.getfield 26, 3) := by decide +kernel
theorem dX4_erase_283 : decode cX4_erase 283 = .ok (.iload_n 3, 1) := by decide +kernel
theorem dX4_erase_284 : decode cX4_erase 284 = .ok (.baload, 1) := by decide +kernel
theorem dX4_erase_285 : decode cX4_erase 285 = .ok (.ifCond .eq 16, 3) := by decide +kernel
theorem dX4_erase_288 : decode cX4_erase 288 = .ok (.aload_n 0, 1) := by decide +kernel
theorem dX4_erase_289 : decode cX4_erase 289 = .ok (.getfield 50, 3) := by decide +kernel
theorem dX4_erase_292 : decode cX4_erase 292 = .ok (.iload_n 3, 1) := by decide +kernel
theorem dX4_erase_293 : decode cX4_erase 293 = .ok (.baload, 1) := by decide +kernel
theorem dX4_erase_294 : decode cX4_erase 294 = .ok (.ifCond .ne 7, 3) := by decide +kernel
theorem dX4_erase_297 : decode cX4_erase 297 = .ok (.iconst 1, 1) := by decide +kernel
theorem dX4_erase_298 : decode cX4_erase 298 = .ok (.goto 4, 3) := by decide +kernel
theorem dX4_erase_301 : decode cX4_erase 301 = .ok (.iconst 0, 1) := by decide +kernel
theorem dX4_erase_302 : decode cX4_erase 302 = .ok (.bastore, 1) := by decide +kernel
theorem dX4_erase_303 : decode cX4_erase 303 = .ok (.iinc 3 1, 3) := by decide +kernel
theorem dX4_erase_306 : decode cX4_erase 306 = .ok (.goto (-40), 3) := by decide +kernel
theorem dX4_erase_309 : decode cX4_erase 309 = .ok (.aload_n 0, 1) := by decide +kernel
theorem dX4_erase_310 : decode cX4_erase 310 = .ok (.iconst (-1), 1) := by decide +kernel
theorem dX4_erase_311 : decode cX4_erase 311 = .ok (.putfield 53, 3) := by decide +kernel
theorem dX4_erase_314 : decode cX4_erase 314 = .ok (.aload_n 0, 1) := by decide +kernel
theorem dX4_erase_315 : decode cX4_erase 315 = .ok (.dup, 1) := by decide +kernel
theorem dX4_erase_316 : decode cX4_erase 316 = .ok (.getfield 85, 3) := by decide +kernel
theorem dX4_erase_319 : decode cX4_erase 319 = .ok (.iload_n 2, 1) := by decide +kernel
theorem dX4_erase_320 : decode cX4_erase 320 = .ok (.isub, 1) := by decide +kernel
theorem dX4_erase_321 : decode cX4_erase 321 = .ok (.putfield 85, 3) := by decide +kernel
theorem dX4_erase_324 : decode cX4_erase 324 = .ok (.iload_n 2, 1) := by decide +kernel
theorem dX4_erase_325 : decode cX4_erase 325 = .ok (.ireturn, 1) := by decide +kernel
theorem dX4_connect_0 : decode cX4_connect 0 = .ok (.aload_n 0, 1) := by decide +kernel
theorem dX4_connect_1 : decode cX4_connect 1 = .ok (.iload_n 1, 1) := by decide +kernel
theorem dX4_connect_2 : decode cX4_connect 2 = .ok (.invokevirtual 109, 3) := by decide +kernel
theorem dX4_connect_5 : decode cX4_connect 5 = .ok (.ifCond .eq 56, 3) := by decide +kernel
theorem dX4_connect_8 : decode cX4_connect 8 = .ok (.aload_n 0, 1) := by decide +kernel
theorem dX4_connect_9 : decode cX4_connect 9 = .ok (.getfield 53, 3) := by decide +kernel
theorem dX4_connect_12 : decode cX4_connect 12 = .ok (.iconst (-1), 1) := by decide +kernel
theorem dX4_connect_13 : decode cX4_connect 13 = .ok (.if_icmp .eq 48, 3) := by decide +kernel
theorem dX4_connect_16 : decode cX4_connect 16 = .ok (.aload_n 0, 1) := by decide +kernel
theorem dX4_connect_17 : decode cX4_connect 17 = .ok (.getfield 29, 3) := by decide +kernel
theorem dX4_connect_20 : decode cX4_connect 20 = .ok (.aload_n 0, 1) := by decide +kernel
theorem dX4_connect_21 : decode cX4_connect 21 = .ok (.getfield 53, 3) := by decide +kernel
theorem dX4_connect_24 : decode cX4_connect 24 = .ok (.iaload, 1) := by decide +kernel
theorem dX4_connect_25 : decode cX4_connect 25 = .ok (.aload_n 0, 1) := by decide +kernel
theorem dX4_connect_26 : decode cX4_connect 26 = .ok (.getfield 13, 3) := by decide +kernel
theorem dX4_connect_29 : decode cX4_connect 29 = .ok (.iload_n 1, 1) := by decide +kernel
theorem dX4_connect_30 : decode cX4_connect 30 = .ok (.iaload, 1) := by decide +kernel
theorem dX4_connect_31 : decode cX4_connect 31 = .ok (.if_icmp .ne 30, 3) := by decide +kernel
theorem dX4_connect_34 : decode cX4_connect 34 = .ok (.aload_n 0, 1) := by decide +kernel
theorem dX4_connect_35 : decode cX4_connect 35 = .ok (.iload_n 1, 1) := by decide +kernel
theorem dX4_connect_36 : decode cX4_connect 36 = .ok (.aload_n 0, 1) := by decide +kernel
theorem dX4_connect_37 : decode cX4_connect 37 = .ok (.getfield 53, 3) := by decide +kernel
theorem dX4_connect_40 : decode cX4_connect 40 = .ok (.invokevirtual 78, 3) := by decide +kernel
theorem dX4_connect_43 : decode cX4_connect 43 = .ok (.iconst (-1), 1) := by decide +kernel
theorem dX4_connect_44 : decode cX4_connect 44 = .ok (.if_icmp .ne 17, 3) := by decide +kernel
theorem dX4_connect_47 : decode cX4_connect 47 = .ok (.aload_n 0, 1) := by decide +kernel
theorem dX4_connect_48 : decode cX4_connect 48 = .ok (.getfield 47, 3) := by decide +kernel
theorem dX4_connect_51 : decode cX4_connect 51 = .ok (.iload_n 1, 1) := by decide +kernel
theorem dX4_connect_52 : decode cX4_connect 52 = .ok (.iaload, 1) := by decide +kernel
theorem dX4_connect_53 : decode cX4_connect 53 = .ok (.iconst (-1), 1) := by decide +kernel
theorem dX4_connect_54 : decode cX4_connect 54 = .ok (.if_icmp .eq 7, 3) := by decide +kernel
theorem dX4_connect_57 : decode cX4_connect 57 = .ok (.iconst 1, 1) := by decide +kernel
theorem dX4_connect_58 : decode cX4_connect 58 = .ok (.goto 4, 3) := by decide +kernel
theorem dX4_connect_61 : decode cX4_connect 61 = .ok (.iconst 0, 1) := by decide +kernel
theorem dX4_connect_62 : decode cX4_connect 62 = .ok (.istore_n 2, 1) := by decide +kernel
theorem dX4_connect_63 : decode cX4_connect 63 = .ok (.aload_n 0, 1) := by decide +kernel
theorem dX4_connect_64 : decode cX4_connect 64 = .ok (.aload_n 0, 1) := by decide +kernel
theorem dX4_connect_65 : decode cX4_connect 65 = .ok (.iload_n 1, 1) := by decide +kernel
theorem dX4_connect_66 : decode cX4_connect 66 = .ok (.invokevirtual 109, 3) := by decide +kernel
theorem dX4_connect_69 : decode cX4_connect 69 = .ok (.ifCond .ne 7, 3) := by decide +kernel
theorem dX4_connect_72 : decode cX4_connect 72 = .ok (.iconst 1, 1) := by decide +kernel
theorem dX4_connect_73 : decode cX4_connect 73 = .ok (.goto 12, 3) := by decide +kernel
theorem dX4_connect_76 : decode cX4_connect 76 = .ok (.iload_n 2, 1) := by decide +kernel
theorem dX4_connect_77 : decode cX4_connect 77 = .ok (.ifCond .eq 7, 3) := by decide +kernel
theorem dX4_connect_80 : decode cX4_connect 80 = .ok (.iconst 0, 1) := by decide +kernel
theorem dX4_connect_81 : decode cX4_connect 81 = .ok (.goto 4, 3) := by decide +kernel
theorem dX4_connect_84 : decode cX4_connect 84 = .ok (.iconst 2, 1) := by decide +kernel
theorem dX4_connect_85 : decode cX4_connect 85 = .ok (.invokevirtual 70, 3) := by decide +kernel
theorem dX4_connect_88 : decode cX4_connect 88 = .ok (.ifCond .ne 5, 3) := by decide +kernel
theorem dX4_connect_91 : decode cX4_connect 91 = .ok (.iconst 0, 1) := by decide +kernel
theorem dX4_connect_92 : decode cX4_connect 92 = .ok (.ireturn, 1) := by decide +kernel
theorem dX4_connect_93 : decode cX4_connect 93 = .ok (.aload_n 0, 1) := by decide +kernel
theorem dX4_connect_94 : decode cX4_connect 94 = .ok (.iload_n 1, 1) := by decide +kernel
theorem dX4_connect_95 : decode cX4_connect 95 = .ok (.invokevirtual 88, 3) := by decide +kernel
theorem dX4_connect_98 : decode cX4_connect 98 = .ok (.istore_n 3, 1) := by decide +kernel
theorem dX4_connect_99 : decode cX4_connect 99 = .ok (.aload_n 0, 1) := by decide +kernel
theorem dX4_connect_100 : decode cX4_connect 100 = .ok (.iload_n 1, 1) := by decide +kernel
theorem dX4_connect_101 : decode cX4_connect 101 = .ok (.aload_n 0, 1) := by decide +kernel
theorem dX4_connect_102 : decode cX4_connect 102 = .ok (.getfield 53, 3) := by decide +kernel
theorem dX4_connect_105 : decode cX4_connect 105 = .ok (.iload_n 3, 1) := by decide +kernel
theorem dX4_connect_106 : decode cX4_connect 106 = .ok (.invokevirtual 92, 3) := by decide +kernel
theorem dX4_connect_109 : decode cX4_connect 109 = .ok (.aload_n 0, 1) := by decide +kernel
theorem dX4_connect_110 : decode cX4_connect 110 = .ok (.getfield 47, 3) := by decide +kernel
theorem dX4_connect_113 : decode cX4_connect 113 = .ok (.iload_n 1, 1) := by decide +kernel
theorem dX4_connect_114 : decode cX4_connect 114 = .ok (.aload_n 0, 1) := by decide +kernel
theorem dX4_connect_115 : decode cX4_connect 115 = .ok (.getfield 53, 3) := by decide +kernel
theorem dX4_connect_118 : decode cX4_connect 118 = .ok (.iastore, 1) := by decide +kernel
theorem dX4_connect_119 : decode cX4_connect 119 = .ok (.aload_n 0, 1) := by decide +kernel
theorem dX4_connect_120 : decode cX4_connect 120 = .ok (.iload_n 1, 1) := by decide +kernel
theorem dX4_connect_121 : decode cX4_connect 121 = .ok (.iload_n 3, 1) := by decide +kernel
theorem dX4_connect_122 : decode cX4_connect 122 = .ok (.invokevirtual 112, 3) := by decide +kernel
theorem dX4_connect_125 : decode cX4_connect 125 = .ok (.ireturn, 1) := by decide +kernel
theorem dX4_disconnect_0 : decode cX4_disconnect 0 = .ok (.aload_n 0, 1) := by decide +kernel
theorem dX4_disconnect_1 : decode cX4_disconnect 1 = .ok (.iload_n 1, 1) := by decide +kernel
theorem dX4_disconnect_2 : decode cX4_disconnect 2 = .ok (.invokevirtual 109, 3) := by decide +kernel
theorem dX4_disconnect_5 : decode cX4_disconnect 5 = .ok (.ifCond .eq 38, 3) := by decide +kernel
theorem dX4_disconnect_8 : decode cX4_disconnect 8 = .ok (.aload_n 0, 1) := by decide +kernel
theorem dX4_disconnect_9 : decode cX4_disconnect 9 = .ok (.getfield 53, 3) := by decide +kernel
theorem dX4_disconnect_12 : decode cX4_disconnect 12 = .ok (.iconst (-1), 1) := by decide +kernel
theorem dX4_disconnect_13 : decode cX4_disconnect 13 = .ok (.if_icmp .eq 30, 3) := by decide +kernel
theorem dX4_disconnect_16 : decode cX4_disconnect 16 = .ok (.aload_n 0, 1) := by decide +kernel
theorem dX4_disconnect_17 : decode cX4_disconnect 17 = .ok (.iload_n 1, 1) := by decide +kernel
theorem dX4_disconnect_18 : decode cX4_disconnect 18 = .ok (.aload_n 0, 1) := by decide +kernel
theorem dX4_disconnect_19 : decode cX4_disconnect 19 = .ok (.getfield 53, 3) := by decide +kernel
theorem dX4_disconnect_22 : decode cX4_disconnect 22 = .ok (.invokevirtual 78, 3) := by decide +kernel
theorem dX4_disconnect_25 : decode cX4_disconnect 25 = .ok (.iconst (-1), 1) := by decide +kernel
theorem dX4_disconnect_26 : decode cX4_disconnect 26 = .ok (.if_icmp .eq 17, 3) := by decide +kernel
theorem dX4_disconnect_29 : decode cX4_disconnect 29 = .ok (.aload_n 0, 1) := by decide +kernel
theorem dX4_disconnect_30 : decode cX4_disconnect 30 = .ok (.getfield 23, 3) := by decide +kernel
theorem dX4_disconnect_33 : decode cX4_disconnect 33 = .ok (.iload_n 1, 1) := by decide +kernel
theorem dX4_disconnect_34 : decode cX4_disconnect 34 = .ok (.iaload, 1) := by decide +kernel
theorem dX4_disconnect_35 : decode cX4_disconnect 35 = .ok (.iconst 2, 1) := by decide +kernel
theorem dX4_disconnect_36 : decode cX4_disconnect 36 = .ok (.if_icmp .ne 7, 3) := by decide +kernel
theorem dX4_disconnect_39 : decode cX4_disconnect 39 = .ok (.iconst 1, 1) := by decide +kernel
theorem dX4_disconnect_40 : decode cX4_disconnect 40 = .ok (.goto 4, 3) := by decide +kernel
theorem dX4_disconnect_43 : decode cX4_disconnect 43 = .ok (.iconst 0, 1) := by decide +kernel
theorem dX4_disconnect_44 : decode cX4_disconnect 44 = .ok (.istore_n 2, 1) := by decide +kernel
theorem dX4_disconnect_45 : decode cX4_disconnect 45 = .ok (.aload_n 0, 1) := by decide +kernel
theorem dX4_disconnect_46 : decode cX4_disconnect 46 = .ok (.aload_n 0, 1) := by decide +kernel
theorem dX4_disconnect_47 : decode cX4_disconnect 47 = .ok (.iload_n 1, 1) := by decide +kernel
theorem dX4_disconnect_48 : decode cX4_disconnect 48 = .ok (.invokevirtual 109, 3) := by decide +kernel
theorem dX4_disconnect_51 : decode cX4_disconnect 51 = .ok (.ifCond .ne 7, 3) := by decide +kernel
theorem dX4_disconnect_54 : decode cX4_disconnect 54 = .ok (.iconst 1, 1) := by decide +kernel
theorem dX4_disconnect_55 : decode cX4_disconnect 55 = .ok (.goto 12, 3) := by decide +kernel
theorem dX4_disconnect_58 : decode cX4_disconnect 58 = .ok (.iload_n 2, 1) := by decide +kernel
theorem dX4_disconnect_59 : decode cX4_disconnect 59 = .ok (.ifCond .eq 7, 3) := by decide +kernel
theorem dX4_disconnect_62 : decode cX4_disconnect 62 = .ok (.iconst 0, 1) := by decide +kernel
theorem dX4_disconnect_63 : decode cX4_disconnect 63 = .ok (.goto 4, 3) := by decide +kernel
theorem dX4_disconnect_66 : decode cX4_disconnect 66 = .ok (.iconst 2, 1) := by decide +kernel
theorem dX4_disconnect_67 : decode cX4_disconnect 67 = .ok (.invokevirtual 70, 3) := by decide +kernel
theorem dX4_disconnect_70 : decode cX4_disconnect 70 = .ok (.ifCond .ne 5, 3) := by decide +kernel
theorem dX4_disconnect_73 : decode cX4_disconnect 73 = .ok (.iconst 0, 1) := by decide +kernel
theorem dX4_disconnect_74 : decode cX4_disconnect 74 = .ok (.ireturn, 1) := by decide +kernel
theorem dX4_disconnect_75 : decode cX4_disconnect 75 = .ok (.aload_n 0, 1) := by decide +kernel
theorem dX4_disconnect_76 : decode cX4_disconnect 76 = .ok (.iload_n 1, 1) := by decide +kernel
theorem dX4_disconnect_77 : decode cX4_disconnect 77 = .ok (.aload_n 0, 1) := by decide +kernel
theorem dX4_disconnect_78 : decode cX4_disconnect 78 = .ok (.getfield 53, 3) := by decide +kernel
theorem dX4_disconnect_81 : decode cX4_disconnect 81 = .ok (.invokevirtual 78, 3) := by decide +kernel
theorem dX4_disconnect_84 : decode cX4_disconnect 84 = .ok (.istore_n 3, 1) := by decide +kernel
theorem dX4_disconnect_85 : decode cX4_disconnect 85 = .ok (.aload_n 0, 1) := by decide +kernel
theorem dX4_disconnect_86 : decode cX4_disconnect 86 = .ok (.iload_n 1, 1) := by decide +kernel
theorem dX4_disconnect_87 : decode cX4_disconnect 87 = .ok (.aload_n 0, 1) := by decide +kernel
theorem dX4_disconnect_88 : decode cX4_disconnect 88 = .ok (.getfield 53, 3) := by decide +kernel
theorem dX4_disconnect_91 : decode cX4_disconnect 91 = .ok (.invokevirtual 99, 3) := by decide +kernel
theorem dX4_disconnect_94 : decode cX4_disconnect 94 = .ok (.aload_n 0, 1) := by decide +kernel
theorem dX4_disconnect_95 : decode cX4_disconnect 95 = .ok (.getfield 47, 3) := by decide +kernel
theorem dX4_disconnect_98 : decode cX4_disconnect 98 = .ok (.iload_n 1, 1) := by decide +kernel
theorem dX4_disconnect_99 : decode cX4_disconnect 99 = .ok (.aload_n 0, 1) := by decide +kernel
theorem dX4_disconnect_100 : decode cX4_disconnect 100 = .ok (.getfield 47, 3) := by decide +kernel
theorem dX4_disconnect_103 : decode cX4_disconnect 103 = .ok (.iload_n 1, 1) := by decide +kernel
theorem dX4_disconnect_104 : decode cX4_disconnect 104 = .ok (.iaload, 1) := by decide +kernel
theorem dX4_disconnect_105 : decode cX4_disconnect 105 = .ok (.aload_n 0, 1) := by decide +kernel
theorem dX4_disconnect_106 : decode cX4_disconnect 106 = .ok (.getfield 53, 3) := by decide +kernel
theorem dX4_disconnect_109 : decode cX4_disconnect 109 = .ok (.if_icmp .ne 7, 3) := by decide +kernel
theorem dX4_disconnect_112 : decode cX4_disconnect 112 = .ok (.iconst (-1), 1) := by decide +kernel
theorem dX4_disconnect_113 : decode cX4_disconnect 113 = .ok (.goto 9, 3) := by decide +kernel
theorem dX4_disconnect_116 : decode cX4_disconnect 116 = .ok (.aload_n 0, 1) := by decide +kernel
theorem dX4_disconnect_117 : decode cX4_disconnect 117 = .ok (.getfield 47, 3) := by decide +kernel
theorem dX4_disconnect_120 : decode cX4_disconnect 120 = .ok (.iload_n 1, 1) := by decide +kernel
theorem dX4_disconnect_121 : decode cX4_disconnect 121 = .ok (.iaload, 1) := by decide +kernel
theorem dX4_disconnect_122 : decode cX4_disconnect 122 = .ok (.iastore, 1) := by decide +kernel
theorem dX4_disconnect_123 : decode cX4_disconnect 123 = .ok (.aload_n 0, 1) := by decide +kernel
theorem dX4_disconnect_124 : decode cX4_disconnect 124 = .ok (.iload_n 1, 1) := by decide +kernel
theorem dX4_disconnect_125 : decode cX4_disconnect 125 = .ok (.iload_n 3, 1) := by decide +kernel
theorem dX4_disconnect_126 : decode cX4_disconnect 126 = .ok (.invokevirtual 112, 3) := by decide +kernel
theorem dX4_disconnect_129 : decode cX4_disconnect 129 = .ok (.ireturn, 1) := by decide +kernel
theorem dX4_reconnect_0 : decode cX4_reconnect 0 = .ok (.aload_n 0, 1) := by decide +kernel
theorem dX4_reconnect_1 : decode cX4_reconnect 1 = .ok (.iload_n 1, 1) := by decide +kernel
theorem dX4_reconnect_2 : decode cX4_reconnect 2 = .ok (.invokevirtual 109, 3) := by decide +kernel
theorem dX4_reconnect_5 : decode cX4_reconnect 5 = .ok (.ifCond .eq 30, 3) := by decide +kernel
theorem dX4_reconnect_8 : decode cX4_reconnect 8 = .ok (.aload_n 0, 1) := by decide +kernel
theorem dX4_reconnect_9 : decode cX4_reconnect 9 = .ok (.iload_n 2, 1) := by decide +kernel
theorem dX4_reconnect_10 : decode cX4_reconnect 10 = .ok (.invokevirtual 115, 3) := by decide +kernel
theorem dX4_reconnect_13 : decode cX4_reconnect 13 = .ok (.ifCond .eq 22, 3) := by decide +kernel
theorem dX4_reconnect_16 : decode cX4_reconnect 16 = .ok (.aload_n 0, 1) := by decide +kernel
theorem dX4_reconnect_17 : decode cX4_reconnect 17 = .ok (.getfield 29, 3) := by decide +kernel
theorem dX4_reconnect_20 : decode cX4_reconnect 20 = .ok (.iload_n 2, 1) := by decide +kernel
theorem dX4_reconnect_21 : decode cX4_reconnect 21 = .ok (.iaload, 1) := by decide +kernel
theorem dX4_reconnect_22 : decode cX4_reconnect 22 = .ok (.aload_n 0, 1) := by decide +kernel
theorem dX4_reconnect_23 : decode cX4_reconnect 23 = .ok (.getfield 7, 3) := by decide +kernel
theorem dX4_reconnect_26 : decode cX4_reconnect 26 = .ok (.iload_n 1, 1) := by decide +kernel
theorem dX4_reconnect_27 : decode cX4_reconnect 27 = .ok (.iaload, 1) := by decide +kernel
theorem dX4_reconnect_28 : decode cX4_reconnect 28 = .ok (.if_icmp .ne 7, 3) := by decide +kernel
theorem dX4_reconnect_31 : decode cX4_reconnect 31 = .ok (.iconst 1, 1) := by decide +kernel
theorem dX4_reconnect_32 : decode cX4_reconnect 32 = .ok (.goto 4, 3) := by decide +kernel
theorem dX4_reconnect_35 : decode cX4_reconnect 35 = .ok (.iconst 0, 1) := by decide +kernel
theorem dX4_reconnect_36 : decode cX4_reconnect 36 = .ok (.istore_n 3, 1) := by decide +kernel
theorem dX4_reconnect_37 : decode cX4_reconnect 37 = .ok (.iload_n 3, 1) := by decide +kernel
theorem dX4_reconnect_38 : decode cX4_reconnect 38 = .ok (.ifCond .eq 37, 3) := by decide +kernel
theorem dX4_reconnect_41 : decode cX4_reconnect 41 = .ok (.aload_n 0, 1) := by decide +kernel
theorem dX4_reconnect_42 : decode cX4_reconnect 42 = .ok (.getfield 53, 3) := by decide +kernel
theorem dX4_reconnect_45 : decode cX4_reconnect 45 = .ok (.iconst (-1), 1) := by decide +kernel
theorem dX4_reconnect_46 : decode cX4_reconnect 46 = .ok (.if_icmp .eq 29, 3) := by decide +kernel
theorem dX4_reconnect_49 : decode cX4_reconnect 49 = .ok (.aload_n 0, 1) := by decide +kernel
theorem dX4_reconnect_50 : decode cX4_reconnect 50 = .ok (.iload_n 1, 1) := by decide +kernel
theorem dX4_reconnect_51 : decode cX4_reconnect 51 = .ok (.aload_n 0, 1) := by decide +kernel
theorem dX4_reconnect_52 : decode cX4_reconnect 52 = .ok (.getfield 53, 3) := by decide +kernel
theorem dX4_reconnect_55 : decode cX4_reconnect 55 = .ok (.invokevirtual 78, 3) := by decide +kernel
theorem dX4_reconnect_58 : decode cX4_reconnect 58 = .ok (.iconst (-1), 1) := by decide +kernel
theorem dX4_reconnect_59 : decode cX4_reconnect 59 = .ok (.if_icmp .eq 16, 3) := by decide +kernel
theorem dX4_reconnect_62 : decode cX4_reconnect 62 = .ok (.aload_n 0, 1) := by decide +kernel
theorem dX4_reconnect_63 : decode cX4_reconnect 63 = .ok (.getfield 23, 3) := by decide +kernel
theorem dX4_reconnect_66 : decode cX4_reconnect 66 = .ok (.iload_n 1, 1) := by decide +kernel
theorem dX4_reconnect_67 : decode cX4_reconnect 67 = .ok (.iaload, 1) := by decide +kernel
theorem dX4_reconnect_68 : decode cX4_reconnect 68 = .ok (.ifCond .eq 7, 3) := by decide +kernel
theorem dX4_reconnect_71 : decode cX4_reconnect 71 = .ok (.iconst 1, 1) := by decide +kernel
theorem dX4_reconnect_72 : decode cX4_reconnect 72 = .ok (.goto 4, 3) := by decide +kernel
theorem dX4_reconnect_75 : decode cX4_reconnect 75 = .ok (.iconst 0, 1) := by decide +kernel
theorem dX4_reconnect_76 : decode cX4_reconnect 76 = .ok (.istore 4, 2) := by decide +kernel
theorem dX4_reconnect_78 : decode cX4_reconnect 78 = .ok (.aload_n 0, 1) := by decide +kernel
theorem dX4_reconnect_79 : decode cX4_reconnect 79 = .ok (.iload_n 3, 1) := by decide +kernel
theorem dX4_reconnect_80 : decode cX4_reconnect 80 = .ok (.ifCond .ne 7, 3) := by decide +kernel
theorem dX4_reconnect_83 : decode cX4_reconnect 83 = .ok (.iconst 1, 1) := by decide +kernel
theorem dX4_reconnect_84 : decode cX4_reconnect 84 = .ok (.goto 13, 3) := by decide +kernel
theorem dX4_reconnect_87 : decode cX4_reconnect 87 = .ok (.iload 4, 2) := by decide +kernel
theorem dX4_reconnect_89 : decode cX4_reconnect 89 = .ok (.ifCond .eq 7, 3) := by decide +kernel
theorem dX4_reconnect_92 : decode cX4_reconnect 92 = .ok (.iconst 0, 1) := by decide +kernel
theorem dX4_reconnect_93 : decode cX4_reconnect 93 = .ok (.goto 4, 3) := by decide +kernel
theorem dX4_reconnect_96 : decode cX4_reconnect 96 = .ok (.iconst 2, 1) := by decide +kernel
theorem dX4_reconnect_97 : decode cX4_reconnect 97 = .ok (.invokevirtual 70, 3) := by decide +kernel
theorem dX4_reconnect_100 : decode cX4_reconnect 100 = .ok (.ifCond .ne 5, 3) := by decide +kernel
theorem dX4_reconnect_103 : decode cX4_reconnect 103 = .ok (.iconst 0, 1) := by decide +kernel
theorem dX4_reconnect_104 : decode cX4_reconnect 104 = .ok (.ireturn, 1) := by decide +kernel
theorem dX4_reconnect_105 : decode cX4_reconnect 105 = .ok (.aload_n 0, 1) := by decide +kernel
theorem dX4_reconnect_106 : decode cX4_reconnect 106 = .ok (.iload_n 1, 1) := by decide +kernel
theorem dX4_reconnect_107 : decode cX4_reconnect 107 = .ok (.aload_n 0, 1) := by decide +kernel
theorem dX4_reconnect_108 : decode cX4_reconnect 108 = .ok (.getfield 53, 3) := by decide +kernel
theorem dX4_reconnect_111 : decode cX4_reconnect 111 = .ok (.invokevirtual 99, 3) := by decide +kernel
theorem dX4_reconnect_114 : decode cX4_reconnect 114 = .ok (.aload_n 0, 1) := by decide +kernel
theorem dX4_reconnect_115 : decode cX4_reconnect 115 = .ok (.iload_n 1, 1) := by decide +kernel
theorem dX4_reconnect_116 : decode cX4_reconnect 116 = .ok (.aload_n 0, 1) := by decide +kernel
theorem dX4_reconnect_117 : decode cX4_reconnect 117 = .ok (.getfield 53, 3) := by decide +kernel
theorem dX4_reconnect_120 : decode cX4_reconnect 120 = .ok (.iload_n 2, 1) := by decide +kernel
theorem dX4_reconnect_121 : decode cX4_reconnect 121 = .ok (.invokevirtual 92, 3) := by decide +kernel
theorem dX4_reconnect_124 : decode cX4_reconnect 124 = .ok (.aload_n 0, 1) := by decide +kernel
theorem dX4_reconnect_125 : decode cX4_reconnect 125 = .ok (.getfield 47, 3) := by decide +kernel
theorem dX4_reconnect_128 : decode cX4_reconnect 128 = .ok (.iload_n 1, 1) := by decide +kernel
theorem dX4_reconnect_129 : decode cX4_reconnect 129 = .ok (.aload_n 0, 1) := by decide +kernel
theorem dX4_reconnect_130 : decode cX4_reconnect 130 = .ok (.getfield 53, 3) := by decide +kernel
theorem dX4_reconnect_133 : decode cX4_reconnect 133 = .ok (.iastore, 1) := by decide +kernel
theorem dX4_reconnect_134 : decode cX4_reconnect 134 = .ok (.aload_n 0, 1) := by decide +kernel
theorem dX4_reconnect_135 : decode cX4_reconnect 135 = .ok (.iload_n 1, 1) := by decide +kernel
theorem dX4_reconnect_136 : decode cX4_reconnect 136 = .ok (.iload_n 2, 1) := by decide +kernel
theorem dX4_reconnect_137 : decode cX4_reconnect 137 = .ok (.invokevirtual 112, 3) := by decide +kernel
theorem dX4_reconnect_140 : decode cX4_reconnect 140 = .ok (.ireturn, 1) := by decide +kernel
theorem dX4_find_0 : decode cX4_find 0 = .ok (.aload_n 0, 1) := by decide +kernel
theorem dX4_find_1 : decode cX4_find 1 = .ok (.iconst 0, 1) := by decide +kernel
theorem dX4_find_2 : decode cX4_find 2 = .ok (.putfield 57, 3) := by decide +kernel
theorem dX4_find_5 : decode cX4_find 5 = .ok (.aload_n 0, 1) := by decide +kernel
theorem dX4_find_6 : decode cX4_find 6 = .ok (.aload_n 0, 1) := by decide +kernel
theorem dX4_find_7 : decode cX4_find 7 = .ok (.iload_n 1, 1) := by decide +kernel
theorem dX4_find_8 : decode cX4_find 8 = .ok (.invokevirtual 115, 3) := by decide +kernel
theorem dX4_find_11 : decode cX4_find 11 = .ok (.ifCond .eq 7, 3) := by decide +kernel
theorem dX4_find_14 : decode cX4_find 14 = .ok (.iload_n 1, 1) := by decide +kernel
theorem dX4_find_15 : decode cX4_find 15 = .ok (.goto 4, 3) := by decide +kernel
theorem dX4_find_18 : decode cX4_find 18 = .ok (.iconst (-1), 1) := by decide +kernel
theorem dX4_find_19 : decode cX4_find 19 = .ok (.invokevirtual 96, 3) := by decide +kernel
theorem dX4_find_22 : decode cX4_find 22 = .ok (.ireturn, 1) := by decide +kernel
theorem dX4_findOf_0 : decode cX4_findOf 0 = .ok (.aload_n 0, 1) := by decide +kernel
theorem dX4_findOf_1 : decode cX4_findOf 1 = .ok (.iload_n 1, 1) := by decide +kernel
theorem dX4_findOf_2 : decode cX4_findOf 2 = .ok (.iconst 0, 1) := by decide +kernel
theorem dX4_findOf_3 : decode cX4_findOf 3 = .ok (.iconst 3, 1) := by decide +kernel
theorem dX4_findOf_4 : decode cX4_findOf 4 = .ok (.invokestatic 63, 3) := by decide +kernel
theorem dX4_findOf_7 : decode cX4_findOf 7 = .ok (.ifCond .eq 7, 3) := by decide +kernel
theorem dX4_findOf_10 : decode cX4_findOf 10 = .ok (.iconst 0, 1) := by decide +kernel
theorem dX4_findOf_11 : decode cX4_findOf 11 = .ok (.goto 4, 3) := by decide +kernel
theorem dX4_findOf_14 : decode cX4_findOf 14 = .ok (.iconst 1, 1) := by decide +kernel
theorem dX4_findOf_15 : decode cX4_findOf 15 = .ok (.invokevirtual 70, 3) := by decide +kernel
theorem dX4_findOf_18 : decode cX4_findOf 18 = .ok (.ifCond .ne 5, 3) := by decide +kernel
theorem dX4_findOf_21 : decode cX4_findOf 21 = .ok (.iconst 0, 1) := by decide +kernel
theorem dX4_findOf_22 : decode cX4_findOf 22 = .ok (.ireturn, 1) := by decide +kernel
theorem dX4_findOf_23 : decode cX4_findOf 23 = .ok (.iconst (-1), 1) := by decide +kernel
theorem dX4_findOf_24 : decode cX4_findOf 24 = .ok (.istore_n 3, 1) := by decide +kernel
theorem dX4_findOf_25 : decode cX4_findOf 25 = .ok (.aload_n 0, 1) := by decide +kernel
theorem dX4_findOf_26 : decode cX4_findOf 26 = .ok (.getfield 67, 3) := by decide +kernel
theorem dX4_findOf_29 : decode cX4_findOf 29 = .ok (.iconst 1, 1) := by decide +kernel
theorem dX4_findOf_30 : decode cX4_findOf 30 = .ok (.isub, 1) := by decide +kernel
theorem dX4_findOf_31 : decode cX4_findOf 31 = .ok (.istore 4, 2) := by decide +kernel
theorem dX4_findOf_33 : decode cX4_findOf 33 = .ok (.iload 4, 2) := by decide +kernel
theorem dX4_findOf_35 : decode cX4_findOf 35 = .ok (.ifCond .lt 52, 3) := by decide +kernel
theorem dX4_findOf_38 : decode cX4_findOf 38 = .ok (.iload_n 2, 1) := by decide +kernel
theorem dX4_findOf_39 : decode cX4_findOf 39 = .ok (.ifCond .ne 14, 3) := by decide +kernel
theorem dX4_findOf_42 : decode cX4_findOf 42 = .ok (.iload 4, 2) := by decide +kernel
theorem dX4_findOf_44 : decode cX4_findOf 44 = .ok (.aload_n 0, 1) := by decide +kernel
theorem dX4_findOf_45 : decode cX4_findOf 45 = .ok (.getfield 44, 3) := by decide +kernel
theorem dX4_findOf_48 : decode cX4_findOf 48 = .ok (.iload_n 1, 1) := by decide +kernel
theorem dX4_findOf_49 : decode cX4_findOf 49 = .ok (.iaload, 1) := by decide +kernel
theorem dX4_findOf_50 : decode cX4_findOf 50 = .ok (.if_icmp .le 37, 3) := by decide +kernel
theorem dX4_findOf_53 : decode cX4_findOf 53 = .ok (.aload_n 0, 1) := by decide +kernel
theorem dX4_findOf_54 : decode cX4_findOf 54 = .ok (.getfield 26, 3) := by decide +kernel
theorem dX4_findOf_57 : decode cX4_findOf 57 = .ok (.iload 4, 2) := by decide +kernel
theorem dX4_findOf_59 : decode cX4_findOf 59 = .ok (.baload, 1) := by decide +kernel
theorem dX4_findOf_60 : decode cX4_findOf 60 = .ok (.ifCond .eq 19, 3) := by decide +kernel
theorem dX4_findOf_63 : decode cX4_findOf 63 = .ok (.aload_n 0, 1) := by decide +kernel
theorem dX4_findOf_64 : decode cX4_findOf 64 = .ok (.getfield 29, 3) := by decide +kernel
theorem dX4_findOf_67 : decode cX4_findOf 67 = .ok (.iload 4, 2) := by decide +kernel
theorem dX4_findOf_69 : decode cX4_findOf 69 = .ok (.iaload, 1) := by decide +kernel
theorem dX4_findOf_70 : decode cX4_findOf 70 = .ok (.iload_n 1, 1) := by decide +kernel
theorem dX4_findOf_71 : decode cX4_findOf 71 = .ok (.if_icmp .ne 8, 3) := by decide +kernel
theorem dX4_findOf_74 : decode cX4_findOf 74 = .ok (.iload 4, 2) := by decide +kernel
theorem dX4_findOf_76 : decode cX4_findOf 76 = .ok (.goto 4, 3) := by decide +kernel
theorem dX4_findOf_79 : decode cX4_findOf 79 = .ok (.iload_n 3, 1) := by decide +kernel
theorem dX4_findOf_80 : decode cX4_findOf 80 = .ok (.istore_n 3, 1) := by decide +kernel
theorem dX4_findOf_81 : decode cX4_findOf 81 = .ok (.iinc 4 (-1), 3) := by decide +kernel
theorem dX4_findOf_84 : decode cX4_findOf 84 = .ok (.goto (-51), 3) := by decide +kernel
theorem dX4_findOf_87 : decode cX4_findOf 87 = .ok (.aload_n 0, 1) := by decide +kernel
theorem dX4_findOf_88 : decode cX4_findOf 88 = .ok (.iload_n 3, 1) := by decide +kernel
theorem dX4_findOf_89 : decode cX4_findOf 89 = .ok (.invokevirtual 96, 3) := by decide +kernel
theorem dX4_findOf_92 : decode cX4_findOf 92 = .ok (.ireturn, 1) := by decide +kernel
theorem dX4_findEnd_0 : decode cX4_findEnd 0 = .ok (.aload_n 0, 1) := by decide +kernel
theorem dX4_findEnd_1 : decode cX4_findEnd 1 = .ok (.aload_n 0, 1) := by decide +kernel
theorem dX4_findEnd_2 : decode cX4_findEnd 2 = .ok (.iload_n 1, 1) := by decide +kernel
theorem dX4_findEnd_3 : decode cX4_findEnd 3 = .ok (.invokevirtual 109, 3) := by decide +kernel
theorem dX4_findEnd_6 : decode cX4_findEnd 6 = .ok (.ifCond .eq 7, 3) := by decide +kernel
theorem dX4_findEnd_9 : decode cX4_findEnd 9 = .ok (.iconst 0, 1) := by decide +kernel
theorem dX4_findEnd_10 : decode cX4_findEnd 10 = .ok (.goto 4, 3) := by decide +kernel
theorem dX4_findEnd_13 : decode cX4_findEnd 13 = .ok (.iconst 1, 1) := by decide +kernel
theorem dX4_findEnd_14 : decode cX4_findEnd 14 = .ok (.invokevirtual 70, 3) := by decide +kernel
theorem dX4_findEnd_17 : decode cX4_findEnd 17 = .ok (.ifCond .eq 13, 3) := by decide +kernel
theorem dX4_findEnd_20 : decode cX4_findEnd 20 = .ok (.aload_n 0, 1) := by decide +kernel
theorem dX4_findEnd_21 : decode cX4_findEnd 21 = .ok (.getfield 47, 3) := by decide +kernel
theorem dX4_findEnd_24 : decode cX4_findEnd 24 = .ok (.iload_n 1, 1) := by decide +kernel
theorem dX4_findEnd_25 : decode cX4_findEnd 25 = .ok (.iaload, 1) := by decide +kernel
theorem dX4_findEnd_26 : decode cX4_findEnd 26 = .ok (.iconst (-1), 1) := by decide +kernel
theorem dX4_findEnd_27 : decode cX4_findEnd 27 = .ok (.if_icmp .ne 16, 3) := by decide +kernel
theorem dX4_findEnd_30 : decode cX4_findEnd 30 = .ok (.aload_n 0, 1) := by decide +kernel
theorem dX4_findEnd_31 : decode cX4_findEnd 31 = .ok (.getfield 57, 3) := by decide +kernel
theorem dX4_findEnd_34 : decode cX4_findEnd 34 = .ok (.ifCond .ne 7, 3) := by decide +kernel
theorem dX4_findEnd_37 : decode cX4_findEnd 37 = .ok (.iconst (-1), 1) := by decide +kernel
theorem dX4_findEnd_38 : decode cX4_findEnd 38 = .ok (.goto 4, 3) := by decide +kernel
theorem dX4_findEnd_41 : decode cX4_findEnd 41 = .ok (.iconst 0, 1) := by decide +kernel
theorem dX4_findEnd_42 : decode cX4_findEnd 42 = .ok (.ireturn, 1) := by decide +kernel
theorem dX4_findEnd_43 : decode cX4_findEnd 43 = .ok (.aload_n 0, 1) := by decide +kernel
theorem dX4_findEnd_44 : decode cX4_findEnd 44 = .ok (.iload_n 1, 1) := by decide +kernel
theorem dX4_findEnd_45 : decode cX4_findEnd 45 = .ok (.invokevirtual 88, 3) := by decide +kernel
theorem dX4_findEnd_48 : decode cX4_findEnd 48 = .ok (.istore_n 3, 1) := by decide +kernel
theorem dX4_findEnd_49 : decode cX4_findEnd 49 = .ok (.aload_n 0, 1) := by decide +kernel
theorem dX4_findEnd_50 : decode cX4_findEnd 50 = .ok (.aload_n 0, 1) := by decide +kernel
theorem dX4_findEnd_51 : decode cX4_findEnd 51 = .ok (.iload_n 1, 1) := by decide +kernel
theorem dX4_findEnd_52 : decode cX4_findEnd 52 = .ok (.iload_n 3, 1) := by decide +kernel
theorem dX4_findEnd_53 : decode cX4_findEnd 53 = .ok (.iload_n 2, 1) := by decide +kernel
theorem dX4_findEnd_54 : decode cX4_findEnd 54 = .ok (.ifCond .eq 14, 3) := by decide +kernel
theorem dX4_findEnd_57 : decode cX4_findEnd 57 = .ok (.aload_n 0, 1) := by decide +kernel
theorem dX4_findEnd_58 : decode cX4_findEnd 58 = .ok (.iload_n 1, 1) := by decide +kernel
theorem dX4_findEnd_59 : decode cX4_findEnd 59 = .ok (.iload_n 3, 1) := by decide +kernel
theorem dX4_findEnd_60 : decode cX4_findEnd 60 = .ok (.invokevirtual 112, 3) := by decide +kernel
theorem dX4_findEnd_63 : decode cX4_findEnd 63 = .ok (.iconst 1, 1) := by decide +kernel
theorem dX4_findEnd_64 : decode cX4_findEnd 64 = .ok (.isub, 1) := by decide +kernel
theorem dX4_findEnd_65 : decode cX4_findEnd 65 = .ok (.goto 4, 3) := by decide +kernel
theorem dX4_findEnd_68 : decode cX4_findEnd 68 = .ok (.iconst 0, 1) := by decide +kernel
theorem dX4_findEnd_69 : decode cX4_findEnd 69 = .ok (.invokevirtual 118, 3) := by decide +kernel
theorem dX4_findEnd_72 : decode cX4_findEnd 72 = .ok (.invokevirtual 96, 3) := by decide +kernel
theorem dX4_findEnd_75 : decode cX4_findEnd 75 = .ok (.ireturn, 1) := by decide +kernel
theorem dX4_findNext_0 : decode cX4_findNext 0 = .ok (.aload_n 0, 1) := by decide +kernel
theorem dX4_findNext_1 : decode cX4_findNext 1 = .ok (.aload_n 0, 1) := by decide +kernel
theorem dX4_findNext_2 : decode cX4_findNext 2 = .ok (.iload_n 1, 1) := by decide +kernel
theorem dX4_findNext_3 : decode cX4_findNext 3 = .ok (.invokevirtual 109, 3) := by decide +kernel
theorem dX4_findNext_6 : decode cX4_findNext 6 = .ok (.ifCond .eq 7, 3) := by decide +kernel
theorem dX4_findNext_9 : decode cX4_findNext 9 = .ok (.iconst 0, 1) := by decide +kernel
theorem dX4_findNext_10 : decode cX4_findNext 10 = .ok (.goto 4, 3) := by decide +kernel
theorem dX4_findNext_13 : decode cX4_findNext 13 = .ok (.iconst 1, 1) := by decide +kernel
theorem dX4_findNext_14 : decode cX4_findNext 14 = .ok (.invokevirtual 70, 3) := by decide +kernel
theorem dX4_findNext_17 : decode cX4_findNext 17 = .ok (.ifCond .eq 13, 3) := by decide +kernel
theorem dX4_findNext_20 : decode cX4_findNext 20 = .ok (.aload_n 0, 1) := by decide +kernel
theorem dX4_findNext_21 : decode cX4_findNext 21 = .ok (.getfield 47, 3) := by decide +kernel
theorem dX4_findNext_24 : decode cX4_findNext 24 = .ok (.iload_n 1, 1) := by decide +kernel
theorem dX4_findNext_25 : decode cX4_findNext 25 = .ok (.iaload, 1) := by decide +kernel
theorem dX4_findNext_26 : decode cX4_findNext 26 = .ok (.iconst (-1), 1) := by decide +kernel
theorem dX4_findNext_27 : decode cX4_findNext 27 = .ok (.if_icmp .ne 16, 3) := by decide +kernel
theorem dX4_findNext_30 : decode cX4_findNext 30 = .ok (.aload_n 0, 1) := by decide +kernel
theorem dX4_findNext_31 : decode cX4_findNext 31 = .ok (.getfield 57, 3) := by decide +kernel
theorem dX4_findNext_34 : decode cX4_findNext 34 = .ok (.ifCond .ne 7, 3) := by decide +kernel
theorem dX4_findNext_37 : decode cX4_findNext 37 = .ok (.iconst (-1), 1) := by decide +kernel
theorem dX4_findNext_38 : decode cX4_findNext 38 = .ok (.goto 4, 3) := by decide +kernel
theorem dX4_findNext_41 : decode cX4_findNext 41 = .ok (.iconst 0, 1) := by decide +kernel
theorem dX4_findNext_42 : decode cX4_findNext 42 = .ok (.ireturn, 1) := by decide +kernel
theorem dX4_findNext_43 : decode cX4_findNext 43 = .ok (.aload_n 0, 1) := by decide +kernel
theorem dX4_findNext_44 : decode cX4_findNext 44 = .ok (.iload_n 1, 1) := by decide +kernel
theorem dX4_findNext_45 : decode cX4_findNext 45 = .ok (.invokevirtual 88, 3) := by decide +kernel
theorem dX4_findNext_48 : decode cX4_findNext 48 = .ok (.istore_n 3, 1) := by decide +kernel
theorem dX4_findNext_49 : decode cX4_findNext 49 = .ok (.aload_n 0, 1) := by decide +kernel
theorem dX4_findNext_50 : decode cX4_findNext 50 = .ok (.iload_n 1, 1) := by decide +kernel
theorem dX4_findNext_51 : decode cX4_findNext 51 = .ok (.iload_n 3, 1) := by decide +kernel
theorem dX4_findNext_52 : decode cX4_findNext 52 = .ok (.invokevirtual 112, 3) := by decide +kernel
theorem dX4_findNext_55 : decode cX4_findNext 55 = .ok (.istore 4, 2) := by decide +kernel
theorem dX4_findNext_57 : decode cX4_findNext 57 = .ok (.iload_n 2, 1) := by decide +kernel
theorem dX4_findNext_58 : decode cX4_findNext 58 = .ok (.ifCond .eq 8, 3) := by decide +kernel
theorem dX4_findNext_61 : decode cX4_findNext 61 = .ok (.iload 4, 2) := by decide +kernel
theorem dX4_findNext_63 : decode cX4_findNext 63 = .ok (.goto 4, 3) := by decide +kernel
theorem dX4_findNext_66 : decode cX4_findNext 66 = .ok (.iconst (-1), 1) := by decide +kernel
theorem dX4_findNext_67 : decode cX4_findNext 67 = .ok (.istore 5, 2) := by decide +kernel
theorem dX4_findNext_69 : decode cX4_findNext 69 = .ok (.iconst 0, 1) := by decide +kernel
theorem dX4_findNext_70 : decode cX4_findNext 70 = .ok (.istore 6, 2) := by decide +kernel
theorem dX4_findNext_72 : decode cX4_findNext 72 = .ok (.iload 6, 2) := by decide +kernel
theorem dX4_findNext_74 : decode cX4_findNext 74 = .ok (.iload 4, 2) := by decide +kernel
theorem dX4_findNext_76 : decode cX4_findNext 76 = .ok (.if_icmp .ge 35, 3) := by decide +kernel
theorem dX4_findNext_79 : decode cX4_findNext 79 = .ok (.aload_n 0, 1) := by decide +kernel
theorem dX4_findNext_80 : decode cX4_findNext 80 = .ok (.iload_n 1, 1) := by decide +kernel
theorem dX4_findNext_81 : decode cX4_findNext 81 = .ok (.iload_n 3, 1) := by decide +kernel
theorem dX4_findNext_82 : decode cX4_findNext 82 = .ok (.iload 6, 2) := by decide +kernel
theorem dX4_findNext_84 : decode cX4_findNext 84 = .ok (.invokevirtual 118, 3) := by decide +kernel
theorem dX4_findNext_87 : decode cX4_findNext 87 = .ok (.aload_n 0, 1) := by decide +kernel
theorem dX4_findNext_88 : decode cX4_findNext 88 = .ok (.getfield 47, 3) := by decide +kernel
theorem dX4_findNext_91 : decode cX4_findNext 91 = .ok (.iload_n 1, 1) := by decide +kernel
theorem dX4_findNext_92 : decode cX4_findNext 92 = .ok (.iaload, 1) := by decide +kernel
theorem dX4_findNext_93 : decode cX4_findNext 93 = .ok (.if_icmp .ne 8, 3) := by decide +kernel
theorem dX4_findNext_96 : decode cX4_findNext 96 = .ok (.iload 6, 2) := by decide +kernel
theorem dX4_findNext_98 : decode cX4_findNext 98 = .ok (.goto 5, 3) := by decide +kernel
theorem dX4_findNext_101 : decode cX4_findNext 101 = .ok (.iload 5, 2) := by decide +kernel
theorem dX4_findNext_103 : decode cX4_findNext 103 = .ok (.istore 5, 2) := by decide +kernel
theorem dX4_findNext_105 : decode cX4_findNext 105 = .ok (.iinc 6 1, 3) := by decide +kernel
theorem dX4_findNext_108 : decode cX4_findNext 108 = .ok (.goto (-36), 3) := by decide +kernel
theorem dX4_findNext_111 : decode cX4_findNext 111 = .ok (.aload_n 0, 1) := by decide +kernel
theorem dX4_findNext_112 : decode cX4_findNext 112 = .ok (.aload_n 0, 1) := by decide +kernel
theorem dX4_findNext_113 : decode cX4_findNext 113 = .ok (.iload_n 1, 1) := by decide +kernel
theorem dX4_findNext_114 : decode cX4_findNext 114 = .ok (.iload_n 3, 1) := by decide +kernel
theorem dX4_findNext_115 : decode cX4_findNext 115 = .ok (.iload_n 2, 1) := by decide +kernel
theorem dX4_findNext_116 : decode cX4_findNext 116 = .ok (.ifCond .eq 10, 3) := by decide +kernel
theorem dX4_findNext_119 : decode cX4_findNext 119 = .ok (.iload 5, 2) := by decide +kernel
theorem dX4_findNext_121 : decode cX4_findNext 121 = .ok (.iconst 1, 1) := by decide +kernel
theorem dX4_findNext_122 : decode cX4_findNext 122 = .ok (.isub, 1) := by decide +kernel
theorem dX4_findNext_123 : decode cX4_findNext 123 = .ok (.goto 7, 3) := by decide +kernel
theorem dX4_findNext_126 : decode cX4_findNext 126 = .ok (.iload 5, 2) := by decide +kernel
theorem dX4_findNext_128 : decode cX4_findNext 128 = .ok (.iconst 1, 1) := by decide +kernel
theorem dX4_findNext_129 : decode cX4_findNext 129 = .ok (.iadd, 1) := by decide +kernel
theorem dX4_findNext_130 : decode cX4_findNext 130 = .ok (.invokevirtual 118, 3) := by decide +kernel
theorem dX4_findNext_133 : decode cX4_findNext 133 = .ok (.invokevirtual 96, 3) := by decide +kernel
theorem dX4_findNext_136 : decode cX4_findNext 136 = .ok (.ireturn, 1) := by decide +kernel
theorem dX4_findOwner_0 : decode cX4_findOwner 0 = .ok (.aload_n 0, 1) := by decide +kernel
theorem dX4_findOwner_1 : decode cX4_findOwner 1 = .ok (.aload_n 0, 1) := by decide +kernel
theorem dX4_findOwner_2 : decode cX4_findOwner 2 = .ok (.iload_n 1, 1) := by decide +kernel
theorem dX4_findOwner_3 : decode cX4_findOwner 3 = .ok (.invokevirtual 109, 3) := by decide +kernel
theorem dX4_findOwner_6 : decode cX4_findOwner 6 = .ok (.ifCond .eq 7, 3) := by decide +kernel
theorem dX4_findOwner_9 : decode cX4_findOwner 9 = .ok (.iconst 0, 1) := by decide +kernel
theorem dX4_findOwner_10 : decode cX4_findOwner 10 = .ok (.goto 4, 3) := by decide +kernel
theorem dX4_findOwner_13 : decode cX4_findOwner 13 = .ok (.iconst 1, 1) := by decide +kernel
theorem dX4_findOwner_14 : decode cX4_findOwner 14 = .ok (.invokevirtual 70, 3) := by decide +kernel
theorem dX4_findOwner_17 : decode cX4_findOwner 17 = .ok (.ifCond .eq 13, 3) := by decide +kernel
theorem dX4_findOwner_20 : decode cX4_findOwner 20 = .ok (.aload_n 0, 1) := by decide +kernel
theorem dX4_findOwner_21 : decode cX4_findOwner 21 = .ok (.getfield 47, 3) := by decide +kernel
theorem dX4_findOwner_24 : decode cX4_findOwner 24 = .ok (.iload_n 1, 1) := by decide +kernel
theorem dX4_findOwner_25 : decode cX4_findOwner 25 = .ok (.iaload, 1) := by decide +kernel
theorem dX4_findOwner_26 : decode cX4_findOwner 26 = .ok (.iconst (-1), 1) := by decide +kernel
theorem dX4_findOwner_27 : decode cX4_findOwner 27 = .ok (.if_icmp .ne 16, 3) := by decide +kernel
theorem dX4_findOwner_30 : decode cX4_findOwner 30 = .ok (.aload_n 0, 1) := by decide +kernel
theorem dX4_findOwner_31 : decode cX4_findOwner 31 = .ok (.getfield 57, 3) := by decide +kernel
theorem dX4_findOwner_34 : decode cX4_findOwner 34 = .ok (.ifCond .ne 7, 3) := by decide +kernel
theorem dX4_findOwner_37 : decode cX4_findOwner 37 = .ok (.iconst (-1), 1) := by decide +kernel
theorem dX4_findOwner_38 : decode cX4_findOwner 38 = .ok (.goto 4, 3) := by decide +kernel
theorem dX4_findOwner_41 : decode cX4_findOwner 41 = .ok (.iconst 0, 1) := by decide +kernel
theorem dX4_findOwner_42 : decode cX4_findOwner 42 = .ok (.ireturn, 1) := by decide +kernel
theorem dX4_findOwner_43 : decode cX4_findOwner 43 = .ok (.aload_n 0, 1) := by decide +kernel
theorem dX4_findOwner_44 : decode cX4_findOwner 44 = .ok (.aload_n 0, 1) := by decide +kernel
theorem dX4_findOwner_45 : decode cX4_findOwner 45 = .ok (.iload_n 1, 1) := by decide +kernel
theorem dX4_findOwner_46 : decode cX4_findOwner 46 = .ok (.invokevirtual 88, 3) := by decide +kernel
theorem dX4_findOwner_49 : decode cX4_findOwner 49 = .ok (.invokevirtual 96, 3) := by decide +kernel
theorem dX4_findOwner_52 : decode cX4_findOwner 52 = .ok (.ireturn, 1) := by decide +kernel
theorem dX4_findValue_0 : decode cX4_findValue 0 = .ok (.aload_n 0, 1) := by decide +kernel
theorem dX4_findValue_1 : decode cX4_findValue 1 = .ok (.aload_n 0, 1) := by decide +kernel
theorem dX4_findValue_2 : decode cX4_findValue 2 = .ok (.iload_n 1, 1) := by decide +kernel
theorem dX4_findValue_3 : decode cX4_findValue 3 = .ok (.invokevirtual 109, 3) := by decide +kernel
theorem dX4_findValue_6 : decode cX4_findValue 6 = .ok (.ifCond .eq 7, 3) := by decide +kernel
theorem dX4_findValue_9 : decode cX4_findValue 9 = .ok (.iconst 0, 1) := by decide +kernel
theorem dX4_findValue_10 : decode cX4_findValue 10 = .ok (.goto 4, 3) := by decide +kernel
theorem dX4_findValue_13 : decode cX4_findValue 13 = .ok (.iconst 1, 1) := by decide +kernel
theorem dX4_findValue_14 : decode cX4_findValue 14 = .ok (.invokevirtual 70, 3) := by decide +kernel
theorem dX4_findValue_17 : decode cX4_findValue 17 = .ok (.ifCond .eq 13, 3) := by decide +kernel
theorem dX4_findValue_20 : decode cX4_findValue 20 = .ok (.aload_n 0, 1) := by decide +kernel
theorem dX4_findValue_21 : decode cX4_findValue 21 = .ok (.getfield 47, 3) := by decide +kernel
theorem dX4_findValue_24 : decode cX4_findValue 24 = .ok (.iload_n 1, 1) := by decide +kernel
theorem dX4_findValue_25 : decode cX4_findValue 25 = .ok (.iaload, 1) := by decide +kernel
theorem dX4_findValue_26 : decode cX4_findValue 26 = .ok (.iconst (-1), 1) := by decide +kernel
theorem dX4_findValue_27 : decode cX4_findValue 27 = .ok (.if_icmp .ne 16, 3) := by decide +kernel
theorem dX4_findValue_30 : decode cX4_findValue 30 = .ok (.aload_n 0, 1) := by decide +kernel
theorem dX4_findValue_31 : decode cX4_findValue 31 = .ok (.getfield 57, 3) := by decide +kernel
theorem dX4_findValue_34 : decode cX4_findValue 34 = .ok (.ifCond .ne 7, 3) := by decide +kernel
theorem dX4_findValue_37 : decode cX4_findValue 37 = .ok (.iconst (-1), 1) := by decide +kernel
theorem dX4_findValue_38 : decode cX4_findValue 38 = .ok (.goto 4, 3) := by decide +kernel
theorem dX4_findValue_41 : decode cX4_findValue 41 = .ok (.iconst 0, 1) := by decide +kernel
theorem dX4_findValue_42 : decode cX4_findValue 42 = .ok (.ireturn, 1) := by decide +kernel
theorem dX4_findValue_43 : decode cX4_findValue 43 = .ok (.aload_n 0, 1) := by decide +kernel
theorem dX4_findValue_44 : decode cX4_findValue 44 = .ok (.iload_n 1, 1) := by decide +kernel
theorem dX4_findValue_45 : decode cX4_findValue 45 = .ok (.invokevirtual 88, 3) := by decide +kernel
theorem dX4_findValue_48 : decode cX4_findValue 48 = .ok (.istore_n 3, 1) := by decide +kernel
theorem dX4_findValue_49 : decode cX4_findValue 49 = .ok (.iconst (-1), 1) := by decide +kernel
theorem dX4_findValue_50 : decode cX4_findValue 50 = .ok (.istore 4, 2) := by decide +kernel
theorem dX4_findValue_52 : decode cX4_findValue 52 = .ok (.aload_n 0, 1) := by decide +kernel
theorem dX4_findValue_53 : decode cX4_findValue 53 = .ok (.iload_n 1, 1) := by decide +kernel
theorem dX4_findValue_54 : decode cX4_findValue 54 = .ok (.iload_n 3, 1) := by decide +kernel
theorem dX4_findValue_55 : decode cX4_findValue 55 = .ok (.invokevirtual 112, 3) := by decide +kernel
theorem dX4_findValue_58 : decode cX4_findValue 58 = .ok (.iconst 1, 1) := by decide +kernel
theorem dX4_findValue_59 : decode cX4_findValue 59 = .ok (.isub, 1) := by decide +kernel
theorem dX4_findValue_60 : decode cX4_findValue 60 = .ok (.istore 5, 2) := by decide +kernel
theorem dX4_findValue_62 : decode cX4_findValue 62 = .ok (.iload 5, 2) := by decide +kernel
theorem dX4_findValue_64 : decode cX4_findValue 64 = .ok (.ifCond .lt 39, 3) := by decide +kernel
theorem dX4_findValue_67 : decode cX4_findValue 67 = .ok (.aload_n 0, 1) := by decide +kernel
theorem dX4_findValue_68 : decode cX4_findValue 68 = .ok (.iload_n 1, 1) := by decide +kernel
theorem dX4_findValue_69 : decode cX4_findValue 69 = .ok (.iload_n 3, 1) := by decide +kernel
theorem dX4_findValue_70 : decode cX4_findValue 70 = .ok (.iload 5, 2) := by decide +kernel
theorem dX4_findValue_72 : decode cX4_findValue 72 = .ok (.invokevirtual 118, 3) := by decide +kernel
theorem dX4_findValue_75 : decode cX4_findValue 75 = .ok (.istore 6, 2) := by decide +kernel
theorem dX4_findValue_77 : decode cX4_findValue 77 = .ok (.aload_n 0, 1) := by decide +kernel
theorem dX4_findValue_78 : decode cX4_findValue 78 = .ok (.getfield 32, 3) := by decide +kernel
theorem dX4_findValue_81 : decode cX4_findValue 81 = .ok (.iload 6, 2) := by decide +kernel
theorem dX4_findValue_83 : decode cX4_findValue 83 = .ok (.iaload, 1) := by decide +kernel
theorem dX4_findValue_84 : decode cX4_findValue 84 = .ok (.iload_n 2, 1) := by decide +kernel
theorem dX4_findValue_85 : decode cX4_findValue 85 = .ok (.if_icmp .ne 8, 3) := by decide +kernel
theorem dX4_findValue_88 : decode cX4_findValue 88 = .ok (.iload 6, 2) := by decide +kernel
theorem dX4_findValue_90 : decode cX4_findValue 90 = .ok (.goto 5, 3) := by decide +kernel
theorem dX4_findValue_93 : decode cX4_findValue 93 = .ok (.iload 4, 2) := by decide +kernel
theorem dX4_findValue_95 : decode cX4_findValue 95 = .ok (.istore 4, 2) := by decide +kernel
theorem dX4_findValue_97 : decode cX4_findValue 97 = .ok (.iinc 5 (-1), 3) := by decide +kernel
theorem dX4_findValue_100 : decode cX4_findValue 100 = .ok (.goto (-38), 3) := by decide +kernel
theorem dX4_findValue_103 : decode cX4_findValue 103 = .ok (.aload_n 0, 1) := by decide +kernel
theorem dX4_findValue_104 : decode cX4_findValue 104 = .ok (.iload 4, 2) := by decide +kernel
theorem dX4_findValue_106 : decode cX4_findValue 106 = .ok (.invokevirtual 96, 3) := by decide +kernel
theorem dX4_findValue_109 : decode cX4_findValue 109 = .ok (.ireturn, 1) := by decide +kernel
theorem dX4_setTypes_0 : decode cX4_setTypes 0 = .ok (.aload_n 0, 1) := by decide +kernel
theorem dX4_setTypes_1 : decode cX4_setTypes 1 = .ok (.iconst 0, 1) := by decide +kernel
theorem dX4_setTypes_2 : decode cX4_setTypes 2 = .ok (.putfield 57, 3) := by decide +kernel
theorem dX4_setTypes_5 : decode cX4_setTypes 5 = .ok (.aload_n 0, 1) := by decide +kernel
theorem dX4_setTypes_6 : decode cX4_setTypes 6 = .ok (.getfield 60, 3) := by decide +kernel
theorem dX4_setTypes_9 : decode cX4_setTypes 9 = .ok (.ireturn, 1) := by decide +kernel
theorem dX4_records_0 : decode cX4_records 0 = .ok (.aload_n 0, 1) := by decide +kernel
theorem dX4_records_1 : decode cX4_records 1 = .ok (.iconst 0, 1) := by decide +kernel
theorem dX4_records_2 : decode cX4_records 2 = .ok (.putfield 57, 3) := by decide +kernel
theorem dX4_records_5 : decode cX4_records 5 = .ok (.aload_n 0, 1) := by decide +kernel
theorem dX4_records_6 : decode cX4_records 6 = .ok (.getfield 85, 3) := by decide +kernel
theorem dX4_records_9 : decode cX4_records 9 = .ok (.ireturn, 1) := by decide +kernel
theorem dX4_current_0 : decode cX4_current 0 = .ok (.aload_n 0, 1) := by decide +kernel
theorem dX4_current_1 : decode cX4_current 1 = .ok (.iconst 0, 1) := by decide +kernel
theorem dX4_current_2 : decode cX4_current 2 = .ok (.putfield 57, 3) := by decide +kernel
theorem dX4_current_5 : decode cX4_current 5 = .ok (.aload_n 0, 1) := by decide +kernel
theorem dX4_current_6 : decode cX4_current 6 = .ok (.getfield 53, 3) := by decide +kernel
theorem dX4_current_9 : decode cX4_current 9 = .ok (.ireturn, 1) := by decide +kernel
theorem dX4_currentOf_0 : decode cX4_currentOf 0 = .ok (.aload_n 0, 1) := by decide +kernel
theorem dX4_currentOf_1 : decode cX4_currentOf 1 = .ok (.iload_n 1, 1) := by decide +kernel
theorem dX4_currentOf_2 : decode cX4_currentOf 2 = .ok (.iconst 0, 1) := by decide +kernel
theorem dX4_currentOf_3 : decode cX4_currentOf 3 = .ok (.iconst 3, 1) := by decide +kernel
theorem dX4_currentOf_4 : decode cX4_currentOf 4 = .ok (.invokestatic 63, 3) := by decide +kernel
theorem dX4_currentOf_7 : decode cX4_currentOf 7 = .ok (.ifCond .eq 7, 3) := by decide +kernel
theorem dX4_currentOf_10 : decode cX4_currentOf 10 = .ok (.iconst 0, 1) := by decide +kernel
theorem dX4_currentOf_11 : decode cX4_currentOf 11 = .ok (.goto 4, 3) := by decide +kernel
theorem dX4_currentOf_14 : decode cX4_currentOf 14 = .ok (.iconst 1, 1) := by decide +kernel
theorem dX4_currentOf_15 : decode cX4_currentOf 15 = .ok (.invokevirtual 70, 3) := by decide +kernel
theorem dX4_currentOf_18 : decode cX4_currentOf 18 = .ok (.ifCond .eq 12, 3) := by decide +kernel
theorem dX4_currentOf_21 : decode cX4_currentOf 21 = .ok (.aload_n 0, 1) := by decide +kernel
theorem dX4_currentOf_22 : decode cX4_currentOf 22 = .ok (.getfield 44, 3) := by decide +kernel
theorem dX4_currentOf_25 : decode cX4_currentOf 25 = .ok (.iload_n 1, 1) := by decide +kernel
theorem dX4_currentOf_26 : decode cX4_currentOf 26 = .ok (.iaload, 1) := by decide +kernel
theorem dX4_currentOf_27 : decode cX4_currentOf 27 = .ok (.goto 4, 3) := by decide +kernel
theorem dX4_currentOf_30 : decode cX4_currentOf 30 = .ok (.iconst 0, 1) := by decide +kernel
theorem dX4_currentOf_31 : decode cX4_currentOf 31 = .ok (.ireturn, 1) := by decide +kernel
theorem dX4_currentIn_0 : decode cX4_currentIn 0 = .ok (.aload_n 0, 1) := by decide +kernel
theorem dX4_currentIn_1 : decode cX4_currentIn 1 = .ok (.aload_n 0, 1) := by decide +kernel
theorem dX4_currentIn_2 : decode cX4_currentIn 2 = .ok (.iload_n 1, 1) := by decide +kernel
theorem dX4_currentIn_3 : decode cX4_currentIn 3 = .ok (.invokevirtual 109, 3) := by decide +kernel
theorem dX4_currentIn_6 : decode cX4_currentIn 6 = .ok (.ifCond .eq 7, 3) := by decide +kernel
theorem dX4_currentIn_9 : decode cX4_currentIn 9 = .ok (.iconst 0, 1) := by decide +kernel
theorem dX4_currentIn_10 : decode cX4_currentIn 10 = .ok (.goto 4, 3) := by decide +kernel
theorem dX4_currentIn_13 : decode cX4_currentIn 13 = .ok (.iconst 1, 1) := by decide +kernel
theorem dX4_currentIn_14 : decode cX4_currentIn 14 = .ok (.invokevirtual 70, 3) := by decide +kernel
theorem dX4_currentIn_17 : decode cX4_currentIn 17 = .ok (.ifCond .eq 12, 3) := by decide +kernel
theorem dX4_currentIn_20 : decode cX4_currentIn 20 = .ok (.aload_n 0, 1) := by decide +kernel
theorem dX4_currentIn_21 : decode cX4_currentIn 21 = .ok (.getfield 47, 3) := by decide +kernel
theorem dX4_currentIn_24 : decode cX4_currentIn 24 = .ok (.iload_n 1, 1) := by decide +kernel
theorem dX4_currentIn_25 : decode cX4_currentIn 25 = .ok (.iaload, 1) := by decide +kernel
theorem dX4_currentIn_26 : decode cX4_currentIn 26 = .ok (.goto 4, 3) := by decide +kernel
theorem dX4_currentIn_29 : decode cX4_currentIn 29 = .ok (.iconst 0, 1) := by decide +kernel
theorem dX4_currentIn_30 : decode cX4_currentIn 30 = .ok (.ireturn, 1) := by decide +kernel
theorem dX4_typeOf_0 : decode cX4_typeOf 0 = .ok (.aload_n 0, 1) := by decide +kernel
theorem dX4_typeOf_1 : decode cX4_typeOf 1 = .ok (.aload_n 0, 1) := by decide +kernel
theorem dX4_typeOf_2 : decode cX4_typeOf 2 = .ok (.iload_n 1, 1) := by decide +kernel
theorem dX4_typeOf_3 : decode cX4_typeOf 3 = .ok (.invokevirtual 115, 3) := by decide +kernel
theorem dX4_typeOf_6 : decode cX4_typeOf 6 = .ok (.ifCond .eq 7, 3) := by decide +kernel
theorem dX4_typeOf_9 : decode cX4_typeOf 9 = .ok (.iconst 0, 1) := by decide +kernel
theorem dX4_typeOf_10 : decode cX4_typeOf 10 = .ok (.goto 4, 3) := by decide +kernel
theorem dX4_typeOf_13 : decode cX4_typeOf 13 = .ok (.iconst 1, 1) := by decide +kernel
theorem dX4_typeOf_14 : decode cX4_typeOf 14 = .ok (.invokevirtual 70, 3) := by decide +kernel
theorem dX4_typeOf_17 : decode cX4_typeOf 17 = .ok (.ifCond .eq 12, 3) := by decide +kernel
theorem dX4_typeOf_20 : decode cX4_typeOf 20 = .ok (.aload_n 0, 1) := by decide +kernel
theorem dX4_typeOf_21 : decode cX4_typeOf 21 = .ok (.getfield 29, 3) := by decide +kernel
theorem dX4_typeOf_24 : decode cX4_typeOf 24 = .ok (.iload_n 1, 1) := by decide +kernel
theorem dX4_typeOf_25 : decode cX4_typeOf 25 = .ok (.iaload, 1) := by decide +kernel
theorem dX4_typeOf_26 : decode cX4_typeOf 26 = .ok (.goto 4, 3) := by decide +kernel
theorem dX4_typeOf_29 : decode cX4_typeOf 29 = .ok (.iconst 0, 1) := by decide +kernel
theorem dX4_typeOf_30 : decode cX4_typeOf 30 = .ok (.ireturn, 1) := by decide +kernel
theorem dX4_valueOf_0 : decode cX4_valueOf 0 = .ok (.aload_n 0, 1) := by decide +kernel
theorem dX4_valueOf_1 : decode cX4_valueOf 1 = .ok (.aload_n 0, 1) := by decide +kernel
theorem dX4_valueOf_2 : decode cX4_valueOf 2 = .ok (.iload_n 1, 1) := by decide +kernel
theorem dX4_valueOf_3 : decode cX4_valueOf 3 = .ok (.invokevirtual 115, 3) := by decide +kernel
theorem dX4_valueOf_6 : decode cX4_valueOf 6 = .ok (.ifCond .eq 7, 3) := by decide +kernel
theorem dX4_valueOf_9 : decode cX4_valueOf 9 = .ok (.iconst 0, 1) := by decide +kernel
theorem dX4_valueOf_10 : decode cX4_valueOf 10 = .ok (.goto 4, 3) := by decide +kernel
theorem dX4_valueOf_13 : decode cX4_valueOf 13 = .ok (.iconst 1, 1) := by decide +kernel
theorem dX4_valueOf_14 : decode cX4_valueOf 14 = .ok (.invokevirtual 70, 3) := by decide +kernel
theorem dX4_valueOf_17 : decode cX4_valueOf 17 = .ok (.ifCond .eq 12, 3) := by decide +kernel
theorem dX4_valueOf_20 : decode cX4_valueOf 20 = .ok (.aload_n 0, 1) := by decide +kernel
theorem dX4_valueOf_21 : decode cX4_valueOf 21 = .ok (.getfield 32, 3) := by decide +kernel
theorem dX4_valueOf_24 : decode cX4_valueOf 24 = .ok (.iload_n 1, 1) := by decide +kernel
theorem dX4_valueOf_25 : decode cX4_valueOf 25 = .ok (.iaload, 1) := by decide +kernel
theorem dX4_valueOf_26 : decode cX4_valueOf 26 = .ok (.goto 4, 3) := by decide +kernel
theorem dX4_valueOf_29 : decode cX4_valueOf 29 = .ok (.iconst 0, 1) := by decide +kernel
theorem dX4_valueOf_30 : decode cX4_valueOf 30 = .ok (.ireturn, 1) := by decide +kernel
theorem dX4_areAsked_0 : decode cX4_areAsked 0 = .ok (.aload_n 0, 1) := by decide +kernel
theorem dX4_areAsked_1 : decode cX4_areAsked 1 = .ok (.aload_n 0, 1) := by decide +kernel
theorem dX4_areAsked_2 : decode cX4_areAsked 2 = .ok (.iload_n 1, 1) := by decide +kernel
theorem dX4_areAsked_3 : decode cX4_areAsked 3 = .ok (.invokevirtual 115, 3) := by decide +kernel
theorem dX4_areAsked_6 : decode cX4_areAsked 6 = .ok (.ifCond .eq 15, 3) := by decide +kernel
theorem dX4_areAsked_9 : decode cX4_areAsked 9 = .ok (.aload_n 0, 1) := by decide +kernel
theorem dX4_areAsked_10 : decode cX4_areAsked 10 = .ok (.iload_n 2, 1) := by decide +kernel
theorem dX4_areAsked_11 : decode cX4_areAsked 11 = .ok (.invokevirtual 109, 3) := by decide +kernel
theorem dX4_areAsked_14 : decode cX4_areAsked 14 = .ok (.ifCond .eq 7, 3) := by decide +kernel
theorem dX4_areAsked_17 : decode cX4_areAsked 17 = .ok (.iconst 0, 1) := by decide +kernel
theorem dX4_areAsked_18 : decode cX4_areAsked 18 = .ok (.goto 4, 3) := by decide +kernel
theorem dX4_areAsked_21 : decode cX4_areAsked 21 = .ok (.iconst 1, 1) := by decide +kernel
theorem dX4_areAsked_22 : decode cX4_areAsked 22 = .ok (.invokevirtual 70, 3) := by decide +kernel
theorem dX4_areAsked_25 : decode cX4_areAsked 25 = .ok (.ireturn, 1) := by decide +kernel
theorem dX4_ownerOf_0 : decode cX4_ownerOf 0 = .ok (.aload_n 0, 1) := by decide +kernel
theorem dX4_ownerOf_1 : decode cX4_ownerOf 1 = .ok (.iload_n 1, 1) := by decide +kernel
theorem dX4_ownerOf_2 : decode cX4_ownerOf 2 = .ok (.iload_n 2, 1) := by decide +kernel
theorem dX4_ownerOf_3 : decode cX4_ownerOf 3 = .ok (.invokevirtual 121, 3) := by decide +kernel
theorem dX4_ownerOf_6 : decode cX4_ownerOf 6 = .ok (.ifCond .eq 12, 3) := by decide +kernel
theorem dX4_ownerOf_9 : decode cX4_ownerOf 9 = .ok (.aload_n 0, 1) := by decide +kernel
theorem dX4_ownerOf_10 : decode cX4_ownerOf 10 = .ok (.iload_n 2, 1) := by decide +kernel
theorem dX4_ownerOf_11 : decode cX4_ownerOf 11 = .ok (.iload_n 1, 1) := by decide +kernel
theorem dX4_ownerOf_12 : decode cX4_ownerOf 12 = .ok (.invokevirtual 78, 3) := by decide +kernel
theorem dX4_ownerOf_15 : decode cX4_ownerOf 15 = .ok (.goto 4, 3) := by decide +kernel
theorem dX4_ownerOf_18 : decode cX4_ownerOf 18 = .ok (.iconst 0, 1) := by decide +kernel
theorem dX4_ownerOf_19 : decode cX4_ownerOf 19 = .ok (.ireturn, 1) := by decide +kernel
theorem dX4_countOf_0 : decode cX4_countOf 0 = .ok (.aload_n 0, 1) := by decide +kernel
theorem dX4_countOf_1 : decode cX4_countOf 1 = .ok (.getfield 29, 3) := by decide +kernel
theorem dX4_countOf_4 : decode cX4_countOf 4 = .ok (.iload_n 1, 1) := by decide +kernel
theorem dX4_countOf_5 : decode cX4_countOf 5 = .ok (.iaload, 1) := by decide +kernel
theorem dX4_countOf_6 : decode cX4_countOf 6 = .ok (.aload_n 0, 1) := by decide +kernel
theorem dX4_countOf_7 : decode cX4_countOf 7 = .ok (.getfield 7, 3) := by decide +kernel
theorem dX4_countOf_10 : decode cX4_countOf 10 = .ok (.iload_n 2, 1) := by decide +kernel
theorem dX4_countOf_11 : decode cX4_countOf 11 = .ok (.iaload, 1) := by decide +kernel
theorem dX4_countOf_12 : decode cX4_countOf 12 = .ok (.if_icmp .ne 12, 3) := by decide +kernel
theorem dX4_countOf_15 : decode cX4_countOf 15 = .ok (.aload_n 0, 1) := by decide +kernel
theorem dX4_countOf_16 : decode cX4_countOf 16 = .ok (.iload_n 2, 1) := by decide +kernel
theorem dX4_countOf_17 : decode cX4_countOf 17 = .ok (.iload_n 1, 1) := by decide +kernel
theorem dX4_countOf_18 : decode cX4_countOf 18 = .ok (.invokevirtual 112, 3) := by decide +kernel
theorem dX4_countOf_21 : decode cX4_countOf 21 = .ok (.goto 4, 3) := by decide +kernel
theorem dX4_countOf_24 : decode cX4_countOf 24 = .ok (.iconst (-1), 1) := by decide +kernel
theorem dX4_countOf_25 : decode cX4_countOf 25 = .ok (.ireturn, 1) := by decide +kernel
theorem dX4_members_0 : decode cX4_members 0 = .ok (.aload_n 0, 1) := by decide +kernel
theorem dX4_members_1 : decode cX4_members 1 = .ok (.iload_n 1, 1) := by decide +kernel
theorem dX4_members_2 : decode cX4_members 2 = .ok (.iload_n 2, 1) := by decide +kernel
theorem dX4_members_3 : decode cX4_members 3 = .ok (.invokevirtual 121, 3) := by decide +kernel
theorem dX4_members_6 : decode cX4_members 6 = .ok (.ifCond .eq 12, 3) := by decide +kernel
theorem dX4_members_9 : decode cX4_members 9 = .ok (.aload_n 0, 1) := by decide +kernel
theorem dX4_members_10 : decode cX4_members 10 = .ok (.iload_n 1, 1) := by decide +kernel
theorem dX4_members_11 : decode cX4_members 11 = .ok (.iload_n 2, 1) := by decide +kernel
theorem dX4_members_12 : decode cX4_members 12 = .ok (.invokevirtual 125, 3) := by decide +kernel
theorem dX4_members_15 : decode cX4_members 15 = .ok (.goto 4, 3) := by decide +kernel
theorem dX4_members_18 : decode cX4_members 18 = .ok (.iconst 0, 1) := by decide +kernel
theorem dX4_members_19 : decode cX4_members 19 = .ok (.ireturn, 1) := by decide +kernel
theorem dX4_membersByTable_0 : decode cX4_membersByTable 0 = .ok (.aload_n 0, 1) := by decide +kernel
theorem dX4_membersByTable_1 : decode cX4_membersByTable 1 = .ok (.iload_n 1, 1) := by decide +kernel
theorem dX4_membersByTable_2 : decode cX4_membersByTable 2 = .ok (.iload_n 2, 1) := by decide +kernel
theorem dX4_membersByTable_3 : decode cX4_membersByTable 3 = .ok (.invokevirtual 121, 3) := by decide +kernel
theorem dX4_membersByTable_6 : decode cX4_membersByTable 6 = .ok (.ifCond .eq 12, 3) := by decide +kernel
theorem dX4_membersByTable_9 : decode cX4_membersByTable 9 = .ok (.aload_n 0, 1) := by decide +kernel
theorem dX4_membersByTable_10 : decode cX4_membersByTable 10 = .ok (.iload_n 1, 1) := by decide +kernel
theorem dX4_membersByTable_11 : decode cX4_membersByTable 11 = .ok (.iload_n 2, 1) := by decide +kernel
theorem dX4_membersByTable_12 : decode cX4_membersByTable 12 = .ok (.invokevirtual 125, 3) := by decide +kernel
theorem dX4_membersByTable_15 : decode cX4_membersByTable 15 = .ok (.goto 4, 3) := by decide +kernel
theorem dX4_membersByTable_18 : decode cX4_membersByTable 18 = .ok (.iconst 0, 1) := by decide +kernel
theorem dX4_membersByTable_19 : decode cX4_membersByTable 19 = .ok (.ireturn, 1) := by decide +kernel
theorem dX4_memberAt_0 : decode cX4_memberAt 0 = .ok (.aload_n 0, 1) := by decide +kernel
theorem dX4_memberAt_1 : decode cX4_memberAt 1 = .ok (.iload_n 1, 1) := by decide +kernel
theorem dX4_memberAt_2 : decode cX4_memberAt 2 = .ok (.invokevirtual 115, 3) := by decide +kernel
theorem dX4_memberAt_5 : decode cX4_memberAt 5 = .ok (.ifCond .eq 46, 3) := by decide +kernel
theorem dX4_memberAt_8 : decode cX4_memberAt 8 = .ok (.aload_n 0, 1) := by decide +kernel
theorem dX4_memberAt_9 : decode cX4_memberAt 9 = .ok (.iload_n 2, 1) := by decide +kernel
theorem dX4_memberAt_10 : decode cX4_memberAt 10 = .ok (.invokevirtual 109, 3) := by decide +kernel
theorem dX4_memberAt_13 : decode cX4_memberAt 13 = .ok (.ifCond .eq 38, 3) := by decide +kernel
theorem dX4_memberAt_16 : decode cX4_memberAt 16 = .ok (.aload_n 0, 1) := by decide +kernel
theorem dX4_memberAt_17 : decode cX4_memberAt 17 = .ok (.getfield 29, 3) := by decide +kernel
theorem dX4_memberAt_20 : decode cX4_memberAt 20 = .ok (.iload_n 1, 1) := by decide +kernel
theorem dX4_memberAt_21 : decode cX4_memberAt 21 = .ok (.iaload, 1) := by decide +kernel
theorem dX4_memberAt_22 : decode cX4_memberAt 22 = .ok (.aload_n 0, 1) := by decide +kernel
theorem dX4_memberAt_23 : decode cX4_memberAt 23 = .ok (.getfield 7, 3) := by decide +kernel
theorem dX4_memberAt_26 : decode cX4_memberAt 26 = .ok (.iload_n 2, 1) := by decide +kernel
theorem dX4_memberAt_27 : decode cX4_memberAt 27 = .ok (.iaload, 1) := by decide +kernel
theorem dX4_memberAt_28 : decode cX4_memberAt 28 = .ok (.if_icmp .ne 23, 3) := by decide +kernel
theorem dX4_memberAt_31 : decode cX4_memberAt 31 = .ok (.iload_n 3, 1) := by decide +kernel
theorem dX4_memberAt_32 : decode cX4_memberAt 32 = .ok (.ifCond .lt 19, 3) := by decide +kernel
theorem dX4_memberAt_35 : decode cX4_memberAt 35 = .ok (.iload_n 3, 1) := by decide +kernel
theorem dX4_memberAt_36 : decode cX4_memberAt 36 = .ok (.bipush 60, 2) := by decide +kernel
theorem dX4_memberAt_38 : decode cX4_memberAt 38 = .ok (.if_icmp .ge 13, 3) := by decide +kernel
theorem dX4_memberAt_41 : decode cX4_memberAt 41 = .ok (.aload_n 0, 1) := by decide +kernel
theorem dX4_memberAt_42 : decode cX4_memberAt 42 = .ok (.iload_n 2, 1) := by decide +kernel
theorem dX4_memberAt_43 : decode cX4_memberAt 43 = .ok (.iload_n 1, 1) := by decide +kernel
theorem dX4_memberAt_44 : decode cX4_memberAt 44 = .ok (.iload_n 3, 1) := by decide +kernel
theorem dX4_memberAt_45 : decode cX4_memberAt 45 = .ok (.invokevirtual 118, 3) := by decide +kernel
theorem dX4_memberAt_48 : decode cX4_memberAt 48 = .ok (.goto 4, 3) := by decide +kernel
theorem dX4_memberAt_51 : decode cX4_memberAt 51 = .ok (.iconst (-1), 1) := by decide +kernel
theorem dX4_memberAt_52 : decode cX4_memberAt 52 = .ok (.istore 4, 2) := by decide +kernel
theorem dX4_memberAt_54 : decode cX4_memberAt 54 = .ok (.aload_n 0, 1) := by decide +kernel
theorem dX4_memberAt_55 : decode cX4_memberAt 55 = .ok (.iload 4, 2) := by decide +kernel
theorem dX4_memberAt_57 : decode cX4_memberAt 57 = .ok (.iconst (-1), 1) := by decide +kernel
theorem dX4_memberAt_58 : decode cX4_memberAt 58 = .ok (.if_icmp .ne 7, 3) := by decide +kernel
theorem dX4_memberAt_61 : decode cX4_memberAt 61 = .ok (.iconst 1, 1) := by decide +kernel
theorem dX4_memberAt_62 : decode cX4_memberAt 62 = .ok (.goto 4, 3) := by decide +kernel
theorem dX4_memberAt_65 : decode cX4_memberAt 65 = .ok (.iconst 0, 1) := by decide +kernel
theorem dX4_memberAt_66 : decode cX4_memberAt 66 = .ok (.invokevirtual 70, 3) := by decide +kernel
theorem dX4_memberAt_69 : decode cX4_memberAt 69 = .ok (.ifCond .eq 8, 3) := by decide +kernel
theorem dX4_memberAt_72 : decode cX4_memberAt 72 = .ok (.iload 4, 2) := by decide +kernel
theorem dX4_memberAt_74 : decode cX4_memberAt 74 = .ok (.goto 4, 3) := by decide +kernel
theorem dX4_memberAt_77 : decode cX4_memberAt 77 = .ok (.iconst 0, 1) := by decide +kernel
theorem dX4_memberAt_78 : decode cX4_memberAt 78 = .ok (.ireturn, 1) := by decide +kernel
theorem dX4_wouldErase_0 : decode cX4_wouldErase 0 = .ok (.aload_n 0, 1) := by decide +kernel
theorem dX4_wouldErase_1 : decode cX4_wouldErase 1 = .ok (.aload_n 0, 1) := by decide +kernel
theorem dX4_wouldErase_2 : decode cX4_wouldErase 2 = .ok (.iload_n 1, 1) := by decide +kernel
theorem dX4_wouldErase_3 : decode cX4_wouldErase 3 = .ok (.invokevirtual 115, 3) := by decide +kernel
theorem dX4_wouldErase_6 : decode cX4_wouldErase 6 = .ok (.ifCond .ne 7, 3) := by decide +kernel
theorem dX4_wouldErase_9 : decode cX4_wouldErase 9 = .ok (.iconst 1, 1) := by decide +kernel
theorem dX4_wouldErase_10 : decode cX4_wouldErase 10 = .ok (.goto 17, 3) := by decide +kernel
theorem dX4_wouldErase_13 : decode cX4_wouldErase 13 = .ok (.iload_n 2, 1) := by decide +kernel
theorem dX4_wouldErase_14 : decode cX4_wouldErase 14 = .ok (.iconst 0, 1) := by decide +kernel
theorem dX4_wouldErase_15 : decode cX4_wouldErase 15 = .ok (.iconst 2, 1) := by decide +kernel
theorem dX4_wouldErase_16 : decode cX4_wouldErase 16 = .ok (.invokestatic 63, 3) := by decide +kernel
theorem dX4_wouldErase_19 : decode cX4_wouldErase 19 = .ok (.ifCond .eq 7, 3) := by decide +kernel
theorem dX4_wouldErase_22 : decode cX4_wouldErase 22 = .ok (.iconst 0, 1) := by decide +kernel
theorem dX4_wouldErase_23 : decode cX4_wouldErase 23 = .ok (.goto 4, 3) := by decide +kernel
theorem dX4_wouldErase_26 : decode cX4_wouldErase 26 = .ok (.iconst 2, 1) := by decide +kernel
theorem dX4_wouldErase_27 : decode cX4_wouldErase 27 = .ok (.invokevirtual 70, 3) := by decide +kernel
theorem dX4_wouldErase_30 : decode cX4_wouldErase 30 = .ok (.ifCond .eq 12, 3) := by decide +kernel
theorem dX4_wouldErase_33 : decode cX4_wouldErase 33 = .ok (.aload_n 0, 1) := by decide +kernel
theorem dX4_wouldErase_34 : decode cX4_wouldErase 34 = .ok (.iload_n 1, 1) := by decide +kernel
theorem dX4_wouldErase_35 : decode cX4_wouldErase 35 = .ok (.iload_n 2, 1) := by decide +kernel
theorem dX4_wouldErase_36 : decode cX4_wouldErase 36 = .ok (.invokevirtual 103, 3) := by decide +kernel
theorem dX4_wouldErase_39 : decode cX4_wouldErase 39 = .ok (.goto 4, 3) := by decide +kernel
theorem dX4_wouldErase_42 : decode cX4_wouldErase 42 = .ok (.iconst 0, 1) := by decide +kernel
theorem dX4_wouldErase_43 : decode cX4_wouldErase 43 = .ok (.ireturn, 1) := by decide +kernel
