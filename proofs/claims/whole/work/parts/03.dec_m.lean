theorem dX11_init_0 : decode cX11_init 0 = .ok (.aload_n 0, 1) := by decide +kernel
theorem dX11_init_1 : decode cX11_init 1 = .ok (.invokespecial 1, 3) := by decide +kernel
theorem dX11_init_4 : decode cX11_init 4 = .ok (.aload_n 0, 1) := by decide +kernel
theorem dX11_init_5 : decode cX11_init 5 = .ok (.sipush 1814, 3) := by decide +kernel
theorem dX11_init_8 : decode cX11_init 8 = .ok (.newarray .int, 2) := by decide +kernel
theorem dX11_init_10 : decode cX11_init 10 = .ok (.putfield 7, 3) := by decide +kernel
theorem dX11_init_13 : decode cX11_init 13 = .ok (.aload_n 0, 1) := by decide +kernel
theorem dX11_init_14 : decode cX11_init 14 = .ok (.sipush 1814, 3) := by decide +kernel
theorem dX11_init_17 : decode cX11_init 17 = .ok (.newarray .int, 2) := by decide +kernel
theorem dX11_init_19 : decode cX11_init 19 = .ok (.putfield 13, 3) := by decide +kernel
theorem dX11_init_22 : decode cX11_init 22 = .ok (.aload_n 0, 1) := by decide +kernel
theorem dX11_init_23 : decode cX11_init 23 = .ok (.sipush 2800, 3) := by decide +kernel
theorem dX11_init_26 : decode cX11_init 26 = .ok (.newarray .int, 2) := by decide +kernel
theorem dX11_init_28 : decode cX11_init 28 = .ok (.putfield 16, 3) := by decide +kernel
theorem dX11_init_31 : decode cX11_init 31 = .ok (.aload_n 0, 1) := by decide +kernel
theorem dX11_init_32 : decode cX11_init 32 = .ok (.sipush 300, 3) := by decide +kernel
theorem dX11_init_35 : decode cX11_init 35 = .ok (.newarray .int, 2) := by decide +kernel
theorem dX11_init_37 : decode cX11_init 37 = .ok (.putfield 19, 3) := by decide +kernel
theorem dX11_init_40 : decode cX11_init 40 = .ok (.aload_n 0, 1) := by decide +kernel
theorem dX11_init_41 : decode cX11_init 41 = .ok (.iconst (-1), 1) := by decide +kernel
theorem dX11_init_42 : decode cX11_init 42 = .ok (.putfield 22, 3) := by decide +kernel
theorem dX11_init_45 : decode cX11_init 45 = .ok (.aload_n 0, 1) := by decide +kernel
theorem dX11_init_46 : decode cX11_init 46 = .ok (.iconst (-1), 1) := by decide +kernel
theorem dX11_init_47 : decode cX11_init 47 = .ok (.putfield 26, 3) := by decide +kernel
theorem dX11_init_50 : decode cX11_init 50 = .ok (.aload_n 0, 1) := by decide +kernel
theorem dX11_init_51 : decode cX11_init 51 = .ok (.sipush 160, 3) := by decide +kernel
theorem dX11_init_54 : decode cX11_init 54 = .ok (.newarray .int, 2) := by decide +kernel
theorem dX11_init_56 : decode cX11_init 56 = .ok (.putfield 29, 3) := by decide +kernel
theorem dX11_init_59 : decode cX11_init 59 = .ok (.aload_n 0, 1) := by decide +kernel
theorem dX11_init_60 : decode cX11_init 60 = .ok (.bipush 8, 2) := by decide +kernel
theorem dX11_init_62 : decode cX11_init 62 = .ok (.newarray .int, 2) := by decide +kernel
theorem dX11_init_64 : decode cX11_init 64 = .ok (.putfield 32, 3) := by decide +kernel
theorem dX11_init_67 : decode cX11_init 67 = .ok (.aload_n 0, 1) := by decide +kernel
theorem dX11_init_68 : decode cX11_init 68 = .ok (.sipush 330, 3) := by decide +kernel
theorem dX11_init_71 : decode cX11_init 71 = .ok (.newarray .long, 2) := by decide +kernel
theorem dX11_init_73 : decode cX11_init 73 = .ok (.putfield 35, 3) := by decide +kernel
theorem dX11_init_76 : decode cX11_init 76 = .ok (.aload_n 0, 1) := by decide +kernel
theorem dX11_init_77 : decode cX11_init 77 = .ok (.sipush 330, 3) := by decide +kernel
theorem dX11_init_80 : decode cX11_init 80 = .ok (.newarray .boolean, 2) := by decide +kernel
theorem dX11_init_82 : decode cX11_init 82 = .ok (.putfield 39, 3) := by decide +kernel
theorem dX11_init_85 : decode cX11_init 85 = .ok (.aload_n 0, 1) := by decide +kernel
theorem dX11_init_86 : decode cX11_init 86 = .ok (.bipush 16, 2) := by decide +kernel
theorem dX11_init_88 : decode cX11_init 88 = .ok (.newarray .int, 2) := by decide +kernel
theorem dX11_init_90 : decode cX11_init 90 = .ok (.putfield 43, 3) := by decide +kernel
theorem dX11_init_93 : decode cX11_init 93 = .ok (.aload_n 0, 1) := by decide +kernel
theorem dX11_init_94 : decode cX11_init 94 = .ok (.bipush 16, 2) := by decide +kernel
theorem dX11_init_96 : decode cX11_init 96 = .ok (.newarray .int, 2) := by decide +kernel
theorem dX11_init_98 : decode cX11_init 98 = .ok (.putfield 46, 3) := by decide +kernel
theorem dX11_init_101 : decode cX11_init 101 = .ok (.aload_n 0, 1) := by decide +kernel
theorem dX11_init_102 : decode cX11_init 102 = .ok (.bipush 16, 2) := by decide +kernel
theorem dX11_init_104 : decode cX11_init 104 = .ok (.newarray .int, 2) := by decide +kernel
theorem dX11_init_106 : decode cX11_init 106 = .ok (.putfield 49, 3) := by decide +kernel
theorem dX11_init_109 : decode cX11_init 109 = .ok (.aload_n 0, 1) := by decide +kernel
theorem dX11_init_110 : decode cX11_init 110 = .ok (.bipush 17, 2) := by decide +kernel
theorem dX11_init_112 : decode cX11_init 112 = .ok (.newarray .int, 2) := by decide +kernel
theorem dX11_init_114 : decode cX11_init 114 = .ok (.putfield 52, 3) := by decide +kernel
theorem dX11_init_117 : decode cX11_init 117 = .ok (.aload_n 0, 1) := by decide +kernel
theorem dX11_init_118 : decode cX11_init 118 = .ok (.ldc 55, 2) := by decide +kernel
theorem dX11_init_120 : decode cX11_init 120 = .ok (.newarray .int, 2) := by decide +kernel
theorem dX11_init_122 : decode cX11_init 122 = .ok (.putfield 56, 3) := by decide +kernel
theorem dX11_init_125 : decode cX11_init 125 = .ok (.aload_n 0, 1) := by decide +kernel
theorem dX11_init_126 : decode cX11_init 126 = .ok (.ldc 55, 2) := by decide +kernel
theorem dX11_init_128 : decode cX11_init 128 = .ok (.newarray .long, 2) := by decide +kernel
theorem dX11_init_130 : decode cX11_init 130 = .ok (.putfield 59, 3) := by decide +kernel
theorem dX11_init_133 : decode cX11_init 133 = .ok (.aload_n 0, 1) := by decide +kernel
theorem dX11_init_134 : decode cX11_init 134 = .ok (.sipush 144, 3) := by decide +kernel
theorem dX11_init_137 : decode cX11_init 137 = .ok (.newarray .boolean, 2) := by decide +kernel
theorem dX11_init_139 : decode cX11_init 139 = .ok (.putfield 62, 3) := by decide +kernel
theorem dX11_init_142 : decode cX11_init 142 = .ok (.aload_n 0, 1) := by decide +kernel
theorem dX11_init_143 : decode cX11_init 143 = .ok (.bipush 8, 2) := by decide +kernel
theorem dX11_init_145 : decode cX11_init 145 = .ok (.newarray .int, 2) := by decide +kernel
theorem dX11_init_147 : decode cX11_init 147 = .ok (.putfield 65, 3) := by decide +kernel
theorem dX11_init_150 : decode cX11_init 150 = .ok (.aload_n 0, 1) := by decide +kernel
theorem dX11_init_151 : decode cX11_init 151 = .ok (.bipush 8, 2) := by decide +kernel
theorem dX11_init_153 : decode cX11_init 153 = .ok (.newarray .int, 2) := by decide +kernel
theorem dX11_init_155 : decode cX11_init 155 = .ok (.putfield 68, 3) := by decide +kernel
theorem dX11_init_158 : decode cX11_init 158 = .ok (.aload_n 0, 1) := by decide +kernel
theorem dX11_init_159 : decode cX11_init 159 = .ok (.getfield 7, 3) := by decide +kernel
theorem dX11_init_162 : decode cX11_init 162 = .ok (.iconst 4, 1) := by decide +kernel
theorem dX11_init_163 : decode cX11_init 163 = .ok (.iconst (-1), 1) := by decide +kernel
theorem dX11_init_164 : decode cX11_init 164 = .ok (.iastore, 1) := by decide +kernel
theorem dX11_init_165 : decode cX11_init 165 = .ok (.aload_n 0, 1) := by decide +kernel
theorem dX11_init_166 : decode cX11_init 166 = .ok (.getfield 7, 3) := by decide +kernel
theorem dX11_init_169 : decode cX11_init 169 = .ok (.bipush 7, 2) := by decide +kernel
theorem dX11_init_171 : decode cX11_init 171 = .ok (.iconst 1, 1) := by decide +kernel
theorem dX11_init_172 : decode cX11_init 172 = .ok (.iastore, 1) := by decide +kernel
theorem dX11_init_173 : decode cX11_init 173 = .ok (.aload_n 0, 1) := by decide +kernel
theorem dX11_init_174 : decode cX11_init 174 = .ok (.getfield 7, 3) := by decide +kernel
theorem dX11_init_177 : decode cX11_init 177 = .ok (.bipush 8, 2) := by decide +kernel
theorem dX11_init_179 : decode cX11_init 179 = .ok (.bipush 10, 2) := by decide +kernel
theorem dX11_init_181 : decode cX11_init 181 = .ok (.iastore, 1) := by decide +kernel
theorem dX11_init_182 : decode cX11_init 182 = .ok (.aload_n 0, 1) := by decide +kernel
theorem dX11_init_183 : decode cX11_init 183 = .ok (.getfield 7, 3) := by decide +kernel
theorem dX11_init_186 : decode cX11_init 186 = .ok (.aload_n 0, 1) := by decide +kernel
theorem dX11_init_187 : decode cX11_init 187 = .ok (.getfield 13, 3) := by decide +kernel
theorem dX11_init_190 : decode cX11_init 190 = .ok (.invokestatic 71, 3) := by decide +kernel
theorem dX11_init_193 : decode cX11_init 193 = .ok (.return_, 1) := by decide +kernel
theorem dX11_copy_0 : decode cX11_copy 0 = .ok (.iconst 0, 1) := by decide +kernel
theorem dX11_copy_1 : decode cX11_copy 1 = .ok (.istore_n 2, 1) := by decide +kernel
theorem dX11_copy_2 : decode cX11_copy 2 = .ok (.iload_n 2, 1) := by decide +kernel
theorem dX11_copy_3 : decode cX11_copy 3 = .ok (.sipush 1814, 3) := by decide +kernel
theorem dX11_copy_6 : decode cX11_copy 6 = .ok (.if_icmp .ge 15, 3) := by decide +kernel
theorem dX11_copy_9 : decode cX11_copy 9 = .ok (.aload_n 1, 1) := by decide +kernel
theorem dX11_copy_10 : decode cX11_copy 10 = .ok (.iload_n 2, 1) := by decide +kernel
theorem dX11_copy_11 : decode cX11_copy 11 = .ok (.aload_n 0, 1) := by decide +kernel
theorem dX11_copy_12 : decode cX11_copy 12 = .ok (.iload_n 2, 1) := by decide +kernel
theorem dX11_copy_13 : decode cX11_copy 13 = .ok (.iaload, 1) := by decide +kernel
theorem dX11_copy_14 : decode cX11_copy 14 = .ok (.iastore, 1) := by decide +kernel
theorem dX11_copy_15 : decode cX11_copy 15 = .ok (.iinc 2 1, 3) := by decide +kernel
theorem dX11_copy_18 : decode cX11_copy 18 = .ok (.goto (-16), 3) := by decide +kernel
theorem dX11_copy_21 : decode cX11_copy 21 = .ok (.return_, 1) := by decide +kernel
theorem dX11_isIn_0 : decode cX11_isIn 0 = .ok (.iload_n 0, 1) := by decide +kernel
theorem dX11_isIn_1 : decode cX11_isIn 1 = .ok (.iload_n 1, 1) := by decide +kernel
theorem dX11_isIn_2 : decode cX11_isIn 2 = .ok (.if_icmp .lt 12, 3) := by decide +kernel
theorem dX11_isIn_5 : decode cX11_isIn 5 = .ok (.iload_n 0, 1) := by decide +kernel
theorem dX11_isIn_6 : decode cX11_isIn 6 = .ok (.iload_n 2, 1) := by decide +kernel
theorem dX11_isIn_7 : decode cX11_isIn 7 = .ok (.if_icmp .gt 7, 3) := by decide +kernel
theorem dX11_isIn_10 : decode cX11_isIn 10 = .ok (.iconst 1, 1) := by decide +kernel
theorem dX11_isIn_11 : decode cX11_isIn 11 = .ok (.goto 4, 3) := by decide +kernel
theorem dX11_isIn_14 : decode cX11_isIn 14 = .ok (.iconst 0, 1) := by decide +kernel
theorem dX11_isIn_15 : decode cX11_isIn 15 = .ok (.ireturn, 1) := by decide +kernel
theorem dX11_bits_0 : decode cX11_bits 0 = .ok (.iconst 0, 1) := by decide +kernel
theorem dX11_bits_1 : decode cX11_bits 1 = .ok (.istore_n 1, 1) := by decide +kernel
theorem dX11_bits_2 : decode cX11_bits 2 = .ok (.iconst 0, 1) := by decide +kernel
theorem dX11_bits_3 : decode cX11_bits 3 = .ok (.istore_n 2, 1) := by decide +kernel
theorem dX11_bits_4 : decode cX11_bits 4 = .ok (.iload_n 2, 1) := by decide +kernel
theorem dX11_bits_5 : decode cX11_bits 5 = .ok (.bipush 16, 2) := by decide +kernel
theorem dX11_bits_7 : decode cX11_bits 7 = .ok (.if_icmp .ge 17, 3) := by decide +kernel
theorem dX11_bits_10 : decode cX11_bits 10 = .ok (.iload_n 1, 1) := by decide +kernel
theorem dX11_bits_11 : decode cX11_bits 11 = .ok (.iload_n 0, 1) := by decide +kernel
theorem dX11_bits_12 : decode cX11_bits 12 = .ok (.iload_n 2, 1) := by decide +kernel
theorem dX11_bits_13 : decode cX11_bits 13 = .ok (.ishr, 1) := by decide +kernel
theorem dX11_bits_14 : decode cX11_bits 14 = .ok (.iconst 1, 1) := by decide +kernel
theorem dX11_bits_15 : decode cX11_bits 15 = .ok (.iand, 1) := by decide +kernel
theorem dX11_bits_16 : decode cX11_bits 16 = .ok (.iadd, 1) := by decide +kernel
theorem dX11_bits_17 : decode cX11_bits 17 = .ok (.istore_n 1, 1) := by decide +kernel
theorem dX11_bits_18 : decode cX11_bits 18 = .ok (.iinc 2 1, 3) := by decide +kernel
theorem dX11_bits_21 : decode cX11_bits 21 = .ok (.goto (-17), 3) := by decide +kernel
theorem dX11_bits_24 : decode cX11_bits 24 = .ok (.iload_n 1, 1) := by decide +kernel
theorem dX11_bits_25 : decode cX11_bits 25 = .ok (.ireturn, 1) := by decide +kernel
theorem dX11_isTown_0 : decode cX11_isTown 0 = .ok (.iload_n 1, 1) := by decide +kernel
theorem dX11_isTown_1 : decode cX11_isTown 1 = .ok (.iconst 0, 1) := by decide +kernel
theorem dX11_isTown_2 : decode cX11_isTown 2 = .ok (.aload_n 0, 1) := by decide +kernel
theorem dX11_isTown_3 : decode cX11_isTown 3 = .ok (.getfield 7, 3) := by decide +kernel
theorem dX11_isTown_6 : decode cX11_isTown 6 = .ok (.iconst 0, 1) := by decide +kernel
theorem dX11_isTown_7 : decode cX11_isTown 7 = .ok (.iaload, 1) := by decide +kernel
theorem dX11_isTown_8 : decode cX11_isTown 8 = .ok (.iconst 1, 1) := by decide +kernel
theorem dX11_isTown_9 : decode cX11_isTown 9 = .ok (.isub, 1) := by decide +kernel
theorem dX11_isTown_10 : decode cX11_isTown 10 = .ok (.invokestatic 75, 3) := by decide +kernel
theorem dX11_isTown_13 : decode cX11_isTown 13 = .ok (.ireturn, 1) := by decide +kernel
theorem dX11_isBone_0 : decode cX11_isBone 0 = .ok (.iload_n 1, 1) := by decide +kernel
theorem dX11_isBone_1 : decode cX11_isBone 1 = .ok (.iconst 0, 1) := by decide +kernel
theorem dX11_isBone_2 : decode cX11_isBone 2 = .ok (.aload_n 0, 1) := by decide +kernel
theorem dX11_isBone_3 : decode cX11_isBone 3 = .ok (.getfield 7, 3) := by decide +kernel
theorem dX11_isBone_6 : decode cX11_isBone 6 = .ok (.iconst 1, 1) := by decide +kernel
theorem dX11_isBone_7 : decode cX11_isBone 7 = .ok (.iaload, 1) := by decide +kernel
theorem dX11_isBone_8 : decode cX11_isBone 8 = .ok (.iconst 1, 1) := by decide +kernel
theorem dX11_isBone_9 : decode cX11_isBone 9 = .ok (.isub, 1) := by decide +kernel
theorem dX11_isBone_10 : decode cX11_isBone 10 = .ok (.invokestatic 75, 3) := by decide +kernel
theorem dX11_isBone_13 : decode cX11_isBone 13 = .ok (.ireturn, 1) := by decide +kernel
theorem dX11_boneAt_0 : decode cX11_boneAt 0 = .ok (.bipush 30, 2) := by decide +kernel
theorem dX11_boneAt_2 : decode cX11_boneAt 2 = .ok (.bipush 6, 2) := by decide +kernel
theorem dX11_boneAt_4 : decode cX11_boneAt 4 = .ok (.iload_n 0, 1) := by decide +kernel
theorem dX11_boneAt_5 : decode cX11_boneAt 5 = .ok (.imul, 1) := by decide +kernel
theorem dX11_boneAt_6 : decode cX11_boneAt 6 = .ok (.iadd, 1) := by decide +kernel
theorem dX11_boneAt_7 : decode cX11_boneAt 7 = .ok (.ireturn, 1) := by decide +kernel
theorem dX11_apart_0 : decode cX11_apart 0 = .ok (.iload_n 0, 1) := by decide +kernel
theorem dX11_apart_1 : decode cX11_apart 1 = .ok (.iload_n 1, 1) := by decide +kernel
theorem dX11_apart_2 : decode cX11_apart 2 = .ok (.if_icmp .ge 9, 3) := by decide +kernel
theorem dX11_apart_5 : decode cX11_apart 5 = .ok (.iload_n 1, 1) := by decide +kernel
theorem dX11_apart_6 : decode cX11_apart 6 = .ok (.iload_n 0, 1) := by decide +kernel
theorem dX11_apart_7 : decode cX11_apart 7 = .ok (.isub, 1) := by decide +kernel
theorem dX11_apart_8 : decode cX11_apart 8 = .ok (.goto 6, 3) := by decide +kernel
theorem dX11_apart_11 : decode cX11_apart 11 = .ok (.iload_n 0, 1) := by decide +kernel
theorem dX11_apart_12 : decode cX11_apart 12 = .ok (.iload_n 1, 1) := by decide +kernel
theorem dX11_apart_13 : decode cX11_apart 13 = .ok (.isub, 1) := by decide +kernel
theorem dX11_apart_14 : decode cX11_apart 14 = .ok (.ireturn, 1) := by decide +kernel
theorem dX11_miles_0 : decode cX11_miles 0 = .ok (.aload_n 0, 1) := by decide +kernel
theorem dX11_miles_1 : decode cX11_miles 1 = .ok (.getfield 7, 3) := by decide +kernel
theorem dX11_miles_4 : decode cX11_miles 4 = .ok (.bipush 10, 2) := by decide +kernel
theorem dX11_miles_6 : decode cX11_miles 6 = .ok (.iconst 2, 1) := by decide +kernel
theorem dX11_miles_7 : decode cX11_miles 7 = .ok (.iload_n 1, 1) := by decide +kernel
theorem dX11_miles_8 : decode cX11_miles 8 = .ok (.imul, 1) := by decide +kernel
theorem dX11_miles_9 : decode cX11_miles 9 = .ok (.iadd, 1) := by decide +kernel
theorem dX11_miles_10 : decode cX11_miles 10 = .ok (.iaload, 1) := by decide +kernel
theorem dX11_miles_11 : decode cX11_miles 11 = .ok (.aload_n 0, 1) := by decide +kernel
theorem dX11_miles_12 : decode cX11_miles 12 = .ok (.getfield 7, 3) := by decide +kernel
theorem dX11_miles_15 : decode cX11_miles 15 = .ok (.bipush 10, 2) := by decide +kernel
theorem dX11_miles_17 : decode cX11_miles 17 = .ok (.iconst 2, 1) := by decide +kernel
theorem dX11_miles_18 : decode cX11_miles 18 = .ok (.iload_n 2, 1) := by decide +kernel
theorem dX11_miles_19 : decode cX11_miles 19 = .ok (.imul, 1) := by decide +kernel
theorem dX11_miles_20 : decode cX11_miles 20 = .ok (.iadd, 1) := by decide +kernel
theorem dX11_miles_21 : decode cX11_miles 21 = .ok (.iaload, 1) := by decide +kernel
theorem dX11_miles_22 : decode cX11_miles 22 = .ok (.invokestatic 79, 3) := by decide +kernel
theorem dX11_miles_25 : decode cX11_miles 25 = .ok (.aload_n 0, 1) := by decide +kernel
theorem dX11_miles_26 : decode cX11_miles 26 = .ok (.getfield 7, 3) := by decide +kernel
theorem dX11_miles_29 : decode cX11_miles 29 = .ok (.bipush 10, 2) := by decide +kernel
theorem dX11_miles_31 : decode cX11_miles 31 = .ok (.iconst 2, 1) := by decide +kernel
theorem dX11_miles_32 : decode cX11_miles 32 = .ok (.iload_n 1, 1) := by decide +kernel
theorem dX11_miles_33 : decode cX11_miles 33 = .ok (.imul, 1) := by decide +kernel
theorem dX11_miles_34 : decode cX11_miles 34 = .ok (.iadd, 1) := by decide +kernel
theorem dX11_miles_35 : decode cX11_miles 35 = .ok (.iconst 1, 1) := by decide +kernel
theorem dX11_miles_36 : decode cX11_miles 36 = .ok (.iadd, 1) := by decide +kernel
theorem dX11_miles_37 : decode cX11_miles 37 = .ok (.iaload, 1) := by decide +kernel
theorem dX11_miles_38 : decode cX11_miles 38 = .ok (.aload_n 0, 1) := by decide +kernel
theorem dX11_miles_39 : decode cX11_miles 39 = .ok (.getfield 7, 3) := by decide +kernel
theorem dX11_miles_42 : decode cX11_miles 42 = .ok (.bipush 10, 2) := by decide +kernel
theorem dX11_miles_44 : decode cX11_miles 44 = .ok (.iconst 2, 1) := by decide +kernel
theorem dX11_miles_45 : decode cX11_miles 45 = .ok (.iload_n 2, 1) := by decide +kernel
theorem dX11_miles_46 : decode cX11_miles 46 = .ok (.imul, 1) := by decide +kernel
theorem dX11_miles_47 : decode cX11_miles 47 = .ok (.iadd, 1) := by decide +kernel
theorem dX11_miles_48 : decode cX11_miles 48 = .ok (.iconst 1, 1) := by decide +kernel
theorem dX11_miles_49 : decode cX11_miles 49 = .ok (.iadd, 1) := by decide +kernel
theorem dX11_miles_50 : decode cX11_miles 50 = .ok (.iaload, 1) := by decide +kernel
theorem dX11_miles_51 : decode cX11_miles 51 = .ok (.invokestatic 79, 3) := by decide +kernel
theorem dX11_miles_54 : decode cX11_miles 54 = .ok (.iadd, 1) := by decide +kernel
theorem dX11_miles_55 : decode cX11_miles 55 = .ok (.ireturn, 1) := by decide +kernel
theorem dX11_town_0 : decode cX11_town 0 = .ok (.iload_n 1, 1) := by decide +kernel
theorem dX11_town_1 : decode cX11_town 1 = .ok (.iconst 0, 1) := by decide +kernel
theorem dX11_town_2 : decode cX11_town 2 = .ok (.bipush 99, 2) := by decide +kernel
theorem dX11_town_4 : decode cX11_town 4 = .ok (.invokestatic 75, 3) := by decide +kernel
theorem dX11_town_7 : decode cX11_town 7 = .ok (.ifCond .eq 24, 3) := by decide +kernel
theorem dX11_town_10 : decode cX11_town 10 = .ok (.iload_n 2, 1) := by decide +kernel
theorem dX11_town_11 : decode cX11_town 11 = .ok (.iconst 0, 1) := by decide +kernel
theorem dX11_town_12 : decode cX11_town 12 = .ok (.bipush 99, 2) := by decide +kernel
theorem dX11_town_14 : decode cX11_town 14 = .ok (.invokestatic 75, 3) := by decide +kernel
theorem dX11_town_17 : decode cX11_town 17 = .ok (.ifCond .eq 14, 3) := by decide +kernel
theorem dX11_town_20 : decode cX11_town 20 = .ok (.aload_n 0, 1) := by decide +kernel
theorem dX11_town_21 : decode cX11_town 21 = .ok (.getfield 7, 3) := by decide +kernel
theorem dX11_town_24 : decode cX11_town 24 = .ok (.iconst 0, 1) := by decide +kernel
theorem dX11_town_25 : decode cX11_town 25 = .ok (.iaload, 1) := by decide +kernel
theorem dX11_town_26 : decode cX11_town 26 = .ok (.bipush 10, 2) := by decide +kernel
theorem dX11_town_28 : decode cX11_town 28 = .ok (.if_icmp .ne 5, 3) := by decide +kernel
theorem dX11_town_31 : decode cX11_town 31 = .ok (.iconst (-1), 1) := by decide +kernel
theorem dX11_town_32 : decode cX11_town 32 = .ok (.ireturn, 1) := by decide +kernel
theorem dX11_town_33 : decode cX11_town 33 = .ok (.aload_n 0, 1) := by decide +kernel
theorem dX11_town_34 : decode cX11_town 34 = .ok (.getfield 7, 3) := by decide +kernel
theorem dX11_town_37 : decode cX11_town 37 = .ok (.bipush 10, 2) := by decide +kernel
theorem dX11_town_39 : decode cX11_town 39 = .ok (.iconst 2, 1) := by decide +kernel
theorem dX11_town_40 : decode cX11_town 40 = .ok (.aload_n 0, 1) := by decide +kernel
theorem dX11_town_41 : decode cX11_town 41 = .ok (.getfield 7, 3) := by decide +kernel
theorem dX11_town_44 : decode cX11_town 44 = .ok (.iconst 0, 1) := by decide +kernel
theorem dX11_town_45 : decode cX11_town 45 = .ok (.iaload, 1) := by decide +kernel
theorem dX11_town_46 : decode cX11_town 46 = .ok (.imul, 1) := by decide +kernel
theorem dX11_town_47 : decode cX11_town 47 = .ok (.iadd, 1) := by decide +kernel
theorem dX11_town_48 : decode cX11_town 48 = .ok (.iload_n 1, 1) := by decide +kernel
theorem dX11_town_49 : decode cX11_town 49 = .ok (.iastore, 1) := by decide +kernel
theorem dX11_town_50 : decode cX11_town 50 = .ok (.aload_n 0, 1) := by decide +kernel
theorem dX11_town_51 : decode cX11_town 51 = .ok (.getfield 7, 3) := by decide +kernel
theorem dX11_town_54 : decode cX11_town 54 = .ok (.bipush 10, 2) := by decide +kernel
theorem dX11_town_56 : decode cX11_town 56 = .ok (.iconst 2, 1) := by decide +kernel
theorem dX11_town_57 : decode cX11_town 57 = .ok (.aload_n 0, 1) := by decide +kernel
theorem dX11_town_58 : decode cX11_town 58 = .ok (.getfield 7, 3) := by decide +kernel
theorem dX11_town_61 : decode cX11_town 61 = .ok (.iconst 0, 1) := by decide +kernel
theorem dX11_town_62 : decode cX11_town 62 = .ok (.iaload, 1) := by decide +kernel
theorem dX11_town_63 : decode cX11_town 63 = .ok (.imul, 1) := by decide +kernel
theorem dX11_town_64 : decode cX11_town 64 = .ok (.iadd, 1) := by decide +kernel
theorem dX11_town_65 : decode cX11_town 65 = .ok (.iconst 1, 1) := by decide +kernel
theorem dX11_town_66 : decode cX11_town 66 = .ok (.iadd, 1) := by decide +kernel
theorem dX11_town_67 : decode cX11_town 67 = .ok (.iload_n 2, 1) := by decide +kernel
theorem dX11_town_68 : decode cX11_town 68 = .ok (.iastore, 1) := by decide +kernel
theorem dX11_town_69 : decode cX11_town 69 = .ok (.aload_n 0, 1) := by decide +kernel
theorem dX11_town_70 : decode cX11_town 70 = .ok (.getfield 7, 3) := by decide +kernel
theorem dX11_town_73 : decode cX11_town 73 = .ok (.iconst 0, 1) := by decide +kernel
theorem dX11_town_74 : decode cX11_town 74 = .ok (.dup2, 1) := by decide +kernel
theorem dX11_town_75 : decode cX11_town 75 = .ok (.iaload, 1) := by decide +kernel
theorem dX11_town_76 : decode cX11_town 76 = .ok (.iconst 1, 1) := by decide +kernel
theorem dX11_town_77 : decode cX11_town 77 = .ok (.iadd, 1) := by decide +kernel
theorem dX11_town_78 : decode cX11_town 78 = .ok (.iastore, 1) := by decide +kernel
theorem dX11_town_79 : decode cX11_town 79 = .ok (.aload_n 0, 1) := by decide +kernel
theorem dX11_town_80 : decode cX11_town 80 = .ok (.getfield 7, 3) := by decide +kernel
theorem dX11_town_83 : decode cX11_town 83 = .ok (.iconst 0, 1) := by decide +kernel
theorem dX11_town_84 : decode cX11_town 84 = .ok (.iaload, 1) := by decide +kernel
theorem dX11_town_85 : decode cX11_town 85 = .ok (.iconst 1, 1) := by decide +kernel
theorem dX11_town_86 : decode cX11_town 86 = .ok (.isub, 1) := by decide +kernel
theorem dX11_town_87 : decode cX11_town 87 = .ok (.ireturn, 1) := by decide +kernel
theorem dX11_bone_0 : decode cX11_bone 0 = .ok (.iload_n 1, 1) := by decide +kernel
theorem dX11_bone_1 : decode cX11_bone 1 = .ok (.iconst 0, 1) := by decide +kernel
theorem dX11_bone_2 : decode cX11_bone 2 = .ok (.bipush 19, 2) := by decide +kernel
theorem dX11_bone_4 : decode cX11_bone 4 = .ok (.invokestatic 75, 3) := by decide +kernel
theorem dX11_bone_7 : decode cX11_bone 7 = .ok (.ifCond .eq 33, 3) := by decide +kernel
theorem dX11_bone_10 : decode cX11_bone 10 = .ok (.iload_n 2, 1) := by decide +kernel
theorem dX11_bone_11 : decode cX11_bone 11 = .ok (.iconst 1, 1) := by decide +kernel
theorem dX11_bone_12 : decode cX11_bone 12 = .ok (.sipush 999, 3) := by decide +kernel
theorem dX11_bone_15 : decode cX11_bone 15 = .ok (.invokestatic 75, 3) := by decide +kernel
theorem dX11_bone_18 : decode cX11_bone 18 = .ok (.ifCond .eq 22, 3) := by decide +kernel
theorem dX11_bone_21 : decode cX11_bone 21 = .ok (.aload_n 0, 1) := by decide +kernel
theorem dX11_bone_22 : decode cX11_bone 22 = .ok (.iload_n 3, 1) := by decide +kernel
theorem dX11_bone_23 : decode cX11_bone 23 = .ok (.invokevirtual 83, 3) := by decide +kernel
theorem dX11_bone_26 : decode cX11_bone 26 = .ok (.ifCond .eq 14, 3) := by decide +kernel
theorem dX11_bone_29 : decode cX11_bone 29 = .ok (.aload_n 0, 1) := by decide +kernel
theorem dX11_bone_30 : decode cX11_bone 30 = .ok (.getfield 7, 3) := by decide +kernel
theorem dX11_bone_33 : decode cX11_bone 33 = .ok (.iconst 1, 1) := by decide +kernel
theorem dX11_bone_34 : decode cX11_bone 34 = .ok (.iaload, 1) := by decide +kernel
theorem dX11_bone_35 : decode cX11_bone 35 = .ok (.bipush 16, 2) := by decide +kernel
theorem dX11_bone_37 : decode cX11_bone 37 = .ok (.if_icmp .ne 5, 3) := by decide +kernel
theorem dX11_bone_40 : decode cX11_bone 40 = .ok (.iconst (-1), 1) := by decide +kernel
theorem dX11_bone_41 : decode cX11_bone 41 = .ok (.ireturn, 1) := by decide +kernel
theorem dX11_bone_42 : decode cX11_bone 42 = .ok (.aload_n 0, 1) := by decide +kernel
theorem dX11_bone_43 : decode cX11_bone 43 = .ok (.getfield 7, 3) := by decide +kernel
theorem dX11_bone_46 : decode cX11_bone 46 = .ok (.iconst 1, 1) := by decide +kernel
theorem dX11_bone_47 : decode cX11_bone 47 = .ok (.iaload, 1) := by decide +kernel
theorem dX11_bone_48 : decode cX11_bone 48 = .ok (.invokestatic 87, 3) := by decide +kernel
theorem dX11_bone_51 : decode cX11_bone 51 = .ok (.istore 4, 2) := by decide +kernel
theorem dX11_bone_53 : decode cX11_bone 53 = .ok (.aload_n 0, 1) := by decide +kernel
theorem dX11_bone_54 : decode cX11_bone 54 = .ok (.getfield 7, 3) := by decide +kernel
theorem dX11_bone_57 : decode cX11_bone 57 = .ok (.iload 4, 2) := by decide +kernel
theorem dX11_bone_59 : decode cX11_bone 59 = .ok (.iload_n 1, 1) := by decide +kernel
theorem dX11_bone_60 : decode cX11_bone 60 = .ok (.iastore, 1) := by decide +kernel
theorem dX11_bone_61 : decode cX11_bone 61 = .ok (.aload_n 0, 1) := by decide +kernel
theorem dX11_bone_62 : decode cX11_bone 62 = .ok (.getfield 7, 3) := by decide +kernel
theorem dX11_bone_65 : decode cX11_bone 65 = .ok (.iload 4, 2) := by decide +kernel
theorem dX11_bone_67 : decode cX11_bone 67 = .ok (.iconst 1, 1) := by decide +kernel
theorem dX11_bone_68 : decode cX11_bone 68 = .ok (.iadd, 1) := by decide +kernel
theorem dX11_bone_69 : decode cX11_bone 69 = .ok (.iload_n 2, 1) := by decide +kernel
theorem dX11_bone_70 : decode cX11_bone 70 = .ok (.iastore, 1) := by decide +kernel
theorem dX11_bone_71 : decode cX11_bone 71 = .ok (.aload_n 0, 1) := by decide +kernel
theorem dX11_bone_72 : decode cX11_bone 72 = .ok (.getfield 7, 3) := by decide +kernel
theorem dX11_bone_75 : decode cX11_bone 75 = .ok (.iload 4, 2) := by decide +kernel
theorem dX11_bone_77 : decode cX11_bone 77 = .ok (.iconst 2, 1) := by decide +kernel
theorem dX11_bone_78 : decode cX11_bone 78 = .ok (.iadd, 1) := by decide +kernel
theorem dX11_bone_79 : decode cX11_bone 79 = .ok (.iload_n 3, 1) := by decide +kernel
theorem dX11_bone_80 : decode cX11_bone 80 = .ok (.iastore, 1) := by decide +kernel
theorem dX11_bone_81 : decode cX11_bone 81 = .ok (.aload_n 0, 1) := by decide +kernel
theorem dX11_bone_82 : decode cX11_bone 82 = .ok (.getfield 7, 3) := by decide +kernel
theorem dX11_bone_85 : decode cX11_bone 85 = .ok (.iload 4, 2) := by decide +kernel
theorem dX11_bone_87 : decode cX11_bone 87 = .ok (.iconst 3, 1) := by decide +kernel
theorem dX11_bone_88 : decode cX11_bone 88 = .ok (.iadd, 1) := by decide +kernel
theorem dX11_bone_89 : decode cX11_bone 89 = .ok (.iload_n 3, 1) := by decide +kernel
theorem dX11_bone_90 : decode cX11_bone 90 = .ok (.iastore, 1) := by decide +kernel
theorem dX11_bone_91 : decode cX11_bone 91 = .ok (.aload_n 0, 1) := by decide +kernel
theorem dX11_bone_92 : decode cX11_bone 92 = .ok (.getfield 7, 3) := by decide +kernel
theorem dX11_bone_95 : decode cX11_bone 95 = .ok (.iload 4, 2) := by decide +kernel
theorem dX11_bone_97 : decode cX11_bone 97 = .ok (.iconst 4, 1) := by decide +kernel
theorem dX11_bone_98 : decode cX11_bone 98 = .ok (.iadd, 1) := by decide +kernel
theorem dX11_bone_99 : decode cX11_bone 99 = .ok (.iconst (-1), 1) := by decide +kernel
theorem dX11_bone_100 : decode cX11_bone 100 = .ok (.iastore, 1) := by decide +kernel
theorem dX11_bone_101 : decode cX11_bone 101 = .ok (.aload_n 0, 1) := by decide +kernel
theorem dX11_bone_102 : decode cX11_bone 102 = .ok (.getfield 7, 3) := by decide +kernel
theorem dX11_bone_105 : decode cX11_bone 105 = .ok (.iload 4, 2) := by decide +kernel
theorem dX11_bone_107 : decode cX11_bone 107 = .ok (.iconst 5, 1) := by decide +kernel
theorem dX11_bone_108 : decode cX11_bone 108 = .ok (.iadd, 1) := by decide +kernel
theorem dX11_bone_109 : decode cX11_bone 109 = .ok (.iconst 0, 1) := by decide +kernel
theorem dX11_bone_110 : decode cX11_bone 110 = .ok (.iastore, 1) := by decide +kernel
theorem dX11_bone_111 : decode cX11_bone 111 = .ok (.aload_n 0, 1) := by decide +kernel
theorem dX11_bone_112 : decode cX11_bone 112 = .ok (.getfield 7, 3) := by decide +kernel
theorem dX11_bone_115 : decode cX11_bone 115 = .ok (.iconst 1, 1) := by decide +kernel
theorem dX11_bone_116 : decode cX11_bone 116 = .ok (.dup2, 1) := by decide +kernel
theorem dX11_bone_117 : decode cX11_bone 117 = .ok (.iaload, 1) := by decide +kernel
theorem dX11_bone_118 : decode cX11_bone 118 = .ok (.iconst 1, 1) := by decide +kernel
theorem dX11_bone_119 : decode cX11_bone 119 = .ok (.iadd, 1) := by decide +kernel
theorem dX11_bone_120 : decode cX11_bone 120 = .ok (.iastore, 1) := by decide +kernel
theorem dX11_bone_121 : decode cX11_bone 121 = .ok (.aload_n 0, 1) := by decide +kernel
theorem dX11_bone_122 : decode cX11_bone 122 = .ok (.getfield 7, 3) := by decide +kernel
theorem dX11_bone_125 : decode cX11_bone 125 = .ok (.iconst 1, 1) := by decide +kernel
theorem dX11_bone_126 : decode cX11_bone 126 = .ok (.iaload, 1) := by decide +kernel
theorem dX11_bone_127 : decode cX11_bone 127 = .ok (.iconst 1, 1) := by decide +kernel
theorem dX11_bone_128 : decode cX11_bone 128 = .ok (.isub, 1) := by decide +kernel
theorem dX11_bone_129 : decode cX11_bone 129 = .ok (.ireturn, 1) := by decide +kernel
theorem dX11_keep_0 : decode cX11_keep 0 = .ok (.aload_n 0, 1) := by decide +kernel
theorem dX11_keep_1 : decode cX11_keep 1 = .ok (.getfield 7, 3) := by decide +kernel
theorem dX11_keep_4 : decode cX11_keep 4 = .ok (.iconst 5, 1) := by decide +kernel
theorem dX11_keep_5 : decode cX11_keep 5 = .ok (.iaload, 1) := by decide +kernel
theorem dX11_keep_6 : decode cX11_keep 6 = .ok (.bipush 20, 2) := by decide +kernel
theorem dX11_keep_8 : decode cX11_keep 8 = .ok (.if_icmp .ne 48, 3) := by decide +kernel
theorem dX11_keep_11 : decode cX11_keep 11 = .ok (.iconst 0, 1) := by decide +kernel
theorem dX11_keep_12 : decode cX11_keep 12 = .ok (.istore_n 1, 1) := by decide +kernel
theorem dX11_keep_13 : decode cX11_keep 13 = .ok (.iload_n 1, 1) := by decide +kernel
theorem dX11_keep_14 : decode cX11_keep 14 = .ok (.sipush 1558, 3) := by decide +kernel
theorem dX11_keep_17 : decode cX11_keep 17 = .ok (.if_icmp .ge 29, 3) := by decide +kernel
theorem dX11_keep_20 : decode cX11_keep 20 = .ok (.aload_n 0, 1) := by decide +kernel
theorem dX11_keep_21 : decode cX11_keep 21 = .ok (.getfield 7, 3) := by decide +kernel
theorem dX11_keep_24 : decode cX11_keep 24 = .ok (.sipush 174, 3) := by decide +kernel
theorem dX11_keep_27 : decode cX11_keep 27 = .ok (.iload_n 1, 1) := by decide +kernel
theorem dX11_keep_28 : decode cX11_keep 28 = .ok (.iadd, 1) := by decide +kernel
theorem dX11_keep_29 : decode cX11_keep 29 = .ok (.aload_n 0, 1) := by decide +kernel
theorem dX11_keep_30 : decode cX11_keep 30 = .ok (.getfield 7, 3) := by decide +kernel
theorem dX11_keep_33 : decode cX11_keep 33 = .ok (.sipush 256, 3) := by decide +kernel
theorem dX11_keep_36 : decode cX11_keep 36 = .ok (.iload_n 1, 1) := by decide +kernel
theorem dX11_keep_37 : decode cX11_keep 37 = .ok (.iadd, 1) := by decide +kernel
theorem dX11_keep_38 : decode cX11_keep 38 = .ok (.iaload, 1) := by decide +kernel
theorem dX11_keep_39 : decode cX11_keep 39 = .ok (.iastore, 1) := by decide +kernel
theorem dX11_keep_40 : decode cX11_keep 40 = .ok (.iinc 1 1, 3) := by decide +kernel
theorem dX11_keep_43 : decode cX11_keep 43 = .ok (.goto (-30), 3) := by decide +kernel
theorem dX11_keep_46 : decode cX11_keep 46 = .ok (.aload_n 0, 1) := by decide +kernel
theorem dX11_keep_47 : decode cX11_keep 47 = .ok (.getfield 7, 3) := by decide +kernel
theorem dX11_keep_50 : decode cX11_keep 50 = .ok (.iconst 5, 1) := by decide +kernel
theorem dX11_keep_51 : decode cX11_keep 51 = .ok (.dup2, 1) := by decide +kernel
theorem dX11_keep_52 : decode cX11_keep 52 = .ok (.iaload, 1) := by decide +kernel
theorem dX11_keep_53 : decode cX11_keep 53 = .ok (.iconst 1, 1) := by decide +kernel
theorem dX11_keep_54 : decode cX11_keep 54 = .ok (.isub, 1) := by decide +kernel
theorem dX11_keep_55 : decode cX11_keep 55 = .ok (.iastore, 1) := by decide +kernel
theorem dX11_keep_56 : decode cX11_keep 56 = .ok (.sipush 174, 3) := by decide +kernel
theorem dX11_keep_59 : decode cX11_keep 59 = .ok (.bipush 82, 2) := by decide +kernel
theorem dX11_keep_61 : decode cX11_keep 61 = .ok (.aload_n 0, 1) := by decide +kernel
theorem dX11_keep_62 : decode cX11_keep 62 = .ok (.getfield 7, 3) := by decide +kernel
theorem dX11_keep_65 : decode cX11_keep 65 = .ok (.iconst 5, 1) := by decide +kernel
theorem dX11_keep_66 : decode cX11_keep 66 = .ok (.iaload, 1) := by decide +kernel
theorem dX11_keep_67 : decode cX11_keep 67 = .ok (.imul, 1) := by decide +kernel
theorem dX11_keep_68 : decode cX11_keep 68 = .ok (.iadd, 1) := by decide +kernel
theorem dX11_keep_69 : decode cX11_keep 69 = .ok (.istore_n 1, 1) := by decide +kernel
theorem dX11_keep_70 : decode cX11_keep 70 = .ok (.aload_n 0, 1) := by decide +kernel
theorem dX11_keep_71 : decode cX11_keep 71 = .ok (.getfield 7, 3) := by decide +kernel
theorem dX11_keep_74 : decode cX11_keep 74 = .ok (.iload_n 1, 1) := by decide +kernel
theorem dX11_keep_75 : decode cX11_keep 75 = .ok (.aload_n 0, 1) := by decide +kernel
theorem dX11_keep_76 : decode cX11_keep 76 = .ok (.getfield 7, 3) := by decide +kernel
theorem dX11_keep_79 : decode cX11_keep 79 = .ok (.iconst 2, 1) := by decide +kernel
theorem dX11_keep_80 : decode cX11_keep 80 = .ok (.iaload, 1) := by decide +kernel
theorem dX11_keep_81 : decode cX11_keep 81 = .ok (.iastore, 1) := by decide +kernel
theorem dX11_keep_82 : decode cX11_keep 82 = .ok (.aload_n 0, 1) := by decide +kernel
theorem dX11_keep_83 : decode cX11_keep 83 = .ok (.getfield 7, 3) := by decide +kernel
theorem dX11_keep_86 : decode cX11_keep 86 = .ok (.iload_n 1, 1) := by decide +kernel
theorem dX11_keep_87 : decode cX11_keep 87 = .ok (.iconst 1, 1) := by decide +kernel
theorem dX11_keep_88 : decode cX11_keep 88 = .ok (.iadd, 1) := by decide +kernel
theorem dX11_keep_89 : decode cX11_keep 89 = .ok (.aload_n 0, 1) := by decide +kernel
theorem dX11_keep_90 : decode cX11_keep 90 = .ok (.getfield 7, 3) := by decide +kernel
theorem dX11_keep_93 : decode cX11_keep 93 = .ok (.iconst 1, 1) := by decide +kernel
theorem dX11_keep_94 : decode cX11_keep 94 = .ok (.iaload, 1) := by decide +kernel
theorem dX11_keep_95 : decode cX11_keep 95 = .ok (.iastore, 1) := by decide +kernel
theorem dX11_keep_96 : decode cX11_keep 96 = .ok (.iconst 0, 1) := by decide +kernel
theorem dX11_keep_97 : decode cX11_keep 97 = .ok (.istore_n 2, 1) := by decide +kernel
theorem dX11_keep_98 : decode cX11_keep 98 = .ok (.iload_n 2, 1) := by decide +kernel
theorem dX11_keep_99 : decode cX11_keep 99 = .ok (.bipush 16, 2) := by decide +kernel
theorem dX11_keep_101 : decode cX11_keep 101 = .ok (.if_icmp .ge 49, 3) := by decide +kernel
theorem dX11_keep_104 : decode cX11_keep 104 = .ok (.iconst 0, 1) := by decide +kernel
theorem dX11_keep_105 : decode cX11_keep 105 = .ok (.istore_n 3, 1) := by decide +kernel
theorem dX11_keep_106 : decode cX11_keep 106 = .ok (.iload_n 3, 1) := by decide +kernel
theorem dX11_keep_107 : decode cX11_keep 107 = .ok (.iconst 5, 1) := by decide +kernel
theorem dX11_keep_108 : decode cX11_keep 108 = .ok (.if_icmp .ge 36, 3) := by decide +kernel
theorem dX11_keep_111 : decode cX11_keep 111 = .ok (.aload_n 0, 1) := by decide +kernel
theorem dX11_keep_112 : decode cX11_keep 112 = .ok (.getfield 7, 3) := by decide +kernel
theorem dX11_keep_115 : decode cX11_keep 115 = .ok (.iload_n 1, 1) := by decide +kernel
theorem dX11_keep_116 : decode cX11_keep 116 = .ok (.iconst 2, 1) := by decide +kernel
theorem dX11_keep_117 : decode cX11_keep 117 = .ok (.iadd, 1) := by decide +kernel
theorem dX11_keep_118 : decode cX11_keep 118 = .ok (.iconst 5, 1) := by decide +kernel
theorem dX11_keep_119 : decode cX11_keep 119 = .ok (.iload_n 2, 1) := by decide +kernel
theorem dX11_keep_120 : decode cX11_keep 120 = .ok (.imul, 1) := by decide +kernel
theorem dX11_keep_121 : decode cX11_keep 121 = .ok (.iadd, 1) := by decide +kernel
theorem dX11_keep_122 : decode cX11_keep 122 = .ok (.iload_n 3, 1) := by decide +kernel
theorem dX11_keep_123 : decode cX11_keep 123 = .ok (.iadd, 1) := by decide +kernel
theorem dX11_keep_124 : decode cX11_keep 124 = .ok (.aload_n 0, 1) := by decide +kernel
theorem dX11_keep_125 : decode cX11_keep 125 = .ok (.getfield 7, 3) := by decide +kernel
theorem dX11_keep_128 : decode cX11_keep 128 = .ok (.iload_n 2, 1) := by decide +kernel
theorem dX11_keep_129 : decode cX11_keep 129 = .ok (.invokestatic 87, 3) := by decide +kernel
theorem dX11_keep_132 : decode cX11_keep 132 = .ok (.iconst 1, 1) := by decide +kernel
theorem dX11_keep_133 : decode cX11_keep 133 = .ok (.iadd, 1) := by decide +kernel
theorem dX11_keep_134 : decode cX11_keep 134 = .ok (.iload_n 3, 1) := by decide +kernel
theorem dX11_keep_135 : decode cX11_keep 135 = .ok (.iadd, 1) := by decide +kernel
theorem dX11_keep_136 : decode cX11_keep 136 = .ok (.iaload, 1) := by decide +kernel
theorem dX11_keep_137 : decode cX11_keep 137 = .ok (.iastore, 1) := by decide +kernel
theorem dX11_keep_138 : decode cX11_keep 138 = .ok (.iinc 3 1, 3) := by decide +kernel
theorem dX11_keep_141 : decode cX11_keep 141 = .ok (.goto (-35), 3) := by decide +kernel
theorem dX11_keep_144 : decode cX11_keep 144 = .ok (.iinc 2 1, 3) := by decide +kernel
theorem dX11_keep_147 : decode cX11_keep 147 = .ok (.goto (-49), 3) := by decide +kernel
theorem dX11_keep_150 : decode cX11_keep 150 = .ok (.aload_n 0, 1) := by decide +kernel
theorem dX11_keep_151 : decode cX11_keep 151 = .ok (.getfield 7, 3) := by decide +kernel
theorem dX11_keep_154 : decode cX11_keep 154 = .ok (.iconst 5, 1) := by decide +kernel
theorem dX11_keep_155 : decode cX11_keep 155 = .ok (.dup2, 1) := by decide +kernel
theorem dX11_keep_156 : decode cX11_keep 156 = .ok (.iaload, 1) := by decide +kernel
theorem dX11_keep_157 : decode cX11_keep 157 = .ok (.iconst 1, 1) := by decide +kernel
theorem dX11_keep_158 : decode cX11_keep 158 = .ok (.iadd, 1) := by decide +kernel
theorem dX11_keep_159 : decode cX11_keep 159 = .ok (.iastore, 1) := by decide +kernel
theorem dX11_keep_160 : decode cX11_keep 160 = .ok (.return_, 1) := by decide +kernel
theorem dX11_undo_0 : decode cX11_undo 0 = .ok (.aload_n 0, 1) := by decide +kernel
theorem dX11_undo_1 : decode cX11_undo 1 = .ok (.getfield 7, 3) := by decide +kernel
theorem dX11_undo_4 : decode cX11_undo 4 = .ok (.iconst 5, 1) := by decide +kernel
theorem dX11_undo_5 : decode cX11_undo 5 = .ok (.iaload, 1) := by decide +kernel
theorem dX11_undo_6 : decode cX11_undo 6 = .ok (.ifCond .ne 5, 3) := by decide +kernel
theorem dX11_undo_9 : decode cX11_undo 9 = .ok (.iconst (-1), 1) := by decide +kernel
theorem dX11_undo_10 : decode cX11_undo 10 = .ok (.ireturn, 1) := by decide +kernel
theorem dX11_undo_11 : decode cX11_undo 11 = .ok (.aload_n 0, 1) := by decide +kernel
theorem dX11_undo_12 : decode cX11_undo 12 = .ok (.getfield 7, 3) := by decide +kernel
theorem dX11_undo_15 : decode cX11_undo 15 = .ok (.iconst 5, 1) := by decide +kernel
theorem dX11_undo_16 : decode cX11_undo 16 = .ok (.dup2, 1) := by decide +kernel
theorem dX11_undo_17 : decode cX11_undo 17 = .ok (.iaload, 1) := by decide +kernel
theorem dX11_undo_18 : decode cX11_undo 18 = .ok (.iconst 1, 1) := by decide +kernel
theorem dX11_undo_19 : decode cX11_undo 19 = .ok (.isub, 1) := by decide +kernel
theorem dX11_undo_20 : decode cX11_undo 20 = .ok (.iastore, 1) := by decide +kernel
theorem dX11_undo_21 : decode cX11_undo 21 = .ok (.sipush 174, 3) := by decide +kernel
theorem dX11_undo_24 : decode cX11_undo 24 = .ok (.bipush 82, 2) := by decide +kernel
theorem dX11_undo_26 : decode cX11_undo 26 = .ok (.aload_n 0, 1) := by decide +kernel
theorem dX11_undo_27 : decode cX11_undo 27 = .ok (.getfield 7, 3) := by decide +kernel
theorem dX11_undo_30 : decode cX11_undo 30 = .ok (.iconst 5, 1) := by decide +kernel
theorem dX11_undo_31 : decode cX11_undo 31 = .ok (.iaload, 1) := by decide +kernel
theorem dX11_undo_32 : decode cX11_undo 32 = .ok (.imul, 1) := by decide +kernel
theorem dX11_undo_33 : decode cX11_undo 33 = .ok (.iadd, 1) := by decide +kernel
theorem dX11_undo_34 : decode cX11_undo 34 = .ok (.istore_n 1, 1) := by decide +kernel
theorem dX11_undo_35 : decode cX11_undo 35 = .ok (.aload_n 0, 1) := by decide +kernel
theorem dX11_undo_36 : decode cX11_undo 36 = .ok (.getfield 7, 3) := by decide +kernel
theorem dX11_undo_39 : decode cX11_undo 39 = .ok (.iconst 2, 1) := by decide +kernel
theorem dX11_undo_40 : decode cX11_undo 40 = .ok (.aload_n 0, 1) := by decide +kernel
theorem dX11_undo_41 : decode cX11_undo 41 = .ok (.getfield 7, 3) := by decide +kernel
theorem dX11_undo_44 : decode cX11_undo 44 = .ok (.iload_n 1, 1) := by decide +kernel
theorem dX11_undo_45 : decode cX11_undo 45 = .ok (.iaload, 1) := by decide +kernel
theorem dX11_undo_46 : decode cX11_undo 46 = .ok (.iastore, 1) := by decide +kernel
theorem dX11_undo_47 : decode cX11_undo 47 = .ok (.iconst 0, 1) := by decide +kernel
theorem dX11_undo_48 : decode cX11_undo 48 = .ok (.istore_n 2, 1) := by decide +kernel
theorem dX11_undo_49 : decode cX11_undo 49 = .ok (.iload_n 2, 1) := by decide +kernel
theorem dX11_undo_50 : decode cX11_undo 50 = .ok (.aload_n 0, 1) := by decide +kernel
theorem dX11_undo_51 : decode cX11_undo 51 = .ok (.getfield 7, 3) := by decide +kernel
theorem dX11_undo_54 : decode cX11_undo 54 = .ok (.iload_n 1, 1) := by decide +kernel
theorem dX11_undo_55 : decode cX11_undo 55 = .ok (.iconst 1, 1) := by decide +kernel
theorem dX11_undo_56 : decode cX11_undo 56 = .ok (.iadd, 1) := by decide +kernel
theorem dX11_undo_57 : decode cX11_undo 57 = .ok (.iaload, 1) := by decide +kernel
theorem dX11_undo_58 : decode cX11_undo 58 = .ok (.if_icmp .ge 49, 3) := by decide +kernel
theorem dX11_undo_61 : decode cX11_undo 61 = .ok (.iconst 0, 1) := by decide +kernel
theorem dX11_undo_62 : decode cX11_undo 62 = .ok (.istore_n 3, 1) := by decide +kernel
theorem dX11_undo_63 : decode cX11_undo 63 = .ok (.iload_n 3, 1) := by decide +kernel
theorem dX11_undo_64 : decode cX11_undo 64 = .ok (.iconst 5, 1) := by decide +kernel
theorem dX11_undo_65 : decode cX11_undo 65 = .ok (.if_icmp .ge 36, 3) := by decide +kernel
theorem dX11_undo_68 : decode cX11_undo 68 = .ok (.aload_n 0, 1) := by decide +kernel
theorem dX11_undo_69 : decode cX11_undo 69 = .ok (.getfield 7, 3) := by decide +kernel
theorem dX11_undo_72 : decode cX11_undo 72 = .ok (.iload_n 2, 1) := by decide +kernel
theorem dX11_undo_73 : decode cX11_undo 73 = .ok (.invokestatic 87, 3) := by decide +kernel
theorem dX11_undo_76 : decode cX11_undo 76 = .ok (.iconst 1, 1) := by decide +kernel
theorem dX11_undo_77 : decode cX11_undo 77 = .ok (.iadd, 1) := by decide +kernel
theorem dX11_undo_78 : decode cX11_undo 78 = .ok (.iload_n 3, 1) := by decide +kernel
theorem dX11_undo_79 : decode cX11_undo 79 = .ok (.iadd, 1) := by decide +kernel
theorem dX11_undo_80 : decode cX11_undo 80 = .ok (.aload_n 0, 1) := by decide +kernel
theorem dX11_undo_81 : decode cX11_undo 81 = .ok (.getfield 7, 3) := by decide +kernel
theorem dX11_undo_84 : decode cX11_undo 84 = .ok (.iload_n 1, 1) := by decide +kernel
theorem dX11_undo_85 : decode cX11_undo 85 = .ok (.iconst 2, 1) := by decide +kernel
theorem dX11_undo_86 : decode cX11_undo 86 = .ok (.iadd, 1) := by decide +kernel
theorem dX11_undo_87 : decode cX11_undo 87 = .ok (.iconst 5, 1) := by decide +kernel
theorem dX11_undo_88 : decode cX11_undo 88 = .ok (.iload_n 2, 1) := by decide +kernel
theorem dX11_undo_89 : decode cX11_undo 89 = .ok (.imul, 1) := by decide +kernel
theorem dX11_undo_90 : decode cX11_undo 90 = .ok (.iadd, 1) := by decide +kernel
theorem dX11_undo_91 : decode cX11_undo 91 = .ok (.iload_n 3, 1) := by decide +kernel
theorem dX11_undo_92 : decode cX11_undo 92 = .ok (.iadd, 1) := by decide +kernel
theorem dX11_undo_93 : decode cX11_undo 93 = .ok (.iaload, 1) := by decide +kernel
theorem dX11_undo_94 : decode cX11_undo 94 = .ok (.iastore, 1) := by decide +kernel
theorem dX11_undo_95 : decode cX11_undo 95 = .ok (.iinc 3 1, 3) := by decide +kernel
theorem dX11_undo_98 : decode cX11_undo 98 = .ok (.goto (-35), 3) := by decide +kernel
theorem dX11_undo_101 : decode cX11_undo 101 = .ok (.iinc 2 1, 3) := by decide +kernel
theorem dX11_undo_104 : decode cX11_undo 104 = .ok (.goto (-55), 3) := by decide +kernel
theorem dX11_undo_107 : decode cX11_undo 107 = .ok (.aload_n 0, 1) := by decide +kernel
theorem dX11_undo_108 : decode cX11_undo 108 = .ok (.getfield 7, 3) := by decide +kernel
theorem dX11_undo_111 : decode cX11_undo 111 = .ok (.iconst 5, 1) := by decide +kernel
theorem dX11_undo_112 : decode cX11_undo 112 = .ok (.iaload, 1) := by decide +kernel
theorem dX11_undo_113 : decode cX11_undo 113 = .ok (.ireturn, 1) := by decide +kernel
theorem dX11_prove_0 : decode cX11_prove 0 = .ok (.aload_n 0, 1) := by decide +kernel
theorem dX11_prove_1 : decode cX11_prove 1 = .ok (.iload_n 1, 1) := by decide +kernel
theorem dX11_prove_2 : decode cX11_prove 2 = .ok (.invokevirtual 83, 3) := by decide +kernel
theorem dX11_prove_5 : decode cX11_prove 5 = .ok (.ifCond .eq 30, 3) := by decide +kernel
theorem dX11_prove_8 : decode cX11_prove 8 = .ok (.aload_n 0, 1) := by decide +kernel
theorem dX11_prove_9 : decode cX11_prove 9 = .ok (.iload_n 2, 1) := by decide +kernel
theorem dX11_prove_10 : decode cX11_prove 10 = .ok (.invokevirtual 91, 3) := by decide +kernel
theorem dX11_prove_13 : decode cX11_prove 13 = .ok (.ifCond .eq 22, 3) := by decide +kernel
theorem dX11_prove_16 : decode cX11_prove 16 = .ok (.aload_n 0, 1) := by decide +kernel
theorem dX11_prove_17 : decode cX11_prove 17 = .ok (.getfield 7, 3) := by decide +kernel
theorem dX11_prove_20 : decode cX11_prove 20 = .ok (.iload_n 2, 1) := by decide +kernel
theorem dX11_prove_21 : decode cX11_prove 21 = .ok (.invokestatic 87, 3) := by decide +kernel
theorem dX11_prove_24 : decode cX11_prove 24 = .ok (.iconst 5, 1) := by decide +kernel
theorem dX11_prove_25 : decode cX11_prove 25 = .ok (.iadd, 1) := by decide +kernel
theorem dX11_prove_26 : decode cX11_prove 26 = .ok (.iaload, 1) := by decide +kernel
theorem dX11_prove_27 : decode cX11_prove 27 = .ok (.iload_n 1, 1) := by decide +kernel
theorem dX11_prove_28 : decode cX11_prove 28 = .ok (.ishr, 1) := by decide +kernel
theorem dX11_prove_29 : decode cX11_prove 29 = .ok (.iconst 1, 1) := by decide +kernel
theorem dX11_prove_30 : decode cX11_prove 30 = .ok (.iand, 1) := by decide +kernel
theorem dX11_prove_31 : decode cX11_prove 31 = .ok (.iconst 1, 1) := by decide +kernel
theorem dX11_prove_32 : decode cX11_prove 32 = .ok (.if_icmp .ne 5, 3) := by decide +kernel
theorem dX11_prove_35 : decode cX11_prove 35 = .ok (.iconst 0, 1) := by decide +kernel
theorem dX11_prove_36 : decode cX11_prove 36 = .ok (.ireturn, 1) := by decide +kernel
theorem dX11_prove_37 : decode cX11_prove 37 = .ok (.aload_n 0, 1) := by decide +kernel
theorem dX11_prove_38 : decode cX11_prove 38 = .ok (.invokevirtual 94, 3) := by decide +kernel
theorem dX11_prove_41 : decode cX11_prove 41 = .ok (.aload_n 0, 1) := by decide +kernel
theorem dX11_prove_42 : decode cX11_prove 42 = .ok (.getfield 7, 3) := by decide +kernel
theorem dX11_prove_45 : decode cX11_prove 45 = .ok (.iload_n 2, 1) := by decide +kernel
theorem dX11_prove_46 : decode cX11_prove 46 = .ok (.invokestatic 87, 3) := by decide +kernel
theorem dX11_prove_49 : decode cX11_prove 49 = .ok (.iconst 5, 1) := by decide +kernel
theorem dX11_prove_50 : decode cX11_prove 50 = .ok (.iadd, 1) := by decide +kernel
theorem dX11_prove_51 : decode cX11_prove 51 = .ok (.dup2, 1) := by decide +kernel
theorem dX11_prove_52 : decode cX11_prove 52 = .ok (.iaload, 1) := by decide +kernel
theorem dX11_prove_53 : decode cX11_prove 53 = .ok (.iconst 1, 1) := by decide +kernel
theorem dX11_prove_54 : decode cX11_prove 54 = .ok (.iload_n 1, 1) := by decide +kernel
theorem dX11_prove_55 : decode cX11_prove 55 = .ok (.ishl, 1) := by decide +kernel
theorem dX11_prove_56 : decode cX11_prove 56 = .ok (.ior, 1) := by decide +kernel
theorem dX11_prove_57 : decode cX11_prove 57 = .ok (.iastore, 1) := by decide +kernel
theorem dX11_prove_58 : decode cX11_prove 58 = .ok (.iconst 1, 1) := by decide +kernel
theorem dX11_prove_59 : decode cX11_prove 59 = .ok (.ireturn, 1) := by decide +kernel
theorem dX11_lend_0 : decode cX11_lend 0 = .ok (.aload_n 0, 1) := by decide +kernel
theorem dX11_lend_1 : decode cX11_lend 1 = .ok (.iload_n 1, 1) := by decide +kernel
theorem dX11_lend_2 : decode cX11_lend 2 = .ok (.invokevirtual 91, 3) := by decide +kernel
theorem dX11_lend_5 : decode cX11_lend 5 = .ok (.ifCond .eq 35, 3) := by decide +kernel
theorem dX11_lend_8 : decode cX11_lend 8 = .ok (.aload_n 0, 1) := by decide +kernel
theorem dX11_lend_9 : decode cX11_lend 9 = .ok (.iload_n 2, 1) := by decide +kernel
theorem dX11_lend_10 : decode cX11_lend 10 = .ok (.invokevirtual 83, 3) := by decide +kernel
theorem dX11_lend_13 : decode cX11_lend 13 = .ok (.ifCond .eq 27, 3) := by decide +kernel
theorem dX11_lend_16 : decode cX11_lend 16 = .ok (.iload_n 3, 1) := by decide +kernel
theorem dX11_lend_17 : decode cX11_lend 17 = .ok (.iconst 1, 1) := by decide +kernel
theorem dX11_lend_18 : decode cX11_lend 18 = .ok (.bipush 99, 2) := by decide +kernel
theorem dX11_lend_20 : decode cX11_lend 20 = .ok (.invokestatic 75, 3) := by decide +kernel
theorem dX11_lend_23 : decode cX11_lend 23 = .ok (.ifCond .eq 17, 3) := by decide +kernel
theorem dX11_lend_26 : decode cX11_lend 26 = .ok (.aload_n 0, 1) := by decide +kernel
theorem dX11_lend_27 : decode cX11_lend 27 = .ok (.getfield 7, 3) := by decide +kernel
theorem dX11_lend_30 : decode cX11_lend 30 = .ok (.iconst 2, 1) := by decide +kernel
theorem dX11_lend_31 : decode cX11_lend 31 = .ok (.iaload, 1) := by decide +kernel
theorem dX11_lend_32 : decode cX11_lend 32 = .ok (.iload_n 3, 1) := by decide +kernel
theorem dX11_lend_33 : decode cX11_lend 33 = .ok (.iadd, 1) := by decide +kernel
theorem dX11_lend_34 : decode cX11_lend 34 = .ok (.sipush 999, 3) := by decide +kernel
theorem dX11_lend_37 : decode cX11_lend 37 = .ok (.if_icmp .le 5, 3) := by decide +kernel
theorem dX11_lend_40 : decode cX11_lend 40 = .ok (.iconst (-1), 1) := by decide +kernel
theorem dX11_lend_41 : decode cX11_lend 41 = .ok (.ireturn, 1) := by decide +kernel
theorem dX11_lend_42 : decode cX11_lend 42 = .ok (.iload_n 1, 1) := by decide +kernel
theorem dX11_lend_43 : decode cX11_lend 43 = .ok (.invokestatic 87, 3) := by decide +kernel
theorem dX11_lend_46 : decode cX11_lend 46 = .ok (.istore 4, 2) := by decide +kernel
theorem dX11_lend_48 : decode cX11_lend 48 = .ok (.aload_n 0, 1) := by decide +kernel
theorem dX11_lend_49 : decode cX11_lend 49 = .ok (.getfield 7, 3) := by decide +kernel
theorem dX11_lend_52 : decode cX11_lend 52 = .ok (.iload 4, 2) := by decide +kernel
theorem dX11_lend_54 : decode cX11_lend 54 = .ok (.iconst 3, 1) := by decide +kernel
theorem dX11_lend_55 : decode cX11_lend 55 = .ok (.iadd, 1) := by decide +kernel
theorem dX11_lend_56 : decode cX11_lend 56 = .ok (.iaload, 1) := by decide +kernel
theorem dX11_lend_57 : decode cX11_lend 57 = .ok (.aload_n 0, 1) := by decide +kernel
theorem dX11_lend_58 : decode cX11_lend 58 = .ok (.getfield 7, 3) := by decide +kernel
theorem dX11_lend_61 : decode cX11_lend 61 = .ok (.iload 4, 2) := by decide +kernel
theorem dX11_lend_63 : decode cX11_lend 63 = .ok (.iconst 2, 1) := by decide +kernel
theorem dX11_lend_64 : decode cX11_lend 64 = .ok (.iadd, 1) := by decide +kernel
theorem dX11_lend_65 : decode cX11_lend 65 = .ok (.iaload, 1) := by decide +kernel
theorem dX11_lend_66 : decode cX11_lend 66 = .ok (.if_icmp .ne 28, 3) := by decide +kernel
theorem dX11_lend_69 : decode cX11_lend 69 = .ok (.aload_n 0, 1) := by decide +kernel
theorem dX11_lend_70 : decode cX11_lend 70 = .ok (.getfield 7, 3) := by decide +kernel
theorem dX11_lend_73 : decode cX11_lend 73 = .ok (.iload 4, 2) := by decide +kernel
theorem dX11_lend_75 : decode cX11_lend 75 = .ok (.iconst 4, 1) := by decide +kernel
theorem dX11_lend_76 : decode cX11_lend 76 = .ok (.iadd, 1) := by decide +kernel
theorem dX11_lend_77 : decode cX11_lend 77 = .ok (.iaload, 1) := by decide +kernel
theorem dX11_lend_78 : decode cX11_lend 78 = .ok (.ifCond .ge 16, 3) := by decide +kernel
theorem dX11_lend_81 : decode cX11_lend 81 = .ok (.aload_n 0, 1) := by decide +kernel
theorem dX11_lend_82 : decode cX11_lend 82 = .ok (.getfield 7, 3) := by decide +kernel
theorem dX11_lend_85 : decode cX11_lend 85 = .ok (.iload 4, 2) := by decide +kernel
theorem dX11_lend_87 : decode cX11_lend 87 = .ok (.iconst 3, 1) := by decide +kernel
theorem dX11_lend_88 : decode cX11_lend 88 = .ok (.iadd, 1) := by decide +kernel
theorem dX11_lend_89 : decode cX11_lend 89 = .ok (.iaload, 1) := by decide +kernel
theorem dX11_lend_90 : decode cX11_lend 90 = .ok (.iload_n 2, 1) := by decide +kernel
theorem dX11_lend_91 : decode cX11_lend 91 = .ok (.if_icmp .ne 5, 3) := by decide +kernel
theorem dX11_lend_94 : decode cX11_lend 94 = .ok (.iconst (-1), 1) := by decide +kernel
theorem dX11_lend_95 : decode cX11_lend 95 = .ok (.ireturn, 1) := by decide +kernel
theorem dX11_lend_96 : decode cX11_lend 96 = .ok (.aload_n 0, 1) := by decide +kernel
theorem dX11_lend_97 : decode cX11_lend 97 = .ok (.invokevirtual 94, 3) := by decide +kernel
theorem dX11_lend_100 : decode cX11_lend 100 = .ok (.aload_n 0, 1) := by decide +kernel
theorem dX11_lend_101 : decode cX11_lend 101 = .ok (.getfield 7, 3) := by decide +kernel
theorem dX11_lend_104 : decode cX11_lend 104 = .ok (.iload 4, 2) := by decide +kernel
theorem dX11_lend_106 : decode cX11_lend 106 = .ok (.iconst 3, 1) := by decide +kernel
theorem dX11_lend_107 : decode cX11_lend 107 = .ok (.iadd, 1) := by decide +kernel
theorem dX11_lend_108 : decode cX11_lend 108 = .ok (.iload_n 2, 1) := by decide +kernel
theorem dX11_lend_109 : decode cX11_lend 109 = .ok (.iastore, 1) := by decide +kernel
theorem dX11_lend_110 : decode cX11_lend 110 = .ok (.aload_n 0, 1) := by decide +kernel
theorem dX11_lend_111 : decode cX11_lend 111 = .ok (.getfield 7, 3) := by decide +kernel
theorem dX11_lend_114 : decode cX11_lend 114 = .ok (.iload 4, 2) := by decide +kernel
theorem dX11_lend_116 : decode cX11_lend 116 = .ok (.iconst 4, 1) := by decide +kernel
theorem dX11_lend_117 : decode cX11_lend 117 = .ok (.iadd, 1) := by decide +kernel
theorem dX11_lend_118 : decode cX11_lend 118 = .ok (.aload_n 0, 1) := by decide +kernel
theorem dX11_lend_119 : decode cX11_lend 119 = .ok (.getfield 7, 3) := by decide +kernel
theorem dX11_lend_122 : decode cX11_lend 122 = .ok (.iconst 2, 1) := by decide +kernel
theorem dX11_lend_123 : decode cX11_lend 123 = .ok (.iaload, 1) := by decide +kernel
theorem dX11_lend_124 : decode cX11_lend 124 = .ok (.iload_n 3, 1) := by decide +kernel
theorem dX11_lend_125 : decode cX11_lend 125 = .ok (.iadd, 1) := by decide +kernel
theorem dX11_lend_126 : decode cX11_lend 126 = .ok (.iastore, 1) := by decide +kernel
theorem dX11_lend_127 : decode cX11_lend 127 = .ok (.aload_n 0, 1) := by decide +kernel
theorem dX11_lend_128 : decode cX11_lend 128 = .ok (.getfield 7, 3) := by decide +kernel
theorem dX11_lend_131 : decode cX11_lend 131 = .ok (.iload 4, 2) := by decide +kernel
theorem dX11_lend_133 : decode cX11_lend 133 = .ok (.iconst 4, 1) := by decide +kernel
theorem dX11_lend_134 : decode cX11_lend 134 = .ok (.iadd, 1) := by decide +kernel
theorem dX11_lend_135 : decode cX11_lend 135 = .ok (.iaload, 1) := by decide +kernel
theorem dX11_lend_136 : decode cX11_lend 136 = .ok (.ireturn, 1) := by decide +kernel
theorem dX11_swap_0 : decode cX11_swap 0 = .ok (.aload_n 0, 1) := by decide +kernel
theorem dX11_swap_1 : decode cX11_swap 1 = .ok (.iload_n 1, 1) := by decide +kernel
theorem dX11_swap_2 : decode cX11_swap 2 = .ok (.invokevirtual 91, 3) := by decide +kernel
theorem dX11_swap_5 : decode cX11_swap 5 = .ok (.ifCond .eq 36, 3) := by decide +kernel
theorem dX11_swap_8 : decode cX11_swap 8 = .ok (.aload_n 0, 1) := by decide +kernel
theorem dX11_swap_9 : decode cX11_swap 9 = .ok (.iload_n 2, 1) := by decide +kernel
theorem dX11_swap_10 : decode cX11_swap 10 = .ok (.invokevirtual 91, 3) := by decide +kernel
theorem dX11_swap_13 : decode cX11_swap 13 = .ok (.ifCond .eq 28, 3) := by decide +kernel
theorem dX11_swap_16 : decode cX11_swap 16 = .ok (.aload_n 0, 1) := by decide +kernel
theorem dX11_swap_17 : decode cX11_swap 17 = .ok (.getfield 7, 3) := by decide +kernel
theorem dX11_swap_20 : decode cX11_swap 20 = .ok (.iload_n 1, 1) := by decide +kernel
theorem dX11_swap_21 : decode cX11_swap 21 = .ok (.invokestatic 87, 3) := by decide +kernel
theorem dX11_swap_24 : decode cX11_swap 24 = .ok (.iconst 3, 1) := by decide +kernel
theorem dX11_swap_25 : decode cX11_swap 25 = .ok (.iadd, 1) := by decide +kernel
theorem dX11_swap_26 : decode cX11_swap 26 = .ok (.iaload, 1) := by decide +kernel
theorem dX11_swap_27 : decode cX11_swap 27 = .ok (.aload_n 0, 1) := by decide +kernel
theorem dX11_swap_28 : decode cX11_swap 28 = .ok (.getfield 7, 3) := by decide +kernel
theorem dX11_swap_31 : decode cX11_swap 31 = .ok (.iload_n 2, 1) := by decide +kernel
theorem dX11_swap_32 : decode cX11_swap 32 = .ok (.invokestatic 87, 3) := by decide +kernel
theorem dX11_swap_35 : decode cX11_swap 35 = .ok (.iconst 3, 1) := by decide +kernel
theorem dX11_swap_36 : decode cX11_swap 36 = .ok (.iadd, 1) := by decide +kernel
theorem dX11_swap_37 : decode cX11_swap 37 = .ok (.iaload, 1) := by decide +kernel
theorem dX11_swap_38 : decode cX11_swap 38 = .ok (.if_icmp .ne 5, 3) := by decide +kernel
theorem dX11_swap_41 : decode cX11_swap 41 = .ok (.iconst 0, 1) := by decide +kernel
theorem dX11_swap_42 : decode cX11_swap 42 = .ok (.ireturn, 1) := by decide +kernel
theorem dX11_swap_43 : decode cX11_swap 43 = .ok (.aload_n 0, 1) := by decide +kernel
theorem dX11_swap_44 : decode cX11_swap 44 = .ok (.invokevirtual 94, 3) := by decide +kernel
theorem dX11_swap_47 : decode cX11_swap 47 = .ok (.aload_n 0, 1) := by decide +kernel
theorem dX11_swap_48 : decode cX11_swap 48 = .ok (.getfield 7, 3) := by decide +kernel
theorem dX11_swap_51 : decode cX11_swap 51 = .ok (.iload_n 1, 1) := by decide +kernel
theorem dX11_swap_52 : decode cX11_swap 52 = .ok (.invokestatic 87, 3) := by decide +kernel
theorem dX11_swap_55 : decode cX11_swap 55 = .ok (.iconst 3, 1) := by decide +kernel
theorem dX11_swap_56 : decode cX11_swap 56 = .ok (.iadd, 1) := by decide +kernel
theorem dX11_swap_57 : decode cX11_swap 57 = .ok (.iaload, 1) := by decide +kernel
theorem dX11_swap_58 : decode cX11_swap 58 = .ok (.istore_n 3, 1) := by decide +kernel
theorem dX11_swap_59 : decode cX11_swap 59 = .ok (.aload_n 0, 1) := by decide +kernel
theorem dX11_swap_60 : decode cX11_swap 60 = .ok (.getfield 7, 3) := by decide +kernel
theorem dX11_swap_63 : decode cX11_swap 63 = .ok (.iload_n 1, 1) := by decide +kernel
theorem dX11_swap_64 : decode cX11_swap 64 = .ok (.invokestatic 87, 3) := by decide +kernel
theorem dX11_swap_67 : decode cX11_swap 67 = .ok (.iconst 3, 1) := by decide +kernel
theorem dX11_swap_68 : decode cX11_swap 68 = .ok (.iadd, 1) := by decide +kernel
theorem dX11_swap_69 : decode cX11_swap 69 = .ok (.aload_n 0, 1) := by decide +kernel
theorem dX11_swap_70 : decode cX11_swap 70 = .ok (.getfield 7, 3) := by decide +kernel
theorem dX11_swap_73 : decode cX11_swap 73 = .ok (.iload_n 2, 1) := by decide +kernel
theorem dX11_swap_74 : decode cX11_swap 74 = .ok (.invokestatic 87, 3) := by decide +kernel
theorem dX11_swap_77 : decode cX11_swap 77 = .ok (.iconst 3, 1) := by decide +kernel
theorem dX11_swap_78 : decode cX11_swap 78 = .ok (.iadd, 1) := by decide +kernel
theorem dX11_swap_79 : decode cX11_swap 79 = .ok (.iaload, 1) := by decide +kernel
theorem dX11_swap_80 : decode cX11_swap 80 = .ok (.iastore, 1) := by decide +kernel
theorem dX11_swap_81 : decode cX11_swap 81 = .ok (.aload_n 0, 1) := by decide +kernel
theorem dX11_swap_82 : decode cX11_swap 82 = .ok (.getfield 7, 3) := by decide +kernel
theorem dX11_swap_85 : decode cX11_swap 85 = .ok (.iload_n 2, 1) := by decide +kernel
theorem dX11_swap_86 : decode cX11_swap 86 = .ok (.invokestatic 87, 3) := by decide +kernel
theorem dX11_swap_89 : decode cX11_swap 89 = .ok (.iconst 3, 1) := by decide +kernel
theorem dX11_swap_90 : decode cX11_swap 90 = .ok (.iadd, 1) := by decide +kernel
theorem dX11_swap_91 : decode cX11_swap 91 = .ok (.iload_n 3, 1) := by decide +kernel
theorem dX11_swap_92 : decode cX11_swap 92 = .ok (.iastore, 1) := by decide +kernel
theorem dX11_swap_93 : decode cX11_swap 93 = .ok (.iconst 1, 1) := by decide +kernel
theorem dX11_swap_94 : decode cX11_swap 94 = .ok (.ireturn, 1) := by decide +kernel
theorem dX11_steal_0 : decode cX11_steal 0 = .ok (.aload_n 0, 1) := by decide +kernel
theorem dX11_steal_1 : decode cX11_steal 1 = .ok (.iload_n 1, 1) := by decide +kernel
theorem dX11_steal_2 : decode cX11_steal 2 = .ok (.invokevirtual 91, 3) := by decide +kernel
theorem dX11_steal_5 : decode cX11_steal 5 = .ok (.ifCond .eq 26, 3) := by decide +kernel
theorem dX11_steal_8 : decode cX11_steal 8 = .ok (.aload_n 0, 1) := by decide +kernel
theorem dX11_steal_9 : decode cX11_steal 9 = .ok (.iload_n 2, 1) := by decide +kernel
theorem dX11_steal_10 : decode cX11_steal 10 = .ok (.invokevirtual 83, 3) := by decide +kernel
theorem dX11_steal_13 : decode cX11_steal 13 = .ok (.ifCond .eq 18, 3) := by decide +kernel
theorem dX11_steal_16 : decode cX11_steal 16 = .ok (.aload_n 0, 1) := by decide +kernel
theorem dX11_steal_17 : decode cX11_steal 17 = .ok (.getfield 7, 3) := by decide +kernel
theorem dX11_steal_20 : decode cX11_steal 20 = .ok (.iload_n 1, 1) := by decide +kernel
theorem dX11_steal_21 : decode cX11_steal 21 = .ok (.invokestatic 87, 3) := by decide +kernel
theorem dX11_steal_24 : decode cX11_steal 24 = .ok (.iconst 3, 1) := by decide +kernel
theorem dX11_steal_25 : decode cX11_steal 25 = .ok (.iadd, 1) := by decide +kernel
theorem dX11_steal_26 : decode cX11_steal 26 = .ok (.iaload, 1) := by decide +kernel
theorem dX11_steal_27 : decode cX11_steal 27 = .ok (.iload_n 2, 1) := by decide +kernel
theorem dX11_steal_28 : decode cX11_steal 28 = .ok (.if_icmp .ne 5, 3) := by decide +kernel
theorem dX11_steal_31 : decode cX11_steal 31 = .ok (.iconst 0, 1) := by decide +kernel
theorem dX11_steal_32 : decode cX11_steal 32 = .ok (.ireturn, 1) := by decide +kernel
theorem dX11_steal_33 : decode cX11_steal 33 = .ok (.aload_n 0, 1) := by decide +kernel
theorem dX11_steal_34 : decode cX11_steal 34 = .ok (.invokevirtual 94, 3) := by decide +kernel
theorem dX11_steal_37 : decode cX11_steal 37 = .ok (.iload_n 1, 1) := by decide +kernel
theorem dX11_steal_38 : decode cX11_steal 38 = .ok (.invokestatic 87, 3) := by decide +kernel
theorem dX11_steal_41 : decode cX11_steal 41 = .ok (.istore_n 3, 1) := by decide +kernel
theorem dX11_steal_42 : decode cX11_steal 42 = .ok (.aload_n 0, 1) := by decide +kernel
theorem dX11_steal_43 : decode cX11_steal 43 = .ok (.getfield 7, 3) := by decide +kernel
theorem dX11_steal_46 : decode cX11_steal 46 = .ok (.iload_n 3, 1) := by decide +kernel
theorem dX11_steal_47 : decode cX11_steal 47 = .ok (.iconst 2, 1) := by decide +kernel
theorem dX11_steal_48 : decode cX11_steal 48 = .ok (.iadd, 1) := by decide +kernel
theorem dX11_steal_49 : decode cX11_steal 49 = .ok (.iload_n 2, 1) := by decide +kernel
theorem dX11_steal_50 : decode cX11_steal 50 = .ok (.iastore, 1) := by decide +kernel
theorem dX11_steal_51 : decode cX11_steal 51 = .ok (.aload_n 0, 1) := by decide +kernel
theorem dX11_steal_52 : decode cX11_steal 52 = .ok (.getfield 7, 3) := by decide +kernel
theorem dX11_steal_55 : decode cX11_steal 55 = .ok (.iload_n 3, 1) := by decide +kernel
theorem dX11_steal_56 : decode cX11_steal 56 = .ok (.iconst 3, 1) := by decide +kernel
theorem dX11_steal_57 : decode cX11_steal 57 = .ok (.iadd, 1) := by decide +kernel
theorem dX11_steal_58 : decode cX11_steal 58 = .ok (.iload_n 2, 1) := by decide +kernel
theorem dX11_steal_59 : decode cX11_steal 59 = .ok (.iastore, 1) := by decide +kernel
theorem dX11_steal_60 : decode cX11_steal 60 = .ok (.aload_n 0, 1) := by decide +kernel
theorem dX11_steal_61 : decode cX11_steal 61 = .ok (.getfield 7, 3) := by decide +kernel
theorem dX11_steal_64 : decode cX11_steal 64 = .ok (.iload_n 3, 1) := by decide +kernel
theorem dX11_steal_65 : decode cX11_steal 65 = .ok (.iconst 4, 1) := by decide +kernel
theorem dX11_steal_66 : decode cX11_steal 66 = .ok (.iadd, 1) := by decide +kernel
theorem dX11_steal_67 : decode cX11_steal 67 = .ok (.iconst (-1), 1) := by decide +kernel
theorem dX11_steal_68 : decode cX11_steal 68 = .ok (.iastore, 1) := by decide +kernel
theorem dX11_steal_69 : decode cX11_steal 69 = .ok (.iconst 1, 1) := by decide +kernel
theorem dX11_steal_70 : decode cX11_steal 70 = .ok (.ireturn, 1) := by decide +kernel
theorem dX11_burn_0 : decode cX11_burn 0 = .ok (.aload_n 0, 1) := by decide +kernel
theorem dX11_burn_1 : decode cX11_burn 1 = .ok (.iload_n 1, 1) := by decide +kernel
theorem dX11_burn_2 : decode cX11_burn 2 = .ok (.invokevirtual 83, 3) := by decide +kernel
theorem dX11_burn_5 : decode cX11_burn 5 = .ok (.ifCond .ne 5, 3) := by decide +kernel
theorem dX11_burn_8 : decode cX11_burn 8 = .ok (.iconst (-1), 1) := by decide +kernel
theorem dX11_burn_9 : decode cX11_burn 9 = .ok (.ireturn, 1) := by decide +kernel
theorem dX11_burn_10 : decode cX11_burn 10 = .ok (.aload_n 0, 1) := by decide +kernel
theorem dX11_burn_11 : decode cX11_burn 11 = .ok (.invokevirtual 94, 3) := by decide +kernel
theorem dX11_burn_14 : decode cX11_burn 14 = .ok (.aload_n 0, 1) := by decide +kernel
theorem dX11_burn_15 : decode cX11_burn 15 = .ok (.iload_n 1, 1) := by decide +kernel
theorem dX11_burn_16 : decode cX11_burn 16 = .ok (.invokevirtual 97, 3) := by decide +kernel
theorem dX11_burn_19 : decode cX11_burn 19 = .ok (.istore_n 2, 1) := by decide +kernel
theorem dX11_burn_20 : decode cX11_burn 20 = .ok (.iconst 0, 1) := by decide +kernel
theorem dX11_burn_21 : decode cX11_burn 21 = .ok (.istore_n 3, 1) := by decide +kernel
theorem dX11_burn_22 : decode cX11_burn 22 = .ok (.iload_n 3, 1) := by decide +kernel
theorem dX11_burn_23 : decode cX11_burn 23 = .ok (.aload_n 0, 1) := by decide +kernel
theorem dX11_burn_24 : decode cX11_burn 24 = .ok (.getfield 7, 3) := by decide +kernel
theorem dX11_burn_27 : decode cX11_burn 27 = .ok (.iconst 1, 1) := by decide +kernel
theorem dX11_burn_28 : decode cX11_burn 28 = .ok (.iaload, 1) := by decide +kernel
theorem dX11_burn_29 : decode cX11_burn 29 = .ok (.if_icmp .ge 28, 3) := by decide +kernel
theorem dX11_burn_32 : decode cX11_burn 32 = .ok (.aload_n 0, 1) := by decide +kernel
theorem dX11_burn_33 : decode cX11_burn 33 = .ok (.getfield 7, 3) := by decide +kernel
theorem dX11_burn_36 : decode cX11_burn 36 = .ok (.iload_n 3, 1) := by decide +kernel
theorem dX11_burn_37 : decode cX11_burn 37 = .ok (.invokestatic 87, 3) := by decide +kernel
theorem dX11_burn_40 : decode cX11_burn 40 = .ok (.iconst 5, 1) := by decide +kernel
theorem dX11_burn_41 : decode cX11_burn 41 = .ok (.iadd, 1) := by decide +kernel
theorem dX11_burn_42 : decode cX11_burn 42 = .ok (.dup2, 1) := by decide +kernel
theorem dX11_burn_43 : decode cX11_burn 43 = .ok (.iaload, 1) := by decide +kernel
theorem dX11_burn_44 : decode cX11_burn 44 = .ok (.iconst 1, 1) := by decide +kernel
theorem dX11_burn_45 : decode cX11_burn 45 = .ok (.iload_n 1, 1) := by decide +kernel
theorem dX11_burn_46 : decode cX11_burn 46 = .ok (.ishl, 1) := by decide +kernel
theorem dX11_burn_47 : decode cX11_burn 47 = .ok (.iconst (-1), 1) := by decide +kernel
theorem dX11_burn_48 : decode cX11_burn 48 = .ok (.ixor, 1) := by decide +kernel
theorem dX11_burn_49 : decode cX11_burn 49 = .ok (.iand, 1) := by decide +kernel
theorem dX11_burn_50 : decode cX11_burn 50 = .ok (.iastore, 1) := by decide +kernel
theorem dX11_burn_51 : decode cX11_burn 51 = .ok (.iinc 3 1, 3) := by decide +kernel
theorem dX11_burn_54 : decode cX11_burn 54 = .ok (.goto (-32), 3) := by decide +kernel
theorem dX11_burn_57 : decode cX11_burn 57 = .ok (.iload_n 2, 1) := by decide +kernel
theorem dX11_burn_58 : decode cX11_burn 58 = .ok (.ireturn, 1) := by decide +kernel
theorem dX11_proofsOf_0 : decode cX11_proofsOf 0 = .ok (.iconst 0, 1) := by decide +kernel
theorem dX11_proofsOf_1 : decode cX11_proofsOf 1 = .ok (.istore_n 2, 1) := by decide +kernel
theorem dX11_proofsOf_2 : decode cX11_proofsOf 2 = .ok (.iconst 0, 1) := by decide +kernel
theorem dX11_proofsOf_3 : decode cX11_proofsOf 3 = .ok (.istore_n 3, 1) := by decide +kernel
theorem dX11_proofsOf_4 : decode cX11_proofsOf 4 = .ok (.iload_n 3, 1) := by decide +kernel
theorem dX11_proofsOf_5 : decode cX11_proofsOf 5 = .ok (.aload_n 0, 1) := by decide +kernel
theorem dX11_proofsOf_6 : decode cX11_proofsOf 6 = .ok (.getfield 7, 3) := by decide +kernel
theorem dX11_proofsOf_9 : decode cX11_proofsOf 9 = .ok (.iconst 1, 1) := by decide +kernel
theorem dX11_proofsOf_10 : decode cX11_proofsOf 10 = .ok (.iaload, 1) := by decide +kernel
theorem dX11_proofsOf_11 : decode cX11_proofsOf 11 = .ok (.if_icmp .ge 27, 3) := by decide +kernel
theorem dX11_proofsOf_14 : decode cX11_proofsOf 14 = .ok (.iload_n 2, 1) := by decide +kernel
theorem dX11_proofsOf_15 : decode cX11_proofsOf 15 = .ok (.aload_n 0, 1) := by decide +kernel
theorem dX11_proofsOf_16 : decode cX11_proofsOf 16 = .ok (.getfield 7, 3) := by decide +kernel
theorem dX11_proofsOf_19 : decode cX11_proofsOf 19 = .ok (.iload_n 3, 1) := by decide +kernel
theorem dX11_proofsOf_20 : decode cX11_proofsOf 20 = .ok (.invokestatic 87, 3) := by decide +kernel
theorem dX11_proofsOf_23 : decode cX11_proofsOf 23 = .ok (.iconst 5, 1) := by decide +kernel
theorem dX11_proofsOf_24 : decode cX11_proofsOf 24 = .ok (.iadd, 1) := by decide +kernel
theorem dX11_proofsOf_25 : decode cX11_proofsOf 25 = .ok (.iaload, 1) := by decide +kernel
theorem dX11_proofsOf_26 : decode cX11_proofsOf 26 = .ok (.iload_n 1, 1) := by decide +kernel
theorem dX11_proofsOf_27 : decode cX11_proofsOf 27 = .ok (.ishr, 1) := by decide +kernel
theorem dX11_proofsOf_28 : decode cX11_proofsOf 28 = .ok (.iconst 1, 1) := by decide +kernel
theorem dX11_proofsOf_29 : decode cX11_proofsOf 29 = .ok (.iand, 1) := by decide +kernel
theorem dX11_proofsOf_30 : decode cX11_proofsOf 30 = .ok (.iadd, 1) := by decide +kernel
theorem dX11_proofsOf_31 : decode cX11_proofsOf 31 = .ok (.istore_n 2, 1) := by decide +kernel
theorem dX11_proofsOf_32 : decode cX11_proofsOf 32 = .ok (.iinc 3 1, 3) := by decide +kernel
theorem dX11_proofsOf_35 : decode cX11_proofsOf 35 = .ok (.goto (-31), 3) := by decide +kernel
theorem dX11_proofsOf_38 : decode cX11_proofsOf 38 = .ok (.iload_n 2, 1) := by decide +kernel
theorem dX11_proofsOf_39 : decode cX11_proofsOf 39 = .ok (.ireturn, 1) := by decide +kernel
theorem dX11_pass_0 : decode cX11_pass 0 = .ok (.iload_n 1, 1) := by decide +kernel
theorem dX11_pass_1 : decode cX11_pass 1 = .ok (.iconst 0, 1) := by decide +kernel
theorem dX11_pass_2 : decode cX11_pass 2 = .ok (.bipush 99, 2) := by decide +kernel
theorem dX11_pass_4 : decode cX11_pass 4 = .ok (.invokestatic 75, 3) := by decide +kernel
theorem dX11_pass_7 : decode cX11_pass 7 = .ok (.ifCond .eq 17, 3) := by decide +kernel
theorem dX11_pass_10 : decode cX11_pass 10 = .ok (.aload_n 0, 1) := by decide +kernel
theorem dX11_pass_11 : decode cX11_pass 11 = .ok (.getfield 7, 3) := by decide +kernel
theorem dX11_pass_14 : decode cX11_pass 14 = .ok (.iconst 2, 1) := by decide +kernel
theorem dX11_pass_15 : decode cX11_pass 15 = .ok (.iaload, 1) := by decide +kernel
theorem dX11_pass_16 : decode cX11_pass 16 = .ok (.iload_n 1, 1) := by decide +kernel
theorem dX11_pass_17 : decode cX11_pass 17 = .ok (.iadd, 1) := by decide +kernel
theorem dX11_pass_18 : decode cX11_pass 18 = .ok (.sipush 999, 3) := by decide +kernel
theorem dX11_pass_21 : decode cX11_pass 21 = .ok (.if_icmp .le 5, 3) := by decide +kernel
theorem dX11_pass_24 : decode cX11_pass 24 = .ok (.iconst (-1), 1) := by decide +kernel
theorem dX11_pass_25 : decode cX11_pass 25 = .ok (.ireturn, 1) := by decide +kernel
theorem dX11_pass_26 : decode cX11_pass 26 = .ok (.aload_n 0, 1) := by decide +kernel
theorem dX11_pass_27 : decode cX11_pass 27 = .ok (.invokevirtual 94, 3) := by decide +kernel
theorem dX11_pass_30 : decode cX11_pass 30 = .ok (.iconst 0, 1) := by decide +kernel
theorem dX11_pass_31 : decode cX11_pass 31 = .ok (.istore_n 2, 1) := by decide +kernel
theorem dX11_pass_32 : decode cX11_pass 32 = .ok (.iload_n 2, 1) := by decide +kernel
theorem dX11_pass_33 : decode cX11_pass 33 = .ok (.iload_n 1, 1) := by decide +kernel
theorem dX11_pass_34 : decode cX11_pass 34 = .ok (.if_icmp .ge 13, 3) := by decide +kernel
theorem dX11_pass_37 : decode cX11_pass 37 = .ok (.aload_n 0, 1) := by decide +kernel
theorem dX11_pass_38 : decode cX11_pass 38 = .ok (.invokevirtual 100, 3) := by decide +kernel
theorem dX11_pass_41 : decode cX11_pass 41 = .ok (.iinc 2 1, 3) := by decide +kernel
theorem dX11_pass_44 : decode cX11_pass 44 = .ok (.goto (-12), 3) := by decide +kernel
theorem dX11_pass_47 : decode cX11_pass 47 = .ok (.aload_n 0, 1) := by decide +kernel
theorem dX11_pass_48 : decode cX11_pass 48 = .ok (.getfield 7, 3) := by decide +kernel
theorem dX11_pass_51 : decode cX11_pass 51 = .ok (.iconst 2, 1) := by decide +kernel
theorem dX11_pass_52 : decode cX11_pass 52 = .ok (.iaload, 1) := by decide +kernel
theorem dX11_pass_53 : decode cX11_pass 53 = .ok (.ireturn, 1) := by decide +kernel
theorem dX11_passOne_0 : decode cX11_passOne 0 = .ok (.aload_n 0, 1) := by decide +kernel
theorem dX11_passOne_1 : decode cX11_passOne 1 = .ok (.getfield 7, 3) := by decide +kernel
theorem dX11_passOne_4 : decode cX11_passOne 4 = .ok (.iconst 2, 1) := by decide +kernel
theorem dX11_passOne_5 : decode cX11_passOne 5 = .ok (.dup2, 1) := by decide +kernel
theorem dX11_passOne_6 : decode cX11_passOne 6 = .ok (.iaload, 1) := by decide +kernel
theorem dX11_passOne_7 : decode cX11_passOne 7 = .ok (.iconst 1, 1) := by decide +kernel
theorem dX11_passOne_8 : decode cX11_passOne 8 = .ok (.iadd, 1) := by decide +kernel
theorem dX11_passOne_9 : decode cX11_passOne 9 = .ok (.iastore, 1) := by decide +kernel
theorem dX11_passOne_10 : decode cX11_passOne 10 = .ok (.aload_n 0, 1) := by decide +kernel
theorem dX11_passOne_11 : decode cX11_passOne 11 = .ok (.iconst 0, 1) := by decide +kernel
theorem dX11_passOne_12 : decode cX11_passOne 12 = .ok (.invokevirtual 103, 3) := by decide +kernel
theorem dX11_passOne_15 : decode cX11_passOne 15 = .ok (.istore_n 1, 1) := by decide +kernel
theorem dX11_passOne_16 : decode cX11_passOne 16 = .ok (.iconst 0, 1) := by decide +kernel
theorem dX11_passOne_17 : decode cX11_passOne 17 = .ok (.istore_n 2, 1) := by decide +kernel
theorem dX11_passOne_18 : decode cX11_passOne 18 = .ok (.iload_n 2, 1) := by decide +kernel
theorem dX11_passOne_19 : decode cX11_passOne 19 = .ok (.aload_n 0, 1) := by decide +kernel
theorem dX11_passOne_20 : decode cX11_passOne 20 = .ok (.getfield 7, 3) := by decide +kernel
theorem dX11_passOne_23 : decode cX11_passOne 23 = .ok (.iconst 1, 1) := by decide +kernel
theorem dX11_passOne_24 : decode cX11_passOne 24 = .ok (.iaload, 1) := by decide +kernel
theorem dX11_passOne_25 : decode cX11_passOne 25 = .ok (.if_icmp .ge 129, 3) := by decide +kernel
theorem dX11_passOne_28 : decode cX11_passOne 28 = .ok (.iload_n 2, 1) := by decide +kernel
theorem dX11_passOne_29 : decode cX11_passOne 29 = .ok (.invokestatic 87, 3) := by decide +kernel
theorem dX11_passOne_32 : decode cX11_passOne 32 = .ok (.istore_n 3, 1) := by decide +kernel
theorem dX11_passOne_33 : decode cX11_passOne 33 = .ok (.iload_n 1, 1) := by decide +kernel
theorem dX11_passOne_34 : decode cX11_passOne 34 = .ok (.ifCond .lt 69, 3) := by decide +kernel
theorem dX11_passOne_37 : decode cX11_passOne 37 = .ok (.aload_n 0, 1) := by decide +kernel
theorem dX11_passOne_38 : decode cX11_passOne 38 = .ok (.iload_n 2, 1) := by decide +kernel
theorem dX11_passOne_39 : decode cX11_passOne 39 = .ok (.iconst 0, 1) := by decide +kernel
theorem dX11_passOne_40 : decode cX11_passOne 40 = .ok (.invokevirtual 106, 3) := by decide +kernel
theorem dX11_passOne_43 : decode cX11_passOne 43 = .ok (.aload_n 0, 1) := by decide +kernel
theorem dX11_passOne_44 : decode cX11_passOne 44 = .ok (.iload_n 1, 1) := by decide +kernel
theorem dX11_passOne_45 : decode cX11_passOne 45 = .ok (.invokevirtual 110, 3) := by decide +kernel
theorem dX11_passOne_48 : decode cX11_passOne 48 = .ok (.aload_n 0, 1) := by decide +kernel
theorem dX11_passOne_49 : decode cX11_passOne 49 = .ok (.getfield 7, 3) := by decide +kernel
theorem dX11_passOne_52 : decode cX11_passOne 52 = .ok (.iload_n 3, 1) := by decide +kernel
theorem dX11_passOne_53 : decode cX11_passOne 53 = .ok (.iconst 1, 1) := by decide +kernel
theorem dX11_passOne_54 : decode cX11_passOne 54 = .ok (.iadd, 1) := by decide +kernel
theorem dX11_passOne_55 : decode cX11_passOne 55 = .ok (.iaload, 1) := by decide +kernel
theorem dX11_passOne_56 : decode cX11_passOne 56 = .ok (.i2l, 1) := by decide +kernel
theorem dX11_passOne_57 : decode cX11_passOne 57 = .ok (.aload_n 0, 1) := by decide +kernel
theorem dX11_passOne_58 : decode cX11_passOne 58 = .ok (.getfield 35, 3) := by decide +kernel
theorem dX11_passOne_61 : decode cX11_passOne 61 = .ok (.iconst 0, 1) := by decide +kernel
theorem dX11_passOne_62 : decode cX11_passOne 62 = .ok (.laload, 1) := by decide +kernel
theorem dX11_passOne_63 : decode cX11_passOne 63 = .ok (.lconst 0, 1) := by decide +kernel
theorem dX11_passOne_64 : decode cX11_passOne 64 = .ok (.lcmp, 1) := by decide +kernel
theorem dX11_passOne_65 : decode cX11_passOne 65 = .ok (.ifCond .ge 7, 3) := by decide +kernel
theorem dX11_passOne_68 : decode cX11_passOne 68 = .ok (.lconst 0, 1) := by decide +kernel
theorem dX11_passOne_69 : decode cX11_passOne 69 = .ok (.goto 9, 3) := by decide +kernel
theorem dX11_passOne_72 : decode cX11_passOne 72 = .ok (.aload_n 0, 1) := by decide +kernel
theorem dX11_passOne_73 : decode cX11_passOne 73 = .ok (.getfield 35, 3) := by decide +kernel
theorem dX11_passOne_76 : decode cX11_passOne 76 = .ok (.iconst 0, 1) := by decide +kernel
theorem dX11_passOne_77 : decode cX11_passOne 77 = .ok (.laload, 1) := by decide +kernel
theorem dX11_passOne_78 : decode cX11_passOne 78 = .ok (.lsub, 1) := by decide +kernel
theorem dX11_passOne_79 : decode cX11_passOne 79 = .ok (.lstore 4, 2) := by decide +kernel
theorem dX11_passOne_81 : decode cX11_passOne 81 = .ok (.aload_n 0, 1) := by decide +kernel
theorem dX11_passOne_82 : decode cX11_passOne 82 = .ok (.getfield 7, 3) := by decide +kernel
theorem dX11_passOne_85 : decode cX11_passOne 85 = .ok (.iload_n 3, 1) := by decide +kernel
theorem dX11_passOne_86 : decode cX11_passOne 86 = .ok (.iconst 1, 1) := by decide +kernel
theorem dX11_passOne_87 : decode cX11_passOne 87 = .ok (.iadd, 1) := by decide +kernel
theorem dX11_passOne_88 : decode cX11_passOne 88 = .ok (.lload 4, 2) := by decide +kernel
theorem dX11_passOne_90 : decode cX11_passOne 90 = .ok (.lconst 1, 1) := by decide +kernel
theorem dX11_passOne_91 : decode cX11_passOne 91 = .ok (.lcmp, 1) := by decide +kernel
theorem dX11_passOne_92 : decode cX11_passOne 92 = .ok (.ifCond .ge 7, 3) := by decide +kernel
theorem dX11_passOne_95 : decode cX11_passOne 95 = .ok (.iconst 1, 1) := by decide +kernel
theorem dX11_passOne_96 : decode cX11_passOne 96 = .ok (.goto 6, 3) := by decide +kernel
theorem dX11_passOne_99 : decode cX11_passOne 99 = .ok (.lload 4, 2) := by decide +kernel
theorem dX11_passOne_101 : decode cX11_passOne 101 = .ok (.l2i, 1) := by decide +kernel
theorem dX11_passOne_102 : decode cX11_passOne 102 = .ok (.iastore, 1) := by decide +kernel
theorem dX11_passOne_103 : decode cX11_passOne 103 = .ok (.aload_n 0, 1) := by decide +kernel
theorem dX11_passOne_104 : decode cX11_passOne 104 = .ok (.getfield 7, 3) := by decide +kernel
theorem dX11_passOne_107 : decode cX11_passOne 107 = .ok (.iload_n 3, 1) := by decide +kernel
theorem dX11_passOne_108 : decode cX11_passOne 108 = .ok (.iconst 4, 1) := by decide +kernel
theorem dX11_passOne_109 : decode cX11_passOne 109 = .ok (.iadd, 1) := by decide +kernel
theorem dX11_passOne_110 : decode cX11_passOne 110 = .ok (.iaload, 1) := by decide +kernel
theorem dX11_passOne_111 : decode cX11_passOne 111 = .ok (.aload_n 0, 1) := by decide +kernel
theorem dX11_passOne_112 : decode cX11_passOne 112 = .ok (.getfield 7, 3) := by decide +kernel
theorem dX11_passOne_115 : decode cX11_passOne 115 = .ok (.iconst 2, 1) := by decide +kernel
theorem dX11_passOne_116 : decode cX11_passOne 116 = .ok (.iaload, 1) := by decide +kernel
theorem dX11_passOne_117 : decode cX11_passOne 117 = .ok (.if_icmp .eq 6, 3) := by decide +kernel
theorem dX11_passOne_120 : decode cX11_passOne 120 = .ok (.goto 28, 3) := by decide +kernel
theorem dX11_passOne_123 : decode cX11_passOne 123 = .ok (.aload_n 0, 1) := by decide +kernel
theorem dX11_passOne_124 : decode cX11_passOne 124 = .ok (.getfield 7, 3) := by decide +kernel
theorem dX11_passOne_127 : decode cX11_passOne 127 = .ok (.iload_n 3, 1) := by decide +kernel
theorem dX11_passOne_128 : decode cX11_passOne 128 = .ok (.iconst 3, 1) := by decide +kernel
theorem dX11_passOne_129 : decode cX11_passOne 129 = .ok (.iadd, 1) := by decide +kernel
theorem dX11_passOne_130 : decode cX11_passOne 130 = .ok (.aload_n 0, 1) := by decide +kernel
theorem dX11_passOne_131 : decode cX11_passOne 131 = .ok (.getfield 7, 3) := by decide +kernel
theorem dX11_passOne_134 : decode cX11_passOne 134 = .ok (.iload_n 3, 1) := by decide +kernel
theorem dX11_passOne_135 : decode cX11_passOne 135 = .ok (.iconst 2, 1) := by decide +kernel
theorem dX11_passOne_136 : decode cX11_passOne 136 = .ok (.iadd, 1) := by decide +kernel
theorem dX11_passOne_137 : decode cX11_passOne 137 = .ok (.iaload, 1) := by decide +kernel
theorem dX11_passOne_138 : decode cX11_passOne 138 = .ok (.iastore, 1) := by decide +kernel
theorem dX11_passOne_139 : decode cX11_passOne 139 = .ok (.aload_n 0, 1) := by decide +kernel
theorem dX11_passOne_140 : decode cX11_passOne 140 = .ok (.getfield 7, 3) := by decide +kernel
theorem dX11_passOne_143 : decode cX11_passOne 143 = .ok (.iload_n 3, 1) := by decide +kernel
theorem dX11_passOne_144 : decode cX11_passOne 144 = .ok (.iconst 4, 1) := by decide +kernel
theorem dX11_passOne_145 : decode cX11_passOne 145 = .ok (.iadd, 1) := by decide +kernel
theorem dX11_passOne_146 : decode cX11_passOne 146 = .ok (.iconst (-1), 1) := by decide +kernel
theorem dX11_passOne_147 : decode cX11_passOne 147 = .ok (.iastore, 1) := by decide +kernel
theorem dX11_passOne_148 : decode cX11_passOne 148 = .ok (.iinc 2 1, 3) := by decide +kernel
theorem dX11_passOne_151 : decode cX11_passOne 151 = .ok (.goto (-133), 3) := by decide +kernel
theorem dX11_passOne_154 : decode cX11_passOne 154 = .ok (.return_, 1) := by decide +kernel
theorem dX11_four_0 : decode cX11_four 0 = .ok (.bipush 24, 2) := by decide +kernel
theorem dX11_four_2 : decode cX11_four 2 = .ok (.istore_n 2, 1) := by decide +kernel
theorem dX11_four_3 : decode cX11_four 3 = .ok (.iload_n 2, 1) := by decide +kernel
theorem dX11_four_4 : decode cX11_four 4 = .ok (.ifCond .lt 35, 3) := by decide +kernel
theorem dX11_four_7 : decode cX11_four 7 = .ok (.aload_n 0, 1) := by decide +kernel
theorem dX11_four_8 : decode cX11_four 8 = .ok (.getfield 19, 3) := by decide +kernel
theorem dX11_four_11 : decode cX11_four 11 = .ok (.aload_n 0, 1) := by decide +kernel
theorem dX11_four_12 : decode cX11_four 12 = .ok (.getfield 114, 3) := by decide +kernel
theorem dX11_four_15 : decode cX11_four 15 = .ok (.iload_n 1, 1) := by decide +kernel
theorem dX11_four_16 : decode cX11_four 16 = .ok (.iload_n 2, 1) := by decide +kernel
theorem dX11_four_17 : decode cX11_four 17 = .ok (.ishr, 1) := by decide +kernel
theorem dX11_four_18 : decode cX11_four 18 = .ok (.sipush 255, 3) := by decide +kernel
theorem dX11_four_21 : decode cX11_four 21 = .ok (.iand, 1) := by decide +kernel
theorem dX11_four_22 : decode cX11_four 22 = .ok (.iastore, 1) := by decide +kernel
theorem dX11_four_23 : decode cX11_four 23 = .ok (.aload_n 0, 1) := by decide +kernel
theorem dX11_four_24 : decode cX11_four 24 = .ok (.dup, 1) := by decide +kernel
theorem dX11_four_25 : decode cX11_four 25 = .ok (.getfield 114, 3) := by decide +kernel
theorem dX11_four_28 : decode cX11_four 28 = .ok (.iconst 1, 1) := by decide +kernel
theorem dX11_four_29 : decode cX11_four 29 = .ok (.iadd, 1) := by decide +kernel
theorem dX11_four_30 : decode cX11_four 30 = .ok (.putfield 114, 3) := by decide +kernel
theorem dX11_four_33 : decode cX11_four 33 = .ok (.iinc 2 (-8), 3) := by decide +kernel
theorem dX11_four_36 : decode cX11_four 36 = .ok (.goto (-33), 3) := by decide +kernel
theorem dX11_four_39 : decode cX11_four 39 = .ok (.return_, 1) := by decide +kernel
theorem dX11_feed_0 : decode cX11_feed 0 = .ok (.aload_n 0, 1) := by decide +kernel
theorem dX11_feed_1 : decode cX11_feed 1 = .ok (.getfield 114, 3) := by decide +kernel
theorem dX11_feed_4 : decode cX11_feed 4 = .ok (.bipush 20, 2) := by decide +kernel
theorem dX11_feed_6 : decode cX11_feed 6 = .ok (.iadd, 1) := by decide +kernel
theorem dX11_feed_7 : decode cX11_feed 7 = .ok (.sipush 300, 3) := by decide +kernel
theorem dX11_feed_10 : decode cX11_feed 10 = .ok (.if_icmp .le 5, 3) := by decide +kernel
theorem dX11_feed_13 : decode cX11_feed 13 = .ok (.iconst (-1), 1) := by decide +kernel
theorem dX11_feed_14 : decode cX11_feed 14 = .ok (.ireturn, 1) := by decide +kernel
theorem dX11_feed_15 : decode cX11_feed 15 = .ok (.aload_n 0, 1) := by decide +kernel
theorem dX11_feed_16 : decode cX11_feed 16 = .ok (.iload_n 1, 1) := by decide +kernel
theorem dX11_feed_17 : decode cX11_feed 17 = .ok (.invokevirtual 117, 3) := by decide +kernel
theorem dX11_feed_20 : decode cX11_feed 20 = .ok (.aload_n 0, 1) := by decide +kernel
theorem dX11_feed_21 : decode cX11_feed 21 = .ok (.iload_n 2, 1) := by decide +kernel
theorem dX11_feed_22 : decode cX11_feed 22 = .ok (.invokevirtual 117, 3) := by decide +kernel
theorem dX11_feed_25 : decode cX11_feed 25 = .ok (.aload_n 0, 1) := by decide +kernel
theorem dX11_feed_26 : decode cX11_feed 26 = .ok (.iload_n 3, 1) := by decide +kernel
theorem dX11_feed_27 : decode cX11_feed 27 = .ok (.invokevirtual 117, 3) := by decide +kernel
theorem dX11_feed_30 : decode cX11_feed 30 = .ok (.aload_n 0, 1) := by decide +kernel
theorem dX11_feed_31 : decode cX11_feed 31 = .ok (.iload 4, 2) := by decide +kernel
theorem dX11_feed_33 : decode cX11_feed 33 = .ok (.invokevirtual 117, 3) := by decide +kernel
theorem dX11_feed_36 : decode cX11_feed 36 = .ok (.aload_n 0, 1) := by decide +kernel
theorem dX11_feed_37 : decode cX11_feed 37 = .ok (.iload 5, 2) := by decide +kernel
theorem dX11_feed_39 : decode cX11_feed 39 = .ok (.invokevirtual 117, 3) := by decide +kernel
theorem dX11_feed_42 : decode cX11_feed 42 = .ok (.aload_n 0, 1) := by decide +kernel
theorem dX11_feed_43 : decode cX11_feed 43 = .ok (.getfield 114, 3) := by decide +kernel
theorem dX11_feed_46 : decode cX11_feed 46 = .ok (.ireturn, 1) := by decide +kernel
theorem dX11_end_0 : decode cX11_end 0 = .ok (.iload_n 1, 1) := by decide +kernel
theorem dX11_end_1 : decode cX11_end 1 = .ok (.iconst 0, 1) := by decide +kernel
theorem dX11_end_2 : decode cX11_end 2 = .ok (.aload_n 0, 1) := by decide +kernel
theorem dX11_end_3 : decode cX11_end 3 = .ok (.getfield 114, 3) := by decide +kernel
theorem dX11_end_6 : decode cX11_end 6 = .ok (.invokestatic 75, 3) := by decide +kernel
theorem dX11_end_9 : decode cX11_end 9 = .ok (.ifCond .ne 5, 3) := by decide +kernel
theorem dX11_end_12 : decode cX11_end 12 = .ok (.iconst (-1), 1) := by decide +kernel
theorem dX11_end_13 : decode cX11_end 13 = .ok (.ireturn, 1) := by decide +kernel
theorem dX11_end_14 : decode cX11_end 14 = .ok (.aload_n 0, 1) := by decide +kernel
theorem dX11_end_15 : decode cX11_end 15 = .ok (.iload_n 1, 1) := by decide +kernel
theorem dX11_end_16 : decode cX11_end 16 = .ok (.putfield 114, 3) := by decide +kernel
theorem dX11_end_19 : decode cX11_end 19 = .ok (.iload_n 1, 1) := by decide +kernel
theorem dX11_end_20 : decode cX11_end 20 = .ok (.ireturn, 1) := by decide +kernel
theorem dX11_byteAt_0 : decode cX11_byteAt 0 = .ok (.iload_n 1, 1) := by decide +kernel
theorem dX11_byteAt_1 : decode cX11_byteAt 1 = .ok (.aload_n 0, 1) := by decide +kernel
theorem dX11_byteAt_2 : decode cX11_byteAt 2 = .ok (.getfield 114, 3) := by decide +kernel
theorem dX11_byteAt_5 : decode cX11_byteAt 5 = .ok (.if_icmp .ge 12, 3) := by decide +kernel
theorem dX11_byteAt_8 : decode cX11_byteAt 8 = .ok (.aload_n 0, 1) := by decide +kernel
theorem dX11_byteAt_9 : decode cX11_byteAt 9 = .ok (.getfield 19, 3) := by decide +kernel
theorem dX11_byteAt_12 : decode cX11_byteAt 12 = .ok (.iload_n 1, 1) := by decide +kernel
theorem dX11_byteAt_13 : decode cX11_byteAt 13 = .ok (.iaload, 1) := by decide +kernel
theorem dX11_byteAt_14 : decode cX11_byteAt 14 = .ok (.goto 4, 3) := by decide +kernel
theorem dX11_byteAt_17 : decode cX11_byteAt 17 = .ok (.iconst (-1), 1) := by decide +kernel
theorem dX11_byteAt_18 : decode cX11_byteAt 18 = .ok (.ireturn, 1) := by decide +kernel
theorem dX11_isLetter_0 : decode cX11_isLetter 0 = .ok (.iload_n 0, 1) := by decide +kernel
theorem dX11_isLetter_1 : decode cX11_isLetter 1 = .ok (.bipush 97, 2) := by decide +kernel
theorem dX11_isLetter_3 : decode cX11_isLetter 3 = .ok (.bipush 122, 2) := by decide +kernel
theorem dX11_isLetter_5 : decode cX11_isLetter 5 = .ok (.invokestatic 75, 3) := by decide +kernel
theorem dX11_isLetter_8 : decode cX11_isLetter 8 = .ok (.ifCond .ne 14, 3) := by decide +kernel
theorem dX11_isLetter_11 : decode cX11_isLetter 11 = .ok (.iload_n 0, 1) := by decide +kernel
theorem dX11_isLetter_12 : decode cX11_isLetter 12 = .ok (.bipush 65, 2) := by decide +kernel
theorem dX11_isLetter_14 : decode cX11_isLetter 14 = .ok (.bipush 90, 2) := by decide +kernel
theorem dX11_isLetter_16 : decode cX11_isLetter 16 = .ok (.invokestatic 75, 3) := by decide +kernel
theorem dX11_isLetter_19 : decode cX11_isLetter 19 = .ok (.ifCond .eq 7, 3) := by decide +kernel
theorem dX11_isLetter_22 : decode cX11_isLetter 22 = .ok (.iconst 1, 1) := by decide +kernel
theorem dX11_isLetter_23 : decode cX11_isLetter 23 = .ok (.goto 4, 3) := by decide +kernel
theorem dX11_isLetter_26 : decode cX11_isLetter 26 = .ok (.iconst 0, 1) := by decide +kernel
theorem dX11_isLetter_27 : decode cX11_isLetter 27 = .ok (.ireturn, 1) := by decide +kernel
theorem dX11_isDigit_0 : decode cX11_isDigit 0 = .ok (.iload_n 0, 1) := by decide +kernel
theorem dX11_isDigit_1 : decode cX11_isDigit 1 = .ok (.bipush 48, 2) := by decide +kernel
theorem dX11_isDigit_3 : decode cX11_isDigit 3 = .ok (.bipush 57, 2) := by decide +kernel
theorem dX11_isDigit_5 : decode cX11_isDigit 5 = .ok (.invokestatic 75, 3) := by decide +kernel
theorem dX11_isDigit_8 : decode cX11_isDigit 8 = .ok (.ireturn, 1) := by decide +kernel
theorem dX11_nextToken_0 : decode cX11_nextToken 0 = .ok (.aload_n 0, 1) := by decide +kernel
theorem dX11_nextToken_1 : decode cX11_nextToken 1 = .ok (.aload_n 0, 1) := by decide +kernel
theorem dX11_nextToken_2 : decode cX11_nextToken 2 = .ok (.getfield 120, 3) := by decide +kernel
theorem dX11_nextToken_5 : decode cX11_nextToken 5 = .ok (.invokevirtual 123, 3) := by decide +kernel
theorem dX11_nextToken_8 : decode cX11_nextToken 8 = .ok (.bipush 32, 2) := by decide +kernel
theorem dX11_nextToken_10 : decode cX11_nextToken 10 = .ok (.if_icmp .eq 16, 3) := by decide +kernel
theorem dX11_nextToken_13 : decode cX11_nextToken 13 = .ok (.aload_n 0, 1) := by decide +kernel
theorem dX11_nextToken_14 : decode cX11_nextToken 14 = .ok (.aload_n 0, 1) := by decide +kernel
theorem dX11_nextToken_15 : decode cX11_nextToken 15 = .ok (.getfield 120, 3) := by decide +kernel
theorem dX11_nextToken_18 : decode cX11_nextToken 18 = .ok (.invokevirtual 123, 3) := by decide +kernel
theorem dX11_nextToken_21 : decode cX11_nextToken 21 = .ok (.bipush 10, 2) := by decide +kernel
theorem dX11_nextToken_23 : decode cX11_nextToken 23 = .ok (.if_icmp .ne 16, 3) := by decide +kernel
theorem dX11_nextToken_26 : decode cX11_nextToken 26 = .ok (.aload_n 0, 1) := by decide +kernel
theorem dX11_nextToken_27 : decode cX11_nextToken 27 = .ok (.dup, 1) := by decide +kernel
theorem dX11_nextToken_28 : decode cX11_nextToken 28 = .ok (.getfield 120, 3) := by decide +kernel
theorem dX11_nextToken_31 : decode cX11_nextToken 31 = .ok (.iconst 1, 1) := by decide +kernel
theorem dX11_nextToken_32 : decode cX11_nextToken 32 = .ok (.iadd, 1) := by decide +kernel
theorem dX11_nextToken_33 : decode cX11_nextToken 33 = .ok (.putfield 120, 3) := by decide +kernel
theorem dX11_nextToken_36 : decode cX11_nextToken 36 = .ok (.goto (-36), 3) := by decide +kernel
theorem dX11_nextToken_39 : decode cX11_nextToken 39 = .ok (.aload_n 0, 1) := by decide +kernel
theorem dX11_nextToken_40 : decode cX11_nextToken 40 = .ok (.aload_n 0, 1) := by decide +kernel
theorem dX11_nextToken_41 : decode cX11_nextToken 41 = .ok (.getfield 120, 3) := by decide +kernel
theorem dX11_nextToken_44 : decode cX11_nextToken 44 = .ok (.putfield 126, 3) := by decide +kernel
theorem dX11_nextToken_47 : decode cX11_nextToken 47 = .ok (.aload_n 0, 1) := by decide +kernel
theorem dX11_nextToken_48 : decode cX11_nextToken 48 = .ok (.aload_n 0, 1) := by decide +kernel
theorem dX11_nextToken_49 : decode cX11_nextToken 49 = .ok (.getfield 120, 3) := by decide +kernel
theorem dX11_nextToken_52 : decode cX11_nextToken 52 = .ok (.invokevirtual 123, 3) := by decide +kernel
theorem dX11_nextToken_55 : decode cX11_nextToken 55 = .ok (.istore_n 1, 1) := by decide +kernel
theorem dX11_nextToken_56 : decode cX11_nextToken 56 = .ok (.iload_n 1, 1) := by decide +kernel
theorem dX11_nextToken_57 : decode cX11_nextToken 57 = .ok (.ifCond .ge 11, 3) := by decide +kernel
theorem dX11_nextToken_60 : decode cX11_nextToken 60 = .ok (.aload_n 0, 1) := by decide +kernel
theorem dX11_nextToken_61 : decode cX11_nextToken 61 = .ok (.iconst 0, 1) := by decide +kernel
theorem dX11_nextToken_62 : decode cX11_nextToken 62 = .ok (.putfield 129, 3) := by decide +kernel
theorem dX11_nextToken_65 : decode cX11_nextToken 65 = .ok (.goto 325, 3) := by decide +kernel
theorem dX11_nextToken_68 : decode cX11_nextToken 68 = .ok (.iload_n 1, 1) := by decide +kernel
theorem dX11_nextToken_69 : decode cX11_nextToken 69 = .ok (.invokestatic 132, 3) := by decide +kernel
theorem dX11_nextToken_72 : decode cX11_nextToken 72 = .ok (.ifCond .eq 72, 3) := by decide +kernel
theorem dX11_nextToken_75 : decode cX11_nextToken 75 = .ok (.aload_n 0, 1) := by decide +kernel
theorem dX11_nextToken_76 : decode cX11_nextToken 76 = .ok (.iconst 1, 1) := by decide +kernel
theorem dX11_nextToken_77 : decode cX11_nextToken 77 = .ok (.putfield 129, 3) := by decide +kernel
theorem dX11_nextToken_80 : decode cX11_nextToken 80 = .ok (.aload_n 0, 1) := by decide +kernel
theorem dX11_nextToken_81 : decode cX11_nextToken 81 = .ok (.iconst 0, 1) := by decide +kernel
theorem dX11_nextToken_82 : decode cX11_nextToken 82 = .ok (.putfield 135, 3) := by decide +kernel
theorem dX11_nextToken_85 : decode cX11_nextToken 85 = .ok (.aload_n 0, 1) := by decide +kernel
theorem dX11_nextToken_86 : decode cX11_nextToken 86 = .ok (.aload_n 0, 1) := by decide +kernel
theorem dX11_nextToken_87 : decode cX11_nextToken 87 = .ok (.getfield 120, 3) := by decide +kernel
theorem dX11_nextToken_90 : decode cX11_nextToken 90 = .ok (.invokevirtual 123, 3) := by decide +kernel
theorem dX11_nextToken_93 : decode cX11_nextToken 93 = .ok (.invokestatic 132, 3) := by decide +kernel
theorem dX11_nextToken_96 : decode cX11_nextToken 96 = .ok (.ifCond .eq 294, 3) := by decide +kernel
theorem dX11_nextToken_99 : decode cX11_nextToken 99 = .ok (.aload_n 0, 1) := by decide +kernel
theorem dX11_nextToken_100 : decode cX11_nextToken 100 = .ok (.getfield 135, 3) := by decide +kernel
theorem dX11_nextToken_103 : decode cX11_nextToken 103 = .ok (.ldc 138, 2) := by decide +kernel
theorem dX11_nextToken_105 : decode cX11_nextToken 105 = .ok (.if_icmp .ge 26, 3) := by decide +kernel
theorem dX11_nextToken_108 : decode cX11_nextToken 108 = .ok (.aload_n 0, 1) := by decide +kernel
theorem dX11_nextToken_109 : decode cX11_nextToken 109 = .ok (.bipush 10, 2) := by decide +kernel
theorem dX11_nextToken_111 : decode cX11_nextToken 111 = .ok (.aload_n 0, 1) := by decide +kernel
theorem dX11_nextToken_112 : decode cX11_nextToken 112 = .ok (.getfield 135, 3) := by decide +kernel
theorem dX11_nextToken_115 : decode cX11_nextToken 115 = .ok (.imul, 1) := by decide +kernel
theorem dX11_nextToken_116 : decode cX11_nextToken 116 = .ok (.aload_n 0, 1) := by decide +kernel
theorem dX11_nextToken_117 : decode cX11_nextToken 117 = .ok (.aload_n 0, 1) := by decide +kernel
theorem dX11_nextToken_118 : decode cX11_nextToken 118 = .ok (.getfield 120, 3) := by decide +kernel
theorem dX11_nextToken_121 : decode cX11_nextToken 121 = .ok (.invokevirtual 123, 3) := by decide +kernel
theorem dX11_nextToken_124 : decode cX11_nextToken 124 = .ok (.iadd, 1) := by decide +kernel
theorem dX11_nextToken_125 : decode cX11_nextToken 125 = .ok (.bipush 48, 2) := by decide +kernel
theorem dX11_nextToken_127 : decode cX11_nextToken 127 = .ok (.isub, 1) := by decide +kernel
theorem dX11_nextToken_128 : decode cX11_nextToken 128 = .ok (.putfield 135, 3) := by decide +kernel
theorem dX11_nextToken_131 : decode cX11_nextToken 131 = .ok (.aload_n 0, 1) := by decide +kernel
theorem dX11_nextToken_132 : decode cX11_nextToken 132 = .ok (.dup, 1) := by decide +kernel
theorem dX11_nextToken_133 : decode cX11_nextToken 133 = .ok (.getfield 120, 3) := by decide +kernel
theorem dX11_nextToken_136 : decode cX11_nextToken 136 = .ok (.iconst 1, 1) := by decide +kernel
theorem dX11_nextToken_137 : decode cX11_nextToken 137 = .ok (.iadd, 1) := by decide +kernel
theorem dX11_nextToken_138 : decode cX11_nextToken 138 = .ok (.putfield 120, 3) := by decide +kernel
theorem dX11_nextToken_141 : decode cX11_nextToken 141 = .ok (.goto (-56), 3) := by decide +kernel
theorem dX11_nextToken_144 : decode cX11_nextToken 144 = .ok (.iload_n 1, 1) := by decide +kernel
theorem dX11_nextToken_145 : decode cX11_nextToken 145 = .ok (.invokestatic 139, 3) := by decide +kernel
theorem dX11_nextToken_148 : decode cX11_nextToken 148 = .ok (.ifCond .eq 97, 3) := by decide +kernel
theorem dX11_nextToken_151 : decode cX11_nextToken 151 = .ok (.aload_n 0, 1) := by decide +kernel
theorem dX11_nextToken_152 : decode cX11_nextToken 152 = .ok (.iconst 2, 1) := by decide +kernel
theorem dX11_nextToken_153 : decode cX11_nextToken 153 = .ok (.putfield 129, 3) := by decide +kernel
theorem dX11_nextToken_156 : decode cX11_nextToken 156 = .ok (.aload_n 0, 1) := by decide +kernel
theorem dX11_nextToken_157 : decode cX11_nextToken 157 = .ok (.lconst 0, 1) := by decide +kernel
theorem dX11_nextToken_158 : decode cX11_nextToken 158 = .ok (.putfield 142, 3) := by decide +kernel
theorem dX11_nextToken_161 : decode cX11_nextToken 161 = .ok (.aload_n 0, 1) := by decide +kernel
theorem dX11_nextToken_162 : decode cX11_nextToken 162 = .ok (.aload_n 0, 1) := by decide +kernel
theorem dX11_nextToken_163 : decode cX11_nextToken 163 = .ok (.getfield 120, 3) := by decide +kernel
theorem dX11_nextToken_166 : decode cX11_nextToken 166 = .ok (.invokevirtual 123, 3) := by decide +kernel
theorem dX11_nextToken_169 : decode cX11_nextToken 169 = .ok (.invokestatic 139, 3) := by decide +kernel
theorem dX11_nextToken_172 : decode cX11_nextToken 172 = .ok (.ifCond .eq 51, 3) := by decide +kernel
theorem dX11_nextToken_175 : decode cX11_nextToken 175 = .ok (.aload_n 0, 1) := by decide +kernel
theorem dX11_nextToken_176 : decode cX11_nextToken 176 = .ok (.getfield 120, 3) := by decide +kernel
theorem dX11_nextToken_179 : decode cX11_nextToken 179 = .ok (.aload_n 0, 1) := by decide +kernel
theorem dX11_nextToken_180 : decode cX11_nextToken 180 = .ok (.getfield 126, 3) := by decide +kernel
theorem dX11_nextToken_183 : decode cX11_nextToken 183 = .ok (.isub, 1) := by decide +kernel
theorem dX11_nextToken_184 : decode cX11_nextToken 184 = .ok (.bipush 7, 2) := by decide +kernel
theorem dX11_nextToken_186 : decode cX11_nextToken 186 = .ok (.if_icmp .ge 24, 3) := by decide +kernel
theorem dX11_nextToken_189 : decode cX11_nextToken 189 = .ok (.aload_n 0, 1) := by decide +kernel
theorem dX11_nextToken_190 : decode cX11_nextToken 190 = .ok (.aload_n 0, 1) := by decide +kernel
theorem dX11_nextToken_191 : decode cX11_nextToken 191 = .ok (.getfield 142, 3) := by decide +kernel
theorem dX11_nextToken_194 : decode cX11_nextToken 194 = .ok (.bipush 8, 2) := by decide +kernel
theorem dX11_nextToken_196 : decode cX11_nextToken 196 = .ok (.lshl, 1) := by decide +kernel
theorem dX11_nextToken_197 : decode cX11_nextToken 197 = .ok (.aload_n 0, 1) := by decide +kernel
theorem dX11_nextToken_198 : decode cX11_nextToken 198 = .ok (.aload_n 0, 1) := by decide +kernel
theorem dX11_nextToken_199 : decode cX11_nextToken 199 = .ok (.getfield 120, 3) := by decide +kernel
theorem dX11_nextToken_202 : decode cX11_nextToken 202 = .ok (.invokevirtual 123, 3) := by decide +kernel
theorem dX11_nextToken_205 : decode cX11_nextToken 205 = .ok (.i2l, 1) := by decide +kernel
theorem dX11_nextToken_206 : decode cX11_nextToken 206 = .ok (.lor, 1) := by decide +kernel
theorem dX11_nextToken_207 : decode cX11_nextToken 207 = .ok (.putfield 142, 3) := by decide +kernel
theorem dX11_nextToken_210 : decode cX11_nextToken 210 = .ok (.aload_n 0, 1) := by decide +kernel
theorem dX11_nextToken_211 : decode cX11_nextToken 211 = .ok (.dup, 1) := by decide +kernel
theorem dX11_nextToken_212 : decode cX11_nextToken 212 = .ok (.getfield 120, 3) := by decide +kernel
theorem dX11_nextToken_215 : decode cX11_nextToken 215 = .ok (.iconst 1, 1) := by decide +kernel
theorem dX11_nextToken_216 : decode cX11_nextToken 216 = .ok (.iadd, 1) := by decide +kernel
theorem dX11_nextToken_217 : decode cX11_nextToken 217 = .ok (.putfield 120, 3) := by decide +kernel
theorem dX11_nextToken_220 : decode cX11_nextToken 220 = .ok (.goto (-59), 3) := by decide +kernel
theorem dX11_nextToken_223 : decode cX11_nextToken 223 = .ok (.aload_n 0, 1) := by decide +kernel
theorem dX11_nextToken_224 : decode cX11_nextToken 224 = .ok (.getfield 120, 3) := by decide +kernel
theorem dX11_nextToken_227 : decode cX11_nextToken 227 = .ok (.aload_n 0, 1) := by decide +kernel
theorem dX11_nextToken_228 : decode cX11_nextToken 228 = .ok (.getfield 126, 3) := by decide +kernel
theorem dX11_nextToken_231 : decode cX11_nextToken 231 = .ok (.isub, 1) := by decide +kernel
theorem dX11_nextToken_232 : decode cX11_nextToken 232 = .ok (.bipush 7, 2) := by decide +kernel
theorem dX11_nextToken_234 : decode cX11_nextToken 234 = .ok (.if_icmp .le 156, 3) := by decide +kernel
theorem dX11_nextToken_237 : decode cX11_nextToken 237 = .ok (.aload_n 0, 1) := by decide +kernel
theorem dX11_nextToken_238 : decode cX11_nextToken 238 = .ok (.lconst 0, 1) := by decide +kernel
theorem dX11_nextToken_239 : decode cX11_nextToken 239 = .ok (.putfield 142, 3) := by decide +kernel
theorem dX11_nextToken_242 : decode cX11_nextToken 242 = .ok (.goto 148, 3) := by decide +kernel
theorem dX11_nextToken_245 : decode cX11_nextToken 245 = .ok (.aload_n 0, 1) := by decide +kernel
theorem dX11_nextToken_246 : decode cX11_nextToken 246 = .ok (.dup, 1) := by decide +kernel
theorem dX11_nextToken_247 : decode cX11_nextToken 247 = .ok (.getfield 120, 3) := by decide +kernel
theorem dX11_nextToken_250 : decode cX11_nextToken 250 = .ok (.iconst 1, 1) := by decide +kernel
theorem dX11_nextToken_251 : decode cX11_nextToken 251 = .ok (.iadd, 1) := by decide +kernel
theorem dX11_nextToken_252 : decode cX11_nextToken 252 = .ok (.putfield 120, 3) := by decide +kernel
theorem dX11_nextToken_255 : decode cX11_nextToken 255 = .ok (.iload_n 1, 1) := by decide +kernel
theorem dX11_nextToken_256 : decode cX11_nextToken 256 = .ok (.bipush 60, 2) := by decide +kernel
theorem dX11_nextToken_258 : decode cX11_nextToken 258 = .ok (.if_icmp .eq 63, 3) := by decide +kernel
theorem dX11_nextToken_261 : decode cX11_nextToken 261 = .ok (.iload_n 1, 1) := by decide +kernel
theorem dX11_nextToken_262 : decode cX11_nextToken 262 = .ok (.bipush 62, 2) := by decide +kernel
theorem dX11_nextToken_264 : decode cX11_nextToken 264 = .ok (.if_icmp .eq 57, 3) := by decide +kernel
theorem dX11_nextToken_267 : decode cX11_nextToken 267 = .ok (.iload_n 1, 1) := by decide +kernel
theorem dX11_nextToken_268 : decode cX11_nextToken 268 = .ok (.bipush 61, 2) := by decide +kernel
theorem dX11_nextToken_270 : decode cX11_nextToken 270 = .ok (.if_icmp .eq 51, 3) := by decide +kernel
theorem dX11_nextToken_273 : decode cX11_nextToken 273 = .ok (.iload_n 1, 1) := by decide +kernel
theorem dX11_nextToken_274 : decode cX11_nextToken 274 = .ok (.bipush 35, 2) := by decide +kernel
theorem dX11_nextToken_276 : decode cX11_nextToken 276 = .ok (.if_icmp .eq 45, 3) := by decide +kernel
theorem dX11_nextToken_279 : decode cX11_nextToken 279 = .ok (.iload_n 1, 1) := by decide +kernel
theorem dX11_nextToken_280 : decode cX11_nextToken 280 = .ok (.bipush 43, 2) := by decide +kernel
theorem dX11_nextToken_282 : decode cX11_nextToken 282 = .ok (.if_icmp .eq 39, 3) := by decide +kernel
theorem dX11_nextToken_285 : decode cX11_nextToken 285 = .ok (.iload_n 1, 1) := by decide +kernel
theorem dX11_nextToken_286 : decode cX11_nextToken 286 = .ok (.bipush 45, 2) := by decide +kernel
theorem dX11_nextToken_288 : decode cX11_nextToken 288 = .ok (.if_icmp .eq 33, 3) := by decide +kernel
theorem dX11_nextToken_291 : decode cX11_nextToken 291 = .ok (.iload_n 1, 1) := by decide +kernel
theorem dX11_nextToken_292 : decode cX11_nextToken 292 = .ok (.bipush 42, 2) := by decide +kernel
theorem dX11_nextToken_294 : decode cX11_nextToken 294 = .ok (.if_icmp .eq 27, 3) := by decide +kernel
theorem dX11_nextToken_297 : decode cX11_nextToken 297 = .ok (.iload_n 1, 1) := by decide +kernel
theorem dX11_nextToken_298 : decode cX11_nextToken 298 = .ok (.bipush 47, 2) := by decide +kernel
theorem dX11_nextToken_300 : decode cX11_nextToken 300 = .ok (.if_icmp .eq 21, 3) := by decide +kernel
theorem dX11_nextToken_303 : decode cX11_nextToken 303 = .ok (.iload_n 1, 1) := by decide +kernel
theorem dX11_nextToken_304 : decode cX11_nextToken 304 = .ok (.bipush 40, 2) := by decide +kernel
theorem dX11_nextToken_306 : decode cX11_nextToken 306 = .ok (.if_icmp .eq 15, 3) := by decide +kernel
theorem dX11_nextToken_309 : decode cX11_nextToken 309 = .ok (.iload_n 1, 1) := by decide +kernel
theorem dX11_nextToken_310 : decode cX11_nextToken 310 = .ok (.bipush 41, 2) := by decide +kernel
theorem dX11_nextToken_312 : decode cX11_nextToken 312 = .ok (.if_icmp .eq 9, 3) := by decide +kernel
theorem dX11_nextToken_315 : decode cX11_nextToken 315 = .ok (.iload_n 1, 1) := by decide +kernel
theorem dX11_nextToken_316 : decode cX11_nextToken 316 = .ok (.bipush 59, 2) := by decide +kernel
theorem dX11_nextToken_318 : decode cX11_nextToken 318 = .ok (.if_icmp .ne 7, 3) := by decide +kernel
theorem dX11_nextToken_321 : decode cX11_nextToken 321 = .ok (.iconst 1, 1) := by decide +kernel
theorem dX11_nextToken_322 : decode cX11_nextToken 322 = .ok (.goto 4, 3) := by decide +kernel
theorem dX11_nextToken_325 : decode cX11_nextToken 325 = .ok (.iconst 0, 1) := by decide +kernel
theorem dX11_nextToken_326 : decode cX11_nextToken 326 = .ok (.istore_n 2, 1) := by decide +kernel
theorem dX11_nextToken_327 : decode cX11_nextToken 327 = .ok (.aload_n 0, 1) := by decide +kernel
theorem dX11_nextToken_328 : decode cX11_nextToken 328 = .ok (.iload_n 2, 1) := by decide +kernel
theorem dX11_nextToken_329 : decode cX11_nextToken 329 = .ok (.ifCond .eq 7, 3) := by decide +kernel
theorem dX11_nextToken_332 : decode cX11_nextToken 332 = .ok (.iload_n 1, 1) := by decide +kernel
theorem dX11_nextToken_333 : decode cX11_nextToken 333 = .ok (.goto 4, 3) := by decide +kernel
theorem dX11_nextToken_336 : decode cX11_nextToken 336 = .ok (.iconst 3, 1) := by decide +kernel
theorem dX11_nextToken_337 : decode cX11_nextToken 337 = .ok (.putfield 129, 3) := by decide +kernel
theorem dX11_nextToken_340 : decode cX11_nextToken 340 = .ok (.iload_n 1, 1) := by decide +kernel
theorem dX11_nextToken_341 : decode cX11_nextToken 341 = .ok (.bipush 60, 2) := by decide +kernel
theorem dX11_nextToken_343 : decode cX11_nextToken 343 = .ok (.if_icmp .eq 9, 3) := by decide +kernel
theorem dX11_nextToken_346 : decode cX11_nextToken 346 = .ok (.iload_n 1, 1) := by decide +kernel
theorem dX11_nextToken_347 : decode cX11_nextToken 347 = .ok (.bipush 62, 2) := by decide +kernel
theorem dX11_nextToken_349 : decode cX11_nextToken 349 = .ok (.if_icmp .ne 41, 3) := by decide +kernel
theorem dX11_nextToken_352 : decode cX11_nextToken 352 = .ok (.aload_n 0, 1) := by decide +kernel
theorem dX11_nextToken_353 : decode cX11_nextToken 353 = .ok (.aload_n 0, 1) := by decide +kernel
theorem dX11_nextToken_354 : decode cX11_nextToken 354 = .ok (.getfield 120, 3) := by decide +kernel
theorem dX11_nextToken_357 : decode cX11_nextToken 357 = .ok (.invokevirtual 123, 3) := by decide +kernel
theorem dX11_nextToken_360 : decode cX11_nextToken 360 = .ok (.bipush 61, 2) := by decide +kernel
theorem dX11_nextToken_362 : decode cX11_nextToken 362 = .ok (.if_icmp .ne 28, 3) := by decide +kernel
theorem dX11_nextToken_365 : decode cX11_nextToken 365 = .ok (.aload_n 0, 1) := by decide +kernel
theorem dX11_nextToken_366 : decode cX11_nextToken 366 = .ok (.dup, 1) := by decide +kernel
theorem dX11_nextToken_367 : decode cX11_nextToken 367 = .ok (.getfield 120, 3) := by decide +kernel
theorem dX11_nextToken_370 : decode cX11_nextToken 370 = .ok (.iconst 1, 1) := by decide +kernel
theorem dX11_nextToken_371 : decode cX11_nextToken 371 = .ok (.iadd, 1) := by decide +kernel
theorem dX11_nextToken_372 : decode cX11_nextToken 372 = .ok (.putfield 120, 3) := by decide +kernel
theorem dX11_nextToken_375 : decode cX11_nextToken 375 = .ok (.aload_n 0, 1) := by decide +kernel
theorem dX11_nextToken_376 : decode cX11_nextToken 376 = .ok (.iload_n 1, 1) := by decide +kernel
theorem dX11_nextToken_377 : decode cX11_nextToken 377 = .ok (.bipush 60, 2) := by decide +kernel
theorem dX11_nextToken_379 : decode cX11_nextToken 379 = .ok (.if_icmp .ne 7, 3) := by decide +kernel
theorem dX11_nextToken_382 : decode cX11_nextToken 382 = .ok (.iconst 4, 1) := by decide +kernel
theorem dX11_nextToken_383 : decode cX11_nextToken 383 = .ok (.goto 4, 3) := by decide +kernel
theorem dX11_nextToken_386 : decode cX11_nextToken 386 = .ok (.iconst 5, 1) := by decide +kernel
theorem dX11_nextToken_387 : decode cX11_nextToken 387 = .ok (.putfield 129, 3) := by decide +kernel
theorem dX11_nextToken_390 : decode cX11_nextToken 390 = .ok (.return_, 1) := by decide +kernel
theorem dX11_w3_0 : decode cX11_w3 0 = .ok (.iload_n 0, 1) := by decide +kernel
theorem dX11_w3_1 : decode cX11_w3 1 = .ok (.i2l, 1) := by decide +kernel
theorem dX11_w3_2 : decode cX11_w3 2 = .ok (.bipush 8, 2) := by decide +kernel
theorem dX11_w3_4 : decode cX11_w3 4 = .ok (.lshl, 1) := by decide +kernel
theorem dX11_w3_5 : decode cX11_w3 5 = .ok (.iload_n 1, 1) := by decide +kernel
theorem dX11_w3_6 : decode cX11_w3 6 = .ok (.i2l, 1) := by decide +kernel
theorem dX11_w3_7 : decode cX11_w3 7 = .ok (.lor, 1) := by decide +kernel
theorem dX11_w3_8 : decode cX11_w3 8 = .ok (.bipush 8, 2) := by decide +kernel
theorem dX11_w3_10 : decode cX11_w3 10 = .ok (.lshl, 1) := by decide +kernel
theorem dX11_w3_11 : decode cX11_w3 11 = .ok (.iload_n 2, 1) := by decide +kernel
theorem dX11_w3_12 : decode cX11_w3 12 = .ok (.i2l, 1) := by decide +kernel
theorem dX11_w3_13 : decode cX11_w3 13 = .ok (.lor, 1) := by decide +kernel
theorem dX11_w3_14 : decode cX11_w3 14 = .ok (.lreturn, 1) := by decide +kernel
theorem dX11_w5_0 : decode cX11_w5 0 = .ok (.iload_n 0, 1) := by decide +kernel
theorem dX11_w5_1 : decode cX11_w5 1 = .ok (.iload_n 1, 1) := by decide +kernel
theorem dX11_w5_2 : decode cX11_w5 2 = .ok (.iload_n 2, 1) := by decide +kernel
theorem dX11_w5_3 : decode cX11_w5 3 = .ok (.invokestatic 146, 3) := by decide +kernel
theorem dX11_w5_6 : decode cX11_w5 6 = .ok (.bipush 8, 2) := by decide +kernel
theorem dX11_w5_8 : decode cX11_w5 8 = .ok (.lshl, 1) := by decide +kernel
theorem dX11_w5_9 : decode cX11_w5 9 = .ok (.iload_n 3, 1) := by decide +kernel
theorem dX11_w5_10 : decode cX11_w5 10 = .ok (.i2l, 1) := by decide +kernel
theorem dX11_w5_11 : decode cX11_w5 11 = .ok (.lor, 1) := by decide +kernel
theorem dX11_w5_12 : decode cX11_w5 12 = .ok (.bipush 8, 2) := by decide +kernel
theorem dX11_w5_14 : decode cX11_w5 14 = .ok (.lshl, 1) := by decide +kernel
theorem dX11_w5_15 : decode cX11_w5 15 = .ok (.iload 4, 2) := by decide +kernel
theorem dX11_w5_17 : decode cX11_w5 17 = .ok (.i2l, 1) := by decide +kernel
theorem dX11_w5_18 : decode cX11_w5 18 = .ok (.lor, 1) := by decide +kernel
theorem dX11_w5_19 : decode cX11_w5 19 = .ok (.lreturn, 1) := by decide +kernel
theorem dX11_w4_0 : decode cX11_w4 0 = .ok (.iload_n 0, 1) := by decide +kernel
theorem dX11_w4_1 : decode cX11_w4 1 = .ok (.iload_n 1, 1) := by decide +kernel
theorem dX11_w4_2 : decode cX11_w4 2 = .ok (.iload_n 2, 1) := by decide +kernel
theorem dX11_w4_3 : decode cX11_w4 3 = .ok (.invokestatic 146, 3) := by decide +kernel
theorem dX11_w4_6 : decode cX11_w4 6 = .ok (.bipush 8, 2) := by decide +kernel
theorem dX11_w4_8 : decode cX11_w4 8 = .ok (.lshl, 1) := by decide +kernel
theorem dX11_w4_9 : decode cX11_w4 9 = .ok (.iload_n 3, 1) := by decide +kernel
theorem dX11_w4_10 : decode cX11_w4 10 = .ok (.i2l, 1) := by decide +kernel
theorem dX11_w4_11 : decode cX11_w4 11 = .ok (.lor, 1) := by decide +kernel
theorem dX11_w4_12 : decode cX11_w4 12 = .ok (.lreturn, 1) := by decide +kernel
theorem dX11_w6_0 : decode cX11_w6 0 = .ok (.iload_n 0, 1) := by decide +kernel
theorem dX11_w6_1 : decode cX11_w6 1 = .ok (.iload_n 1, 1) := by decide +kernel
theorem dX11_w6_2 : decode cX11_w6 2 = .ok (.iload_n 2, 1) := by decide +kernel
theorem dX11_w6_3 : decode cX11_w6 3 = .ok (.iload_n 3, 1) := by decide +kernel
theorem dX11_w6_4 : decode cX11_w6 4 = .ok (.iload 4, 2) := by decide +kernel
theorem dX11_w6_6 : decode cX11_w6 6 = .ok (.invokestatic 150, 3) := by decide +kernel
theorem dX11_w6_9 : decode cX11_w6 9 = .ok (.bipush 8, 2) := by decide +kernel
theorem dX11_w6_11 : decode cX11_w6 11 = .ok (.lshl, 1) := by decide +kernel
theorem dX11_w6_12 : decode cX11_w6 12 = .ok (.iload 5, 2) := by decide +kernel
theorem dX11_w6_14 : decode cX11_w6 14 = .ok (.i2l, 1) := by decide +kernel
theorem dX11_w6_15 : decode cX11_w6 15 = .ok (.lor, 1) := by decide +kernel
theorem dX11_w6_16 : decode cX11_w6 16 = .ok (.lreturn, 1) := by decide +kernel
theorem dX11_isWord_0 : decode cX11_isWord 0 = .ok (.aload_n 0, 1) := by decide +kernel
theorem dX11_isWord_1 : decode cX11_isWord 1 = .ok (.getfield 129, 3) := by decide +kernel
theorem dX11_isWord_4 : decode cX11_isWord 4 = .ok (.iconst 2, 1) := by decide +kernel
theorem dX11_isWord_5 : decode cX11_isWord 5 = .ok (.if_icmp .ne 16, 3) := by decide +kernel
theorem dX11_isWord_8 : decode cX11_isWord 8 = .ok (.aload_n 0, 1) := by decide +kernel
theorem dX11_isWord_9 : decode cX11_isWord 9 = .ok (.getfield 142, 3) := by decide +kernel
theorem dX11_isWord_12 : decode cX11_isWord 12 = .ok (.lload_n 1, 1) := by decide +kernel
theorem dX11_isWord_13 : decode cX11_isWord 13 = .ok (.lcmp, 1) := by decide +kernel
theorem dX11_isWord_14 : decode cX11_isWord 14 = .ok (.ifCond .ne 7, 3) := by decide +kernel
theorem dX11_isWord_17 : decode cX11_isWord 17 = .ok (.iconst 1, 1) := by decide +kernel
theorem dX11_isWord_18 : decode cX11_isWord 18 = .ok (.goto 4, 3) := by decide +kernel
theorem dX11_isWord_21 : decode cX11_isWord 21 = .ok (.iconst 0, 1) := by decide +kernel
theorem dX11_isWord_22 : decode cX11_isWord 22 = .ok (.ireturn, 1) := by decide +kernel
theorem dX11_emit_0 : decode cX11_emit 0 = .ok (.aload_n 0, 1) := by decide +kernel
theorem dX11_emit_1 : decode cX11_emit 1 = .ok (.getfield 16, 3) := by decide +kernel
theorem dX11_emit_4 : decode cX11_emit 4 = .ok (.aload_n 0, 1) := by decide +kernel
theorem dX11_emit_5 : decode cX11_emit 5 = .ok (.getfield 154, 3) := by decide +kernel
theorem dX11_emit_8 : decode cX11_emit 8 = .ok (.bipush 100, 2) := by decide +kernel
theorem dX11_emit_10 : decode cX11_emit 10 = .ok (.iadd, 1) := by decide +kernel
theorem dX11_emit_11 : decode cX11_emit 11 = .ok (.iconst 2, 1) := by decide +kernel
theorem dX11_emit_12 : decode cX11_emit 12 = .ok (.aload_n 0, 1) := by decide +kernel
theorem dX11_emit_13 : decode cX11_emit 13 = .ok (.getfield 157, 3) := by decide +kernel
theorem dX11_emit_16 : decode cX11_emit 16 = .ok (.imul, 1) := by decide +kernel
theorem dX11_emit_17 : decode cX11_emit 17 = .ok (.iadd, 1) := by decide +kernel
theorem dX11_emit_18 : decode cX11_emit 18 = .ok (.iload_n 1, 1) := by decide +kernel
theorem dX11_emit_19 : decode cX11_emit 19 = .ok (.iastore, 1) := by decide +kernel
theorem dX11_emit_20 : decode cX11_emit 20 = .ok (.aload_n 0, 1) := by decide +kernel
theorem dX11_emit_21 : decode cX11_emit 21 = .ok (.getfield 16, 3) := by decide +kernel
theorem dX11_emit_24 : decode cX11_emit 24 = .ok (.aload_n 0, 1) := by decide +kernel
theorem dX11_emit_25 : decode cX11_emit 25 = .ok (.getfield 154, 3) := by decide +kernel
theorem dX11_emit_28 : decode cX11_emit 28 = .ok (.bipush 100, 2) := by decide +kernel
theorem dX11_emit_30 : decode cX11_emit 30 = .ok (.iadd, 1) := by decide +kernel
theorem dX11_emit_31 : decode cX11_emit 31 = .ok (.iconst 2, 1) := by decide +kernel
theorem dX11_emit_32 : decode cX11_emit 32 = .ok (.aload_n 0, 1) := by decide +kernel
theorem dX11_emit_33 : decode cX11_emit 33 = .ok (.getfield 157, 3) := by decide +kernel
theorem dX11_emit_36 : decode cX11_emit 36 = .ok (.imul, 1) := by decide +kernel
theorem dX11_emit_37 : decode cX11_emit 37 = .ok (.iadd, 1) := by decide +kernel
theorem dX11_emit_38 : decode cX11_emit 38 = .ok (.iconst 1, 1) := by decide +kernel
theorem dX11_emit_39 : decode cX11_emit 39 = .ok (.iadd, 1) := by decide +kernel
theorem dX11_emit_40 : decode cX11_emit 40 = .ok (.iload_n 2, 1) := by decide +kernel
theorem dX11_emit_41 : decode cX11_emit 41 = .ok (.iastore, 1) := by decide +kernel
theorem dX11_emit_42 : decode cX11_emit 42 = .ok (.aload_n 0, 1) := by decide +kernel
theorem dX11_emit_43 : decode cX11_emit 43 = .ok (.dup, 1) := by decide +kernel
theorem dX11_emit_44 : decode cX11_emit 44 = .ok (.getfield 157, 3) := by decide +kernel
theorem dX11_emit_47 : decode cX11_emit 47 = .ok (.iconst 1, 1) := by decide +kernel
theorem dX11_emit_48 : decode cX11_emit 48 = .ok (.iadd, 1) := by decide +kernel
theorem dX11_emit_49 : decode cX11_emit 49 = .ok (.putfield 157, 3) := by decide +kernel
theorem dX11_emit_52 : decode cX11_emit 52 = .ok (.return_, 1) := by decide +kernel
theorem dX11_push_0 : decode cX11_push 0 = .ok (.aload_n 0, 1) := by decide +kernel
theorem dX11_push_1 : decode cX11_push 1 = .ok (.getfield 29, 3) := by decide +kernel
theorem dX11_push_4 : decode cX11_push 4 = .ok (.aload_n 0, 1) := by decide +kernel
theorem dX11_push_5 : decode cX11_push 5 = .ok (.getfield 160, 3) := by decide +kernel
theorem dX11_push_8 : decode cX11_push 8 = .ok (.iload_n 1, 1) := by decide +kernel
theorem dX11_push_9 : decode cX11_push 9 = .ok (.iastore, 1) := by decide +kernel
theorem dX11_push_10 : decode cX11_push 10 = .ok (.aload_n 0, 1) := by decide +kernel
theorem dX11_push_11 : decode cX11_push 11 = .ok (.dup, 1) := by decide +kernel
theorem dX11_push_12 : decode cX11_push 12 = .ok (.getfield 160, 3) := by decide +kernel
theorem dX11_push_15 : decode cX11_push 15 = .ok (.iconst 1, 1) := by decide +kernel
theorem dX11_push_16 : decode cX11_push 16 = .ok (.iadd, 1) := by decide +kernel
theorem dX11_push_17 : decode cX11_push 17 = .ok (.putfield 160, 3) := by decide +kernel
theorem dX11_push_20 : decode cX11_push 20 = .ok (.return_, 1) := by decide +kernel
theorem dX11_whole_0 : decode cX11_whole 0 = .ok (.aload_n 0, 1) := by decide +kernel
theorem dX11_whole_1 : decode cX11_whole 1 = .ok (.iconst 1, 1) := by decide +kernel
theorem dX11_whole_2 : decode cX11_whole 2 = .ok (.putfield 163, 3) := by decide +kernel
theorem dX11_whole_5 : decode cX11_whole 5 = .ok (.aload_n 0, 1) := by decide +kernel
theorem dX11_whole_6 : decode cX11_whole 6 = .ok (.getfield 160, 3) := by decide +kernel
theorem dX11_whole_9 : decode cX11_whole 9 = .ok (.ifCond .le 47, 3) := by decide +kernel
theorem dX11_whole_12 : decode cX11_whole 12 = .ok (.aload_n 0, 1) := by decide +kernel
theorem dX11_whole_13 : decode cX11_whole 13 = .ok (.getfield 29, 3) := by decide +kernel
theorem dX11_whole_16 : decode cX11_whole 16 = .ok (.aload_n 0, 1) := by decide +kernel
theorem dX11_whole_17 : decode cX11_whole 17 = .ok (.getfield 160, 3) := by decide +kernel
theorem dX11_whole_20 : decode cX11_whole 20 = .ok (.iconst 1, 1) := by decide +kernel
theorem dX11_whole_21 : decode cX11_whole 21 = .ok (.isub, 1) := by decide +kernel
theorem dX11_whole_22 : decode cX11_whole 22 = .ok (.iaload, 1) := by decide +kernel
theorem dX11_whole_23 : decode cX11_whole 23 = .ok (.iconst 2, 1) := by decide +kernel
theorem dX11_whole_24 : decode cX11_whole 24 = .ok (.if_icmp .ne 32, 3) := by decide +kernel
theorem dX11_whole_27 : decode cX11_whole 27 = .ok (.aload_n 0, 1) := by decide +kernel
theorem dX11_whole_28 : decode cX11_whole 28 = .ok (.dup, 1) := by decide +kernel
theorem dX11_whole_29 : decode cX11_whole 29 = .ok (.getfield 160, 3) := by decide +kernel
theorem dX11_whole_32 : decode cX11_whole 32 = .ok (.iconst 1, 1) := by decide +kernel
theorem dX11_whole_33 : decode cX11_whole 33 = .ok (.isub, 1) := by decide +kernel
theorem dX11_whole_34 : decode cX11_whole 34 = .ok (.putfield 160, 3) := by decide +kernel
theorem dX11_whole_37 : decode cX11_whole 37 = .ok (.aload_n 0, 1) := by decide +kernel
theorem dX11_whole_38 : decode cX11_whole 38 = .ok (.dup, 1) := by decide +kernel
theorem dX11_whole_39 : decode cX11_whole 39 = .ok (.getfield 167, 3) := by decide +kernel
theorem dX11_whole_42 : decode cX11_whole 42 = .ok (.iconst 1, 1) := by decide +kernel
theorem dX11_whole_43 : decode cX11_whole 43 = .ok (.isub, 1) := by decide +kernel
theorem dX11_whole_44 : decode cX11_whole 44 = .ok (.putfield 167, 3) := by decide +kernel
theorem dX11_whole_47 : decode cX11_whole 47 = .ok (.aload_n 0, 1) := by decide +kernel
theorem dX11_whole_48 : decode cX11_whole 48 = .ok (.iconst 2, 1) := by decide +kernel
theorem dX11_whole_49 : decode cX11_whole 49 = .ok (.iconst 0, 1) := by decide +kernel
theorem dX11_whole_50 : decode cX11_whole 50 = .ok (.invokevirtual 170, 3) := by decide +kernel
theorem dX11_whole_53 : decode cX11_whole 53 = .ok (.goto (-48), 3) := by decide +kernel
theorem dX11_whole_56 : decode cX11_whole 56 = .ok (.return_, 1) := by decide +kernel
theorem dX11_settle_0 : decode cX11_settle 0 = .ok (.aload_n 0, 1) := by decide +kernel
theorem dX11_settle_1 : decode cX11_settle 1 = .ok (.getfield 160, 3) := by decide +kernel
theorem dX11_settle_4 : decode cX11_settle 4 = .ok (.ifCond .le 61, 3) := by decide +kernel
theorem dX11_settle_7 : decode cX11_settle 7 = .ok (.aload_n 0, 1) := by decide +kernel
theorem dX11_settle_8 : decode cX11_settle 8 = .ok (.getfield 29, 3) := by decide +kernel
theorem dX11_settle_11 : decode cX11_settle 11 = .ok (.aload_n 0, 1) := by decide +kernel
theorem dX11_settle_12 : decode cX11_settle 12 = .ok (.getfield 160, 3) := by decide +kernel
theorem dX11_settle_15 : decode cX11_settle 15 = .ok (.iconst 1, 1) := by decide +kernel
theorem dX11_settle_16 : decode cX11_settle 16 = .ok (.isub, 1) := by decide +kernel
theorem dX11_settle_17 : decode cX11_settle 17 = .ok (.iaload, 1) := by decide +kernel
theorem dX11_settle_18 : decode cX11_settle 18 = .ok (.bipush 40, 2) := by decide +kernel
theorem dX11_settle_20 : decode cX11_settle 20 = .ok (.if_icmp .ge 45, 3) := by decide +kernel
theorem dX11_settle_23 : decode cX11_settle 23 = .ok (.aload_n 0, 1) := by decide +kernel
theorem dX11_settle_24 : decode cX11_settle 24 = .ok (.getfield 29, 3) := by decide +kernel
theorem dX11_settle_27 : decode cX11_settle 27 = .ok (.aload_n 0, 1) := by decide +kernel
theorem dX11_settle_28 : decode cX11_settle 28 = .ok (.getfield 160, 3) := by decide +kernel
theorem dX11_settle_31 : decode cX11_settle 31 = .ok (.iconst 1, 1) := by decide +kernel
theorem dX11_settle_32 : decode cX11_settle 32 = .ok (.isub, 1) := by decide +kernel
theorem dX11_settle_33 : decode cX11_settle 33 = .ok (.iaload, 1) := by decide +kernel
theorem dX11_settle_34 : decode cX11_settle 34 = .ok (.iload_n 1, 1) := by decide +kernel
theorem dX11_settle_35 : decode cX11_settle 35 = .ok (.if_icmp .lt 30, 3) := by decide +kernel
theorem dX11_settle_38 : decode cX11_settle 38 = .ok (.aload_n 0, 1) := by decide +kernel
theorem dX11_settle_39 : decode cX11_settle 39 = .ok (.dup, 1) := by decide +kernel
theorem dX11_settle_40 : decode cX11_settle 40 = .ok (.getfield 160, 3) := by decide +kernel
theorem dX11_settle_43 : decode cX11_settle 43 = .ok (.iconst 1, 1) := by decide +kernel
theorem dX11_settle_44 : decode cX11_settle 44 = .ok (.isub, 1) := by decide +kernel
theorem dX11_settle_45 : decode cX11_settle 45 = .ok (.putfield 160, 3) := by decide +kernel
theorem dX11_settle_48 : decode cX11_settle 48 = .ok (.aload_n 0, 1) := by decide +kernel
theorem dX11_settle_49 : decode cX11_settle 49 = .ok (.aload_n 0, 1) := by decide +kernel
theorem dX11_settle_50 : decode cX11_settle 50 = .ok (.getfield 29, 3) := by decide +kernel
theorem dX11_settle_53 : decode cX11_settle 53 = .ok (.aload_n 0, 1) := by decide +kernel
theorem dX11_settle_54 : decode cX11_settle 54 = .ok (.getfield 160, 3) := by decide +kernel
theorem dX11_settle_57 : decode cX11_settle 57 = .ok (.iaload, 1) := by decide +kernel
theorem dX11_settle_58 : decode cX11_settle 58 = .ok (.iconst 0, 1) := by decide +kernel
theorem dX11_settle_59 : decode cX11_settle 59 = .ok (.invokevirtual 170, 3) := by decide +kernel
theorem dX11_settle_62 : decode cX11_settle 62 = .ok (.goto (-62), 3) := by decide +kernel
theorem dX11_settle_65 : decode cX11_settle 65 = .ok (.return_, 1) := by decide +kernel
theorem dX11_nameOf_0 : decode cX11_nameOf 0 = .ok (.aload_n 0, 1) := by decide +kernel
theorem dX11_nameOf_1 : decode cX11_nameOf 1 = .ok (.getfield 129, 3) := by decide +kernel
theorem dX11_nameOf_4 : decode cX11_nameOf 4 = .ok (.iconst 2, 1) := by decide +kernel
theorem dX11_nameOf_5 : decode cX11_nameOf 5 = .ok (.if_icmp .eq 5, 3) := by decide +kernel
theorem dX11_nameOf_8 : decode cX11_nameOf 8 = .ok (.iconst (-1), 1) := by decide +kernel
theorem dX11_nameOf_9 : decode cX11_nameOf 9 = .ok (.ireturn, 1) := by decide +kernel
theorem dX11_nameOf_10 : decode cX11_nameOf 10 = .ok (.aload_n 0, 1) := by decide +kernel
theorem dX11_nameOf_11 : decode cX11_nameOf 11 = .ok (.getfield 142, 3) := by decide +kernel
theorem dX11_nameOf_14 : decode cX11_nameOf 14 = .ok (.bipush 115, 2) := by decide +kernel
theorem dX11_nameOf_16 : decode cX11_nameOf 16 = .ok (.bipush 111, 2) := by decide +kernel
theorem dX11_nameOf_18 : decode cX11_nameOf 18 = .ok (.bipush 114, 2) := by decide +kernel
theorem dX11_nameOf_20 : decode cX11_nameOf 20 = .ok (.bipush 116, 2) := by decide +kernel
theorem dX11_nameOf_22 : decode cX11_nameOf 22 = .ok (.invokestatic 173, 3) := by decide +kernel
theorem dX11_nameOf_25 : decode cX11_nameOf 25 = .ok (.lcmp, 1) := by decide +kernel
theorem dX11_nameOf_26 : decode cX11_nameOf 26 = .ok (.ifCond .ne 5, 3) := by decide +kernel
theorem dX11_nameOf_29 : decode cX11_nameOf 29 = .ok (.iconst 0, 1) := by decide +kernel
theorem dX11_nameOf_30 : decode cX11_nameOf 30 = .ok (.ireturn, 1) := by decide +kernel
theorem dX11_nameOf_31 : decode cX11_nameOf 31 = .ok (.aload_n 0, 1) := by decide +kernel
theorem dX11_nameOf_32 : decode cX11_nameOf 32 = .ok (.getfield 142, 3) := by decide +kernel
theorem dX11_nameOf_35 : decode cX11_nameOf 35 = .ok (.bipush 119, 2) := by decide +kernel
theorem dX11_nameOf_37 : decode cX11_nameOf 37 = .ok (.bipush 101, 2) := by decide +kernel
theorem dX11_nameOf_39 : decode cX11_nameOf 39 = .ok (.bipush 105, 2) := by decide +kernel
theorem dX11_nameOf_41 : decode cX11_nameOf 41 = .ok (.bipush 103, 2) := by decide +kernel
theorem dX11_nameOf_43 : decode cX11_nameOf 43 = .ok (.bipush 104, 2) := by decide +kernel
theorem dX11_nameOf_45 : decode cX11_nameOf 45 = .ok (.bipush 116, 2) := by decide +kernel
theorem dX11_nameOf_47 : decode cX11_nameOf 47 = .ok (.invokestatic 177, 3) := by decide +kernel
theorem dX11_nameOf_50 : decode cX11_nameOf 50 = .ok (.lcmp, 1) := by decide +kernel
theorem dX11_nameOf_51 : decode cX11_nameOf 51 = .ok (.ifCond .ne 5, 3) := by decide +kernel
theorem dX11_nameOf_54 : decode cX11_nameOf 54 = .ok (.iconst 1, 1) := by decide +kernel
theorem dX11_nameOf_55 : decode cX11_nameOf 55 = .ok (.ireturn, 1) := by decide +kernel
theorem dX11_nameOf_56 : decode cX11_nameOf 56 = .ok (.aload_n 0, 1) := by decide +kernel
theorem dX11_nameOf_57 : decode cX11_nameOf 57 = .ok (.getfield 142, 3) := by decide +kernel
theorem dX11_nameOf_60 : decode cX11_nameOf 60 = .ok (.bipush 116, 2) := by decide +kernel
theorem dX11_nameOf_62 : decode cX11_nameOf 62 = .ok (.bipush 111, 2) := by decide +kernel
theorem dX11_nameOf_64 : decode cX11_nameOf 64 = .ok (.bipush 119, 2) := by decide +kernel
theorem dX11_nameOf_66 : decode cX11_nameOf 66 = .ok (.bipush 110, 2) := by decide +kernel
theorem dX11_nameOf_68 : decode cX11_nameOf 68 = .ok (.invokestatic 173, 3) := by decide +kernel
theorem dX11_nameOf_71 : decode cX11_nameOf 71 = .ok (.lcmp, 1) := by decide +kernel
theorem dX11_nameOf_72 : decode cX11_nameOf 72 = .ok (.ifCond .ne 5, 3) := by decide +kernel
theorem dX11_nameOf_75 : decode cX11_nameOf 75 = .ok (.iconst 2, 1) := by decide +kernel
theorem dX11_nameOf_76 : decode cX11_nameOf 76 = .ok (.ireturn, 1) := by decide +kernel
theorem dX11_nameOf_77 : decode cX11_nameOf 77 = .ok (.aload_n 0, 1) := by decide +kernel
theorem dX11_nameOf_78 : decode cX11_nameOf 78 = .ok (.getfield 142, 3) := by decide +kernel
theorem dX11_nameOf_81 : decode cX11_nameOf 81 = .ok (.bipush 112, 2) := by decide +kernel
theorem dX11_nameOf_83 : decode cX11_nameOf 83 = .ok (.bipush 114, 2) := by decide +kernel
theorem dX11_nameOf_85 : decode cX11_nameOf 85 = .ok (.bipush 111, 2) := by decide +kernel
theorem dX11_nameOf_87 : decode cX11_nameOf 87 = .ok (.bipush 111, 2) := by decide +kernel
theorem dX11_nameOf_89 : decode cX11_nameOf 89 = .ok (.bipush 102, 2) := by decide +kernel
theorem dX11_nameOf_91 : decode cX11_nameOf 91 = .ok (.bipush 115, 2) := by decide +kernel
theorem dX11_nameOf_93 : decode cX11_nameOf 93 = .ok (.invokestatic 177, 3) := by decide +kernel
theorem dX11_nameOf_96 : decode cX11_nameOf 96 = .ok (.lcmp, 1) := by decide +kernel
theorem dX11_nameOf_97 : decode cX11_nameOf 97 = .ok (.ifCond .ne 5, 3) := by decide +kernel
theorem dX11_nameOf_100 : decode cX11_nameOf 100 = .ok (.iconst 3, 1) := by decide +kernel
theorem dX11_nameOf_101 : decode cX11_nameOf 101 = .ok (.ireturn, 1) := by decide +kernel
theorem dX11_nameOf_102 : decode cX11_nameOf 102 = .ok (.aload_n 0, 1) := by decide +kernel
theorem dX11_nameOf_103 : decode cX11_nameOf 103 = .ok (.getfield 142, 3) := by decide +kernel
theorem dX11_nameOf_106 : decode cX11_nameOf 106 = .ok (.bipush 121, 2) := by decide +kernel
theorem dX11_nameOf_108 : decode cX11_nameOf 108 = .ok (.bipush 101, 2) := by decide +kernel
theorem dX11_nameOf_110 : decode cX11_nameOf 110 = .ok (.bipush 97, 2) := by decide +kernel
theorem dX11_nameOf_112 : decode cX11_nameOf 112 = .ok (.bipush 114, 2) := by decide +kernel
theorem dX11_nameOf_114 : decode cX11_nameOf 114 = .ok (.invokestatic 173, 3) := by decide +kernel
theorem dX11_nameOf_117 : decode cX11_nameOf 117 = .ok (.lcmp, 1) := by decide +kernel
theorem dX11_nameOf_118 : decode cX11_nameOf 118 = .ok (.ifCond .ne 5, 3) := by decide +kernel
theorem dX11_nameOf_121 : decode cX11_nameOf 121 = .ok (.iconst 4, 1) := by decide +kernel
theorem dX11_nameOf_122 : decode cX11_nameOf 122 = .ok (.ireturn, 1) := by decide +kernel
theorem dX11_nameOf_123 : decode cX11_nameOf 123 = .ok (.aload_n 0, 1) := by decide +kernel
theorem dX11_nameOf_124 : decode cX11_nameOf 124 = .ok (.getfield 142, 3) := by decide +kernel
theorem dX11_nameOf_127 : decode cX11_nameOf 127 = .ok (.bipush 111, 2) := by decide +kernel
theorem dX11_nameOf_129 : decode cX11_nameOf 129 = .ok (.bipush 115, 2) := by decide +kernel
theorem dX11_nameOf_131 : decode cX11_nameOf 131 = .ok (.bipush 111, 2) := by decide +kernel
theorem dX11_nameOf_133 : decode cX11_nameOf 133 = .ok (.bipush 114, 2) := by decide +kernel
theorem dX11_nameOf_135 : decode cX11_nameOf 135 = .ok (.bipush 116, 2) := by decide +kernel
theorem dX11_nameOf_137 : decode cX11_nameOf 137 = .ok (.invokestatic 150, 3) := by decide +kernel
theorem dX11_nameOf_140 : decode cX11_nameOf 140 = .ok (.lcmp, 1) := by decide +kernel
theorem dX11_nameOf_141 : decode cX11_nameOf 141 = .ok (.ifCond .ne 5, 3) := by decide +kernel
theorem dX11_nameOf_144 : decode cX11_nameOf 144 = .ok (.iconst 5, 1) := by decide +kernel
theorem dX11_nameOf_145 : decode cX11_nameOf 145 = .ok (.ireturn, 1) := by decide +kernel
theorem dX11_nameOf_146 : decode cX11_nameOf 146 = .ok (.aload_n 0, 1) := by decide +kernel
theorem dX11_nameOf_147 : decode cX11_nameOf 147 = .ok (.getfield 142, 3) := by decide +kernel
theorem dX11_nameOf_150 : decode cX11_nameOf 150 = .ok (.bipush 111, 2) := by decide +kernel
theorem dX11_nameOf_152 : decode cX11_nameOf 152 = .ok (.bipush 119, 2) := by decide +kernel
theorem dX11_nameOf_154 : decode cX11_nameOf 154 = .ok (.bipush 101, 2) := by decide +kernel
theorem dX11_nameOf_156 : decode cX11_nameOf 156 = .ok (.invokestatic 146, 3) := by decide +kernel
theorem dX11_nameOf_159 : decode cX11_nameOf 159 = .ok (.bipush 32, 2) := by decide +kernel
theorem dX11_nameOf_161 : decode cX11_nameOf 161 = .ok (.lshl, 1) := by decide +kernel
theorem dX11_nameOf_162 : decode cX11_nameOf 162 = .ok (.bipush 105, 2) := by decide +kernel
theorem dX11_nameOf_164 : decode cX11_nameOf 164 = .ok (.bipush 103, 2) := by decide +kernel
theorem dX11_nameOf_166 : decode cX11_nameOf 166 = .ok (.bipush 104, 2) := by decide +kernel
theorem dX11_nameOf_168 : decode cX11_nameOf 168 = .ok (.bipush 116, 2) := by decide +kernel
theorem dX11_nameOf_170 : decode cX11_nameOf 170 = .ok (.invokestatic 173, 3) := by decide +kernel
theorem dX11_nameOf_173 : decode cX11_nameOf 173 = .ok (.lor, 1) := by decide +kernel
theorem dX11_nameOf_174 : decode cX11_nameOf 174 = .ok (.lcmp, 1) := by decide +kernel
theorem dX11_nameOf_175 : decode cX11_nameOf 175 = .ok (.ifCond .ne 8, 3) := by decide +kernel
theorem dX11_nameOf_178 : decode cX11_nameOf 178 = .ok (.bipush 6, 2) := by decide +kernel
theorem dX11_nameOf_180 : decode cX11_nameOf 180 = .ok (.goto 30, 3) := by decide +kernel
theorem dX11_nameOf_183 : decode cX11_nameOf 183 = .ok (.aload_n 0, 1) := by decide +kernel
theorem dX11_nameOf_184 : decode cX11_nameOf 184 = .ok (.getfield 142, 3) := by decide +kernel
theorem dX11_nameOf_187 : decode cX11_nameOf 187 = .ok (.bipush 111, 2) := by decide +kernel
theorem dX11_nameOf_189 : decode cX11_nameOf 189 = .ok (.bipush 116, 2) := by decide +kernel
theorem dX11_nameOf_191 : decode cX11_nameOf 191 = .ok (.bipush 111, 2) := by decide +kernel
theorem dX11_nameOf_193 : decode cX11_nameOf 193 = .ok (.bipush 119, 2) := by decide +kernel
theorem dX11_nameOf_195 : decode cX11_nameOf 195 = .ok (.bipush 110, 2) := by decide +kernel
theorem dX11_nameOf_197 : decode cX11_nameOf 197 = .ok (.invokestatic 150, 3) := by decide +kernel
theorem dX11_nameOf_200 : decode cX11_nameOf 200 = .ok (.lcmp, 1) := by decide +kernel
theorem dX11_nameOf_201 : decode cX11_nameOf 201 = .ok (.ifCond .ne 8, 3) := by decide +kernel
theorem dX11_nameOf_204 : decode cX11_nameOf 204 = .ok (.bipush 7, 2) := by decide +kernel
theorem dX11_nameOf_206 : decode cX11_nameOf 206 = .ok (.goto 4, 3) := by decide +kernel
theorem dX11_nameOf_209 : decode cX11_nameOf 209 = .ok (.iconst (-1), 1) := by decide +kernel
theorem dX11_nameOf_210 : decode cX11_nameOf 210 = .ok (.ireturn, 1) := by decide +kernel
theorem dX11_isBarred_0 : decode cX11_isBarred 0 = .ok (.iload_n 1, 1) := by decide +kernel
theorem dX11_isBarred_1 : decode cX11_isBarred 1 = .ok (.iconst 4, 1) := by decide +kernel
theorem dX11_isBarred_2 : decode cX11_isBarred 2 = .ok (.if_icmp .le 15, 3) := by decide +kernel
theorem dX11_isBarred_5 : decode cX11_isBarred 5 = .ok (.aload_n 0, 1) := by decide +kernel
theorem dX11_isBarred_6 : decode cX11_isBarred 6 = .ok (.getfield 181, 3) := by decide +kernel
theorem dX11_isBarred_9 : decode cX11_isBarred 9 = .ok (.iconst 2, 1) := by decide +kernel
theorem dX11_isBarred_10 : decode cX11_isBarred 10 = .ok (.if_icmp .eq 7, 3) := by decide +kernel
theorem dX11_isBarred_13 : decode cX11_isBarred 13 = .ok (.iconst 1, 1) := by decide +kernel
theorem dX11_isBarred_14 : decode cX11_isBarred 14 = .ok (.goto 4, 3) := by decide +kernel
theorem dX11_isBarred_17 : decode cX11_isBarred 17 = .ok (.iconst 0, 1) := by decide +kernel
theorem dX11_isBarred_18 : decode cX11_isBarred 18 = .ok (.ireturn, 1) := by decide +kernel
theorem dX11_beginOne_0 : decode cX11_beginOne 0 = .ok (.aload_n 0, 1) := by decide +kernel
theorem dX11_beginOne_1 : decode cX11_beginOne 1 = .ok (.getfield 129, 3) := by decide +kernel
theorem dX11_beginOne_4 : decode cX11_beginOne 4 = .ok (.iconst 1, 1) := by decide +kernel
theorem dX11_beginOne_5 : decode cX11_beginOne 5 = .ok (.if_icmp .ne 34, 3) := by decide +kernel
theorem dX11_beginOne_8 : decode cX11_beginOne 8 = .ok (.aload_n 0, 1) := by decide +kernel
theorem dX11_beginOne_9 : decode cX11_beginOne 9 = .ok (.getfield 135, 3) := by decide +kernel
theorem dX11_beginOne_12 : decode cX11_beginOne 12 = .ok (.sipush 9999, 3) := by decide +kernel
theorem dX11_beginOne_15 : decode cX11_beginOne 15 = .ok (.if_icmp .le 5, 3) := by decide +kernel
theorem dX11_beginOne_18 : decode cX11_beginOne 18 = .ok (.iconst 2, 1) := by decide +kernel
theorem dX11_beginOne_19 : decode cX11_beginOne 19 = .ok (.ireturn, 1) := by decide +kernel
theorem dX11_beginOne_20 : decode cX11_beginOne 20 = .ok (.aload_n 0, 1) := by decide +kernel
theorem dX11_beginOne_21 : decode cX11_beginOne 21 = .ok (.iconst 0, 1) := by decide +kernel
theorem dX11_beginOne_22 : decode cX11_beginOne 22 = .ok (.aload_n 0, 1) := by decide +kernel
theorem dX11_beginOne_23 : decode cX11_beginOne 23 = .ok (.getfield 135, 3) := by decide +kernel
theorem dX11_beginOne_26 : decode cX11_beginOne 26 = .ok (.invokevirtual 170, 3) := by decide +kernel
theorem dX11_beginOne_29 : decode cX11_beginOne 29 = .ok (.aload_n 0, 1) := by decide +kernel
theorem dX11_beginOne_30 : decode cX11_beginOne 30 = .ok (.invokevirtual 184, 3) := by decide +kernel
theorem dX11_beginOne_33 : decode cX11_beginOne 33 = .ok (.aload_n 0, 1) := by decide +kernel
theorem dX11_beginOne_34 : decode cX11_beginOne 34 = .ok (.invokevirtual 187, 3) := by decide +kernel
theorem dX11_beginOne_37 : decode cX11_beginOne 37 = .ok (.iconst 0, 1) := by decide +kernel
theorem dX11_beginOne_38 : decode cX11_beginOne 38 = .ok (.ireturn, 1) := by decide +kernel
theorem dX11_beginOne_39 : decode cX11_beginOne 39 = .ok (.aload_n 0, 1) := by decide +kernel
theorem dX11_beginOne_40 : decode cX11_beginOne 40 = .ok (.invokevirtual 190, 3) := by decide +kernel
theorem dX11_beginOne_43 : decode cX11_beginOne 43 = .ok (.ifCond .lt 35, 3) := by decide +kernel
theorem dX11_beginOne_46 : decode cX11_beginOne 46 = .ok (.aload_n 0, 1) := by decide +kernel
theorem dX11_beginOne_47 : decode cX11_beginOne 47 = .ok (.aload_n 0, 1) := by decide +kernel
theorem dX11_beginOne_48 : decode cX11_beginOne 48 = .ok (.invokevirtual 190, 3) := by decide +kernel
theorem dX11_beginOne_51 : decode cX11_beginOne 51 = .ok (.invokevirtual 194, 3) := by decide +kernel
theorem dX11_beginOne_54 : decode cX11_beginOne 54 = .ok (.ifCond .eq 5, 3) := by decide +kernel
theorem dX11_beginOne_57 : decode cX11_beginOne 57 = .ok (.iconst 5, 1) := by decide +kernel
theorem dX11_beginOne_58 : decode cX11_beginOne 58 = .ok (.ireturn, 1) := by decide +kernel
theorem dX11_beginOne_59 : decode cX11_beginOne 59 = .ok (.aload_n 0, 1) := by decide +kernel
theorem dX11_beginOne_60 : decode cX11_beginOne 60 = .ok (.iconst 1, 1) := by decide +kernel
theorem dX11_beginOne_61 : decode cX11_beginOne 61 = .ok (.aload_n 0, 1) := by decide +kernel
theorem dX11_beginOne_62 : decode cX11_beginOne 62 = .ok (.invokevirtual 190, 3) := by decide +kernel
theorem dX11_beginOne_65 : decode cX11_beginOne 65 = .ok (.invokevirtual 170, 3) := by decide +kernel
theorem dX11_beginOne_68 : decode cX11_beginOne 68 = .ok (.aload_n 0, 1) := by decide +kernel
theorem dX11_beginOne_69 : decode cX11_beginOne 69 = .ok (.invokevirtual 184, 3) := by decide +kernel
theorem dX11_beginOne_72 : decode cX11_beginOne 72 = .ok (.aload_n 0, 1) := by decide +kernel
theorem dX11_beginOne_73 : decode cX11_beginOne 73 = .ok (.invokevirtual 187, 3) := by decide +kernel
theorem dX11_beginOne_76 : decode cX11_beginOne 76 = .ok (.iconst 0, 1) := by decide +kernel
theorem dX11_beginOne_77 : decode cX11_beginOne 77 = .ok (.ireturn, 1) := by decide +kernel
theorem dX11_beginOne_78 : decode cX11_beginOne 78 = .ok (.aload_n 0, 1) := by decide +kernel
theorem dX11_beginOne_79 : decode cX11_beginOne 79 = .ok (.getfield 129, 3) := by decide +kernel
theorem dX11_beginOne_82 : decode cX11_beginOne 82 = .ok (.bipush 40, 2) := by decide +kernel
theorem dX11_beginOne_84 : decode cX11_beginOne 84 = .ok (.if_icmp .ne 8, 3) := by decide +kernel
theorem dX11_beginOne_87 : decode cX11_beginOne 87 = .ok (.bipush 40, 2) := by decide +kernel
theorem dX11_beginOne_89 : decode cX11_beginOne 89 = .ok (.goto 17, 3) := by decide +kernel
theorem dX11_beginOne_92 : decode cX11_beginOne 92 = .ok (.aload_n 0, 1) := by decide +kernel
theorem dX11_beginOne_93 : decode cX11_beginOne 93 = .ok (.getfield 129, 3) := by decide +kernel
theorem dX11_beginOne_96 : decode cX11_beginOne 96 = .ok (.bipush 45, 2) := by decide +kernel
theorem dX11_beginOne_98 : decode cX11_beginOne 98 = .ok (.if_icmp .ne 7, 3) := by decide +kernel
theorem dX11_beginOne_101 : decode cX11_beginOne 101 = .ok (.iconst 2, 1) := by decide +kernel
theorem dX11_beginOne_102 : decode cX11_beginOne 102 = .ok (.goto 4, 3) := by decide +kernel
theorem dX11_beginOne_105 : decode cX11_beginOne 105 = .ok (.iconst 0, 1) := by decide +kernel
theorem dX11_beginOne_106 : decode cX11_beginOne 106 = .ok (.istore_n 1, 1) := by decide +kernel
theorem dX11_beginOne_107 : decode cX11_beginOne 107 = .ok (.iload_n 1, 1) := by decide +kernel
theorem dX11_beginOne_108 : decode cX11_beginOne 108 = .ok (.ifCond .ne 5, 3) := by decide +kernel
theorem dX11_beginOne_111 : decode cX11_beginOne 111 = .ok (.iconst 1, 1) := by decide +kernel
theorem dX11_beginOne_112 : decode cX11_beginOne 112 = .ok (.ireturn, 1) := by decide +kernel
theorem dX11_beginOne_113 : decode cX11_beginOne 113 = .ok (.aload_n 0, 1) := by decide +kernel
theorem dX11_beginOne_114 : decode cX11_beginOne 114 = .ok (.getfield 167, 3) := by decide +kernel
theorem dX11_beginOne_117 : decode cX11_beginOne 117 = .ok (.bipush 8, 2) := by decide +kernel
theorem dX11_beginOne_119 : decode cX11_beginOne 119 = .ok (.if_icmp .ne 5, 3) := by decide +kernel
theorem dX11_beginOne_122 : decode cX11_beginOne 122 = .ok (.iconst 3, 1) := by decide +kernel
theorem dX11_beginOne_123 : decode cX11_beginOne 123 = .ok (.ireturn, 1) := by decide +kernel
theorem dX11_beginOne_124 : decode cX11_beginOne 124 = .ok (.aload_n 0, 1) := by decide +kernel
theorem dX11_beginOne_125 : decode cX11_beginOne 125 = .ok (.dup, 1) := by decide +kernel
theorem dX11_beginOne_126 : decode cX11_beginOne 126 = .ok (.getfield 167, 3) := by decide +kernel
theorem dX11_beginOne_129 : decode cX11_beginOne 129 = .ok (.iconst 1, 1) := by decide +kernel
theorem dX11_beginOne_130 : decode cX11_beginOne 130 = .ok (.iadd, 1) := by decide +kernel
theorem dX11_beginOne_131 : decode cX11_beginOne 131 = .ok (.putfield 167, 3) := by decide +kernel
theorem dX11_beginOne_134 : decode cX11_beginOne 134 = .ok (.aload_n 0, 1) := by decide +kernel
theorem dX11_beginOne_135 : decode cX11_beginOne 135 = .ok (.iload_n 1, 1) := by decide +kernel
theorem dX11_beginOne_136 : decode cX11_beginOne 136 = .ok (.invokevirtual 197, 3) := by decide +kernel
theorem dX11_beginOne_139 : decode cX11_beginOne 139 = .ok (.aload_n 0, 1) := by decide +kernel
theorem dX11_beginOne_140 : decode cX11_beginOne 140 = .ok (.invokevirtual 184, 3) := by decide +kernel
theorem dX11_beginOne_143 : decode cX11_beginOne 143 = .ok (.iconst 0, 1) := by decide +kernel
theorem dX11_beginOne_144 : decode cX11_beginOne 144 = .ok (.ireturn, 1) := by decide +kernel
theorem dX11_hasParen_0 : decode cX11_hasParen 0 = .ok (.iconst 0, 1) := by decide +kernel
theorem dX11_hasParen_1 : decode cX11_hasParen 1 = .ok (.istore_n 1, 1) := by decide +kernel
theorem dX11_hasParen_2 : decode cX11_hasParen 2 = .ok (.iload_n 1, 1) := by decide +kernel
theorem dX11_hasParen_3 : decode cX11_hasParen 3 = .ok (.aload_n 0, 1) := by decide +kernel
theorem dX11_hasParen_4 : decode cX11_hasParen 4 = .ok (.getfield 160, 3) := by decide +kernel
theorem dX11_hasParen_7 : decode cX11_hasParen 7 = .ok (.if_icmp .ge 22, 3) := by decide +kernel
theorem dX11_hasParen_10 : decode cX11_hasParen 10 = .ok (.aload_n 0, 1) := by decide +kernel
theorem dX11_hasParen_11 : decode cX11_hasParen 11 = .ok (.getfield 29, 3) := by decide +kernel
theorem dX11_hasParen_14 : decode cX11_hasParen 14 = .ok (.iload_n 1, 1) := by decide +kernel
theorem dX11_hasParen_15 : decode cX11_hasParen 15 = .ok (.iaload, 1) := by decide +kernel
theorem dX11_hasParen_16 : decode cX11_hasParen 16 = .ok (.bipush 40, 2) := by decide +kernel
theorem dX11_hasParen_18 : decode cX11_hasParen 18 = .ok (.if_icmp .ne 5, 3) := by decide +kernel
theorem dX11_hasParen_21 : decode cX11_hasParen 21 = .ok (.iconst 1, 1) := by decide +kernel
theorem dX11_hasParen_22 : decode cX11_hasParen 22 = .ok (.ireturn, 1) := by decide +kernel
theorem dX11_hasParen_23 : decode cX11_hasParen 23 = .ok (.iinc 1 1, 3) := by decide +kernel
theorem dX11_hasParen_26 : decode cX11_hasParen 26 = .ok (.goto (-24), 3) := by decide +kernel
theorem dX11_hasParen_29 : decode cX11_hasParen 29 = .ok (.iconst 0, 1) := by decide +kernel
theorem dX11_hasParen_30 : decode cX11_hasParen 30 = .ok (.ireturn, 1) := by decide +kernel
theorem dX11_goesOn_0 : decode cX11_goesOn 0 = .ok (.aload_n 0, 1) := by decide +kernel
theorem dX11_goesOn_1 : decode cX11_goesOn 1 = .ok (.getfield 129, 3) := by decide +kernel
theorem dX11_goesOn_4 : decode cX11_goesOn 4 = .ok (.bipush 43, 2) := by decide +kernel
theorem dX11_goesOn_6 : decode cX11_goesOn 6 = .ok (.if_icmp .eq 46, 3) := by decide +kernel
theorem dX11_goesOn_9 : decode cX11_goesOn 9 = .ok (.aload_n 0, 1) := by decide +kernel
theorem dX11_goesOn_10 : decode cX11_goesOn 10 = .ok (.getfield 129, 3) := by decide +kernel
theorem dX11_goesOn_13 : decode cX11_goesOn 13 = .ok (.bipush 45, 2) := by decide +kernel
theorem dX11_goesOn_15 : decode cX11_goesOn 15 = .ok (.if_icmp .eq 37, 3) := by decide +kernel
theorem dX11_goesOn_18 : decode cX11_goesOn 18 = .ok (.aload_n 0, 1) := by decide +kernel
theorem dX11_goesOn_19 : decode cX11_goesOn 19 = .ok (.getfield 129, 3) := by decide +kernel
theorem dX11_goesOn_22 : decode cX11_goesOn 22 = .ok (.bipush 42, 2) := by decide +kernel
theorem dX11_goesOn_24 : decode cX11_goesOn 24 = .ok (.if_icmp .eq 28, 3) := by decide +kernel
theorem dX11_goesOn_27 : decode cX11_goesOn 27 = .ok (.aload_n 0, 1) := by decide +kernel
theorem dX11_goesOn_28 : decode cX11_goesOn 28 = .ok (.getfield 129, 3) := by decide +kernel
theorem dX11_goesOn_31 : decode cX11_goesOn 31 = .ok (.bipush 47, 2) := by decide +kernel
theorem dX11_goesOn_33 : decode cX11_goesOn 33 = .ok (.if_icmp .eq 19, 3) := by decide +kernel
theorem dX11_goesOn_36 : decode cX11_goesOn 36 = .ok (.aload_n 0, 1) := by decide +kernel
theorem dX11_goesOn_37 : decode cX11_goesOn 37 = .ok (.getfield 129, 3) := by decide +kernel
theorem dX11_goesOn_40 : decode cX11_goesOn 40 = .ok (.bipush 41, 2) := by decide +kernel
theorem dX11_goesOn_42 : decode cX11_goesOn 42 = .ok (.if_icmp .ne 14, 3) := by decide +kernel
theorem dX11_goesOn_45 : decode cX11_goesOn 45 = .ok (.aload_n 0, 1) := by decide +kernel
theorem dX11_goesOn_46 : decode cX11_goesOn 46 = .ok (.invokevirtual 200, 3) := by decide +kernel
theorem dX11_goesOn_49 : decode cX11_goesOn 49 = .ok (.ifCond .eq 7, 3) := by decide +kernel
theorem dX11_goesOn_52 : decode cX11_goesOn 52 = .ok (.iconst 1, 1) := by decide +kernel
theorem dX11_goesOn_53 : decode cX11_goesOn 53 = .ok (.goto 4, 3) := by decide +kernel
theorem dX11_goesOn_56 : decode cX11_goesOn 56 = .ok (.iconst 0, 1) := by decide +kernel
theorem dX11_goesOn_57 : decode cX11_goesOn 57 = .ok (.ireturn, 1) := by decide +kernel
theorem dX11_behindOne_0 : decode cX11_behindOne 0 = .ok (.aload_n 0, 1) := by decide +kernel
theorem dX11_behindOne_1 : decode cX11_behindOne 1 = .ok (.getfield 129, 3) := by decide +kernel
theorem dX11_behindOne_4 : decode cX11_behindOne 4 = .ok (.istore_n 1, 1) := by decide +kernel
theorem dX11_behindOne_5 : decode cX11_behindOne 5 = .ok (.iload_n 1, 1) := by decide +kernel
theorem dX11_behindOne_6 : decode cX11_behindOne 6 = .ok (.bipush 43, 2) := by decide +kernel
theorem dX11_behindOne_8 : decode cX11_behindOne 8 = .ok (.if_icmp .eq 9, 3) := by decide +kernel
theorem dX11_behindOne_11 : decode cX11_behindOne 11 = .ok (.iload_n 1, 1) := by decide +kernel
theorem dX11_behindOne_12 : decode cX11_behindOne 12 = .ok (.bipush 45, 2) := by decide +kernel
theorem dX11_behindOne_14 : decode cX11_behindOne 14 = .ok (.if_icmp .ne 31, 3) := by decide +kernel
theorem dX11_behindOne_17 : decode cX11_behindOne 17 = .ok (.aload_n 0, 1) := by decide +kernel
theorem dX11_behindOne_18 : decode cX11_behindOne 18 = .ok (.iconst 3, 1) := by decide +kernel
theorem dX11_behindOne_19 : decode cX11_behindOne 19 = .ok (.invokevirtual 204, 3) := by decide +kernel
theorem dX11_behindOne_22 : decode cX11_behindOne 22 = .ok (.aload_n 0, 1) := by decide +kernel
theorem dX11_behindOne_23 : decode cX11_behindOne 23 = .ok (.iload_n 1, 1) := by decide +kernel
theorem dX11_behindOne_24 : decode cX11_behindOne 24 = .ok (.bipush 43, 2) := by decide +kernel
theorem dX11_behindOne_26 : decode cX11_behindOne 26 = .ok (.if_icmp .ne 7, 3) := by decide +kernel
theorem dX11_behindOne_29 : decode cX11_behindOne 29 = .ok (.iconst 3, 1) := by decide +kernel
theorem dX11_behindOne_30 : decode cX11_behindOne 30 = .ok (.goto 4, 3) := by decide +kernel
theorem dX11_behindOne_33 : decode cX11_behindOne 33 = .ok (.iconst 4, 1) := by decide +kernel
theorem dX11_behindOne_34 : decode cX11_behindOne 34 = .ok (.invokevirtual 197, 3) := by decide +kernel
theorem dX11_behindOne_37 : decode cX11_behindOne 37 = .ok (.aload_n 0, 1) := by decide +kernel
theorem dX11_behindOne_38 : decode cX11_behindOne 38 = .ok (.iconst 0, 1) := by decide +kernel
theorem dX11_behindOne_39 : decode cX11_behindOne 39 = .ok (.putfield 163, 3) := by decide +kernel
theorem dX11_behindOne_42 : decode cX11_behindOne 42 = .ok (.goto 73, 3) := by decide +kernel
theorem dX11_behindOne_45 : decode cX11_behindOne 45 = .ok (.iload_n 1, 1) := by decide +kernel
theorem dX11_behindOne_46 : decode cX11_behindOne 46 = .ok (.bipush 42, 2) := by decide +kernel
theorem dX11_behindOne_48 : decode cX11_behindOne 48 = .ok (.if_icmp .eq 9, 3) := by decide +kernel
theorem dX11_behindOne_51 : decode cX11_behindOne 51 = .ok (.iload_n 1, 1) := by decide +kernel
theorem dX11_behindOne_52 : decode cX11_behindOne 52 = .ok (.bipush 47, 2) := by decide +kernel
theorem dX11_behindOne_54 : decode cX11_behindOne 54 = .ok (.if_icmp .ne 32, 3) := by decide +kernel
theorem dX11_behindOne_57 : decode cX11_behindOne 57 = .ok (.aload_n 0, 1) := by decide +kernel
theorem dX11_behindOne_58 : decode cX11_behindOne 58 = .ok (.iconst 5, 1) := by decide +kernel
theorem dX11_behindOne_59 : decode cX11_behindOne 59 = .ok (.invokevirtual 204, 3) := by decide +kernel
theorem dX11_behindOne_62 : decode cX11_behindOne 62 = .ok (.aload_n 0, 1) := by decide +kernel
theorem dX11_behindOne_63 : decode cX11_behindOne 63 = .ok (.iload_n 1, 1) := by decide +kernel
theorem dX11_behindOne_64 : decode cX11_behindOne 64 = .ok (.bipush 42, 2) := by decide +kernel
theorem dX11_behindOne_66 : decode cX11_behindOne 66 = .ok (.if_icmp .ne 7, 3) := by decide +kernel
theorem dX11_behindOne_69 : decode cX11_behindOne 69 = .ok (.iconst 5, 1) := by decide +kernel
theorem dX11_behindOne_70 : decode cX11_behindOne 70 = .ok (.goto 5, 3) := by decide +kernel
theorem dX11_behindOne_73 : decode cX11_behindOne 73 = .ok (.bipush 6, 2) := by decide +kernel
theorem dX11_behindOne_75 : decode cX11_behindOne 75 = .ok (.invokevirtual 197, 3) := by decide +kernel
theorem dX11_behindOne_78 : decode cX11_behindOne 78 = .ok (.aload_n 0, 1) := by decide +kernel
theorem dX11_behindOne_79 : decode cX11_behindOne 79 = .ok (.iconst 0, 1) := by decide +kernel
theorem dX11_behindOne_80 : decode cX11_behindOne 80 = .ok (.putfield 163, 3) := by decide +kernel
theorem dX11_behindOne_83 : decode cX11_behindOne 83 = .ok (.goto 32, 3) := by decide +kernel
theorem dX11_behindOne_86 : decode cX11_behindOne 86 = .ok (.aload_n 0, 1) := by decide +kernel
theorem dX11_behindOne_87 : decode cX11_behindOne 87 = .ok (.iconst 3, 1) := by decide +kernel
theorem dX11_behindOne_88 : decode cX11_behindOne 88 = .ok (.invokevirtual 204, 3) := by decide +kernel
theorem dX11_behindOne_91 : decode cX11_behindOne 91 = .ok (.aload_n 0, 1) := by decide +kernel
theorem dX11_behindOne_92 : decode cX11_behindOne 92 = .ok (.dup, 1) := by decide +kernel
theorem dX11_behindOne_93 : decode cX11_behindOne 93 = .ok (.getfield 160, 3) := by decide +kernel
theorem dX11_behindOne_96 : decode cX11_behindOne 96 = .ok (.iconst 1, 1) := by decide +kernel
theorem dX11_behindOne_97 : decode cX11_behindOne 97 = .ok (.isub, 1) := by decide +kernel
theorem dX11_behindOne_98 : decode cX11_behindOne 98 = .ok (.putfield 160, 3) := by decide +kernel
theorem dX11_behindOne_101 : decode cX11_behindOne 101 = .ok (.aload_n 0, 1) := by decide +kernel
theorem dX11_behindOne_102 : decode cX11_behindOne 102 = .ok (.dup, 1) := by decide +kernel
theorem dX11_behindOne_103 : decode cX11_behindOne 103 = .ok (.getfield 167, 3) := by decide +kernel
theorem dX11_behindOne_106 : decode cX11_behindOne 106 = .ok (.iconst 1, 1) := by decide +kernel
theorem dX11_behindOne_107 : decode cX11_behindOne 107 = .ok (.isub, 1) := by decide +kernel
theorem dX11_behindOne_108 : decode cX11_behindOne 108 = .ok (.putfield 167, 3) := by decide +kernel
theorem dX11_behindOne_111 : decode cX11_behindOne 111 = .ok (.aload_n 0, 1) := by decide +kernel
theorem dX11_behindOne_112 : decode cX11_behindOne 112 = .ok (.invokevirtual 187, 3) := by decide +kernel
theorem dX11_behindOne_115 : decode cX11_behindOne 115 = .ok (.aload_n 0, 1) := by decide +kernel
theorem dX11_behindOne_116 : decode cX11_behindOne 116 = .ok (.invokevirtual 184, 3) := by decide +kernel
theorem dX11_behindOne_119 : decode cX11_behindOne 119 = .ok (.iconst 0, 1) := by decide +kernel
theorem dX11_behindOne_120 : decode cX11_behindOne 120 = .ok (.ireturn, 1) := by decide +kernel
theorem dX11_summed_0 : decode cX11_summed 0 = .ok (.aload_n 0, 1) := by decide +kernel
theorem dX11_summed_1 : decode cX11_summed 1 = .ok (.iconst 0, 1) := by decide +kernel
theorem dX11_summed_2 : decode cX11_summed 2 = .ok (.putfield 160, 3) := by decide +kernel
theorem dX11_summed_5 : decode cX11_summed 5 = .ok (.aload_n 0, 1) := by decide +kernel
theorem dX11_summed_6 : decode cX11_summed 6 = .ok (.iconst 0, 1) := by decide +kernel
theorem dX11_summed_7 : decode cX11_summed 7 = .ok (.putfield 163, 3) := by decide +kernel
theorem dX11_summed_10 : decode cX11_summed 10 = .ok (.aload_n 0, 1) := by decide +kernel
theorem dX11_summed_11 : decode cX11_summed 11 = .ok (.getfield 163, 3) := by decide +kernel
theorem dX11_summed_14 : decode cX11_summed 14 = .ok (.ifCond .eq 10, 3) := by decide +kernel
theorem dX11_summed_17 : decode cX11_summed 17 = .ok (.aload_n 0, 1) := by decide +kernel
theorem dX11_summed_18 : decode cX11_summed 18 = .ok (.invokevirtual 207, 3) := by decide +kernel
theorem dX11_summed_21 : decode cX11_summed 21 = .ok (.ifCond .eq 31, 3) := by decide +kernel
theorem dX11_summed_24 : decode cX11_summed 24 = .ok (.aload_n 0, 1) := by decide +kernel
theorem dX11_summed_25 : decode cX11_summed 25 = .ok (.getfield 163, 3) := by decide +kernel
theorem dX11_summed_28 : decode cX11_summed 28 = .ok (.ifCond .eq 10, 3) := by decide +kernel
theorem dX11_summed_31 : decode cX11_summed 31 = .ok (.aload_n 0, 1) := by decide +kernel
theorem dX11_summed_32 : decode cX11_summed 32 = .ok (.invokevirtual 210, 3) := by decide +kernel
theorem dX11_summed_35 : decode cX11_summed 35 = .ok (.goto 7, 3) := by decide +kernel
theorem dX11_summed_38 : decode cX11_summed 38 = .ok (.aload_n 0, 1) := by decide +kernel
theorem dX11_summed_39 : decode cX11_summed 39 = .ok (.invokevirtual 213, 3) := by decide +kernel
theorem dX11_summed_42 : decode cX11_summed 42 = .ok (.istore_n 1, 1) := by decide +kernel
theorem dX11_summed_43 : decode cX11_summed 43 = .ok (.iload_n 1, 1) := by decide +kernel
theorem dX11_summed_44 : decode cX11_summed 44 = .ok (.ifCond .eq 5, 3) := by decide +kernel
theorem dX11_summed_47 : decode cX11_summed 47 = .ok (.iload_n 1, 1) := by decide +kernel
theorem dX11_summed_48 : decode cX11_summed 48 = .ok (.ireturn, 1) := by decide +kernel
theorem dX11_summed_49 : decode cX11_summed 49 = .ok (.goto (-39), 3) := by decide +kernel
theorem dX11_summed_52 : decode cX11_summed 52 = .ok (.aload_n 0, 1) := by decide +kernel
theorem dX11_summed_53 : decode cX11_summed 53 = .ok (.iconst 3, 1) := by decide +kernel
theorem dX11_summed_54 : decode cX11_summed 54 = .ok (.invokevirtual 204, 3) := by decide +kernel
theorem dX11_summed_57 : decode cX11_summed 57 = .ok (.aload_n 0, 1) := by decide +kernel
theorem dX11_summed_58 : decode cX11_summed 58 = .ok (.getfield 160, 3) := by decide +kernel
theorem dX11_summed_61 : decode cX11_summed 61 = .ok (.ifCond .le 7, 3) := by decide +kernel
theorem dX11_summed_64 : decode cX11_summed 64 = .ok (.iconst 1, 1) := by decide +kernel
theorem dX11_summed_65 : decode cX11_summed 65 = .ok (.goto 4, 3) := by decide +kernel
theorem dX11_summed_68 : decode cX11_summed 68 = .ok (.iconst 0, 1) := by decide +kernel
theorem dX11_summed_69 : decode cX11_summed 69 = .ok (.ireturn, 1) := by decide +kernel
theorem dX11_compareOf_0 : decode cX11_compareOf 0 = .ok (.aload_n 0, 1) := by decide +kernel
theorem dX11_compareOf_1 : decode cX11_compareOf 1 = .ok (.getfield 129, 3) := by decide +kernel
theorem dX11_compareOf_4 : decode cX11_compareOf 4 = .ok (.bipush 60, 2) := by decide +kernel
theorem dX11_compareOf_6 : decode cX11_compareOf 6 = .ok (.if_icmp .ne 8, 3) := by decide +kernel
theorem dX11_compareOf_9 : decode cX11_compareOf 9 = .ok (.bipush 10, 2) := by decide +kernel
theorem dX11_compareOf_11 : decode cX11_compareOf 11 = .ok (.goto 72, 3) := by decide +kernel
theorem dX11_compareOf_14 : decode cX11_compareOf 14 = .ok (.aload_n 0, 1) := by decide +kernel
theorem dX11_compareOf_15 : decode cX11_compareOf 15 = .ok (.getfield 129, 3) := by decide +kernel
theorem dX11_compareOf_18 : decode cX11_compareOf 18 = .ok (.iconst 4, 1) := by decide +kernel
theorem dX11_compareOf_19 : decode cX11_compareOf 19 = .ok (.if_icmp .ne 8, 3) := by decide +kernel
theorem dX11_compareOf_22 : decode cX11_compareOf 22 = .ok (.bipush 11, 2) := by decide +kernel
theorem dX11_compareOf_24 : decode cX11_compareOf 24 = .ok (.goto 59, 3) := by decide +kernel
theorem dX11_compareOf_27 : decode cX11_compareOf 27 = .ok (.aload_n 0, 1) := by decide +kernel
theorem dX11_compareOf_28 : decode cX11_compareOf 28 = .ok (.getfield 129, 3) := by decide +kernel
theorem dX11_compareOf_31 : decode cX11_compareOf 31 = .ok (.bipush 62, 2) := by decide +kernel
theorem dX11_compareOf_33 : decode cX11_compareOf 33 = .ok (.if_icmp .ne 8, 3) := by decide +kernel
theorem dX11_compareOf_36 : decode cX11_compareOf 36 = .ok (.bipush 12, 2) := by decide +kernel
theorem dX11_compareOf_38 : decode cX11_compareOf 38 = .ok (.goto 45, 3) := by decide +kernel
theorem dX11_compareOf_41 : decode cX11_compareOf 41 = .ok (.aload_n 0, 1) := by decide +kernel
theorem dX11_compareOf_42 : decode cX11_compareOf 42 = .ok (.getfield 129, 3) := by decide +kernel
theorem dX11_compareOf_45 : decode cX11_compareOf 45 = .ok (.iconst 5, 1) := by decide +kernel
theorem dX11_compareOf_46 : decode cX11_compareOf 46 = .ok (.if_icmp .ne 8, 3) := by decide +kernel
theorem dX11_compareOf_49 : decode cX11_compareOf 49 = .ok (.bipush 13, 2) := by decide +kernel
theorem dX11_compareOf_51 : decode cX11_compareOf 51 = .ok (.goto 32, 3) := by decide +kernel
theorem dX11_compareOf_54 : decode cX11_compareOf 54 = .ok (.aload_n 0, 1) := by decide +kernel
theorem dX11_compareOf_55 : decode cX11_compareOf 55 = .ok (.getfield 129, 3) := by decide +kernel
theorem dX11_compareOf_58 : decode cX11_compareOf 58 = .ok (.bipush 61, 2) := by decide +kernel
theorem dX11_compareOf_60 : decode cX11_compareOf 60 = .ok (.if_icmp .ne 8, 3) := by decide +kernel
theorem dX11_compareOf_63 : decode cX11_compareOf 63 = .ok (.bipush 14, 2) := by decide +kernel
theorem dX11_compareOf_65 : decode cX11_compareOf 65 = .ok (.goto 18, 3) := by decide +kernel
theorem dX11_compareOf_68 : decode cX11_compareOf 68 = .ok (.aload_n 0, 1) := by decide +kernel
theorem dX11_compareOf_69 : decode cX11_compareOf 69 = .ok (.getfield 129, 3) := by decide +kernel
theorem dX11_compareOf_72 : decode cX11_compareOf 72 = .ok (.bipush 35, 2) := by decide +kernel
theorem dX11_compareOf_74 : decode cX11_compareOf 74 = .ok (.if_icmp .ne 8, 3) := by decide +kernel
theorem dX11_compareOf_77 : decode cX11_compareOf 77 = .ok (.bipush 15, 2) := by decide +kernel
theorem dX11_compareOf_79 : decode cX11_compareOf 79 = .ok (.goto 4, 3) := by decide +kernel
theorem dX11_compareOf_82 : decode cX11_compareOf 82 = .ok (.iconst (-1), 1) := by decide +kernel
theorem dX11_compareOf_83 : decode cX11_compareOf 83 = .ok (.ireturn, 1) := by decide +kernel
theorem dX11_asks_0 : decode cX11_asks 0 = .ok (.iconst 0, 1) := by decide +kernel
theorem dX11_asks_1 : decode cX11_asks 1 = .ok (.istore_n 1, 1) := by decide +kernel
theorem dX11_asks_2 : decode cX11_asks 2 = .ok (.aload_n 0, 1) := by decide +kernel
theorem dX11_asks_3 : decode cX11_asks 3 = .ok (.bipush 110, 2) := by decide +kernel
theorem dX11_asks_5 : decode cX11_asks 5 = .ok (.bipush 111, 2) := by decide +kernel
theorem dX11_asks_7 : decode cX11_asks 7 = .ok (.bipush 116, 2) := by decide +kernel
theorem dX11_asks_9 : decode cX11_asks 9 = .ok (.invokestatic 146, 3) := by decide +kernel
theorem dX11_asks_12 : decode cX11_asks 12 = .ok (.invokevirtual 216, 3) := by decide +kernel
theorem dX11_asks_15 : decode cX11_asks 15 = .ok (.ifCond .eq 34, 3) := by decide +kernel
theorem dX11_asks_18 : decode cX11_asks 18 = .ok (.aload_n 0, 1) := by decide +kernel
theorem dX11_asks_19 : decode cX11_asks 19 = .ok (.getfield 167, 3) := by decide +kernel
theorem dX11_asks_22 : decode cX11_asks 22 = .ok (.bipush 8, 2) := by decide +kernel
theorem dX11_asks_24 : decode cX11_asks 24 = .ok (.if_icmp .ne 5, 3) := by decide +kernel
theorem dX11_asks_27 : decode cX11_asks 27 = .ok (.iconst 3, 1) := by decide +kernel
theorem dX11_asks_28 : decode cX11_asks 28 = .ok (.ireturn, 1) := by decide +kernel
theorem dX11_asks_29 : decode cX11_asks 29 = .ok (.aload_n 0, 1) := by decide +kernel
theorem dX11_asks_30 : decode cX11_asks 30 = .ok (.dup, 1) := by decide +kernel
theorem dX11_asks_31 : decode cX11_asks 31 = .ok (.getfield 167, 3) := by decide +kernel
theorem dX11_asks_34 : decode cX11_asks 34 = .ok (.iconst 1, 1) := by decide +kernel
theorem dX11_asks_35 : decode cX11_asks 35 = .ok (.iadd, 1) := by decide +kernel
theorem dX11_asks_36 : decode cX11_asks 36 = .ok (.putfield 167, 3) := by decide +kernel
theorem dX11_asks_39 : decode cX11_asks 39 = .ok (.iinc 1 1, 3) := by decide +kernel
theorem dX11_asks_42 : decode cX11_asks 42 = .ok (.aload_n 0, 1) := by decide +kernel
theorem dX11_asks_43 : decode cX11_asks 43 = .ok (.invokevirtual 184, 3) := by decide +kernel
theorem dX11_asks_46 : decode cX11_asks 46 = .ok (.goto (-44), 3) := by decide +kernel
theorem dX11_asks_49 : decode cX11_asks 49 = .ok (.aload_n 0, 1) := by decide +kernel
theorem dX11_asks_50 : decode cX11_asks 50 = .ok (.invokevirtual 220, 3) := by decide +kernel
theorem dX11_asks_53 : decode cX11_asks 53 = .ok (.istore_n 2, 1) := by decide +kernel
theorem dX11_asks_54 : decode cX11_asks 54 = .ok (.iload_n 2, 1) := by decide +kernel
theorem dX11_asks_55 : decode cX11_asks 55 = .ok (.ifCond .eq 5, 3) := by decide +kernel
theorem dX11_asks_58 : decode cX11_asks 58 = .ok (.iload_n 2, 1) := by decide +kernel
theorem dX11_asks_59 : decode cX11_asks 59 = .ok (.ireturn, 1) := by decide +kernel
theorem dX11_asks_60 : decode cX11_asks 60 = .ok (.aload_n 0, 1) := by decide +kernel
theorem dX11_asks_61 : decode cX11_asks 61 = .ok (.invokevirtual 223, 3) := by decide +kernel
theorem dX11_asks_64 : decode cX11_asks 64 = .ok (.istore_n 3, 1) := by decide +kernel
theorem dX11_asks_65 : decode cX11_asks 65 = .ok (.iload_n 3, 1) := by decide +kernel
theorem dX11_asks_66 : decode cX11_asks 66 = .ok (.ifCond .ge 5, 3) := by decide +kernel
theorem dX11_asks_69 : decode cX11_asks 69 = .ok (.iconst 1, 1) := by decide +kernel
theorem dX11_asks_70 : decode cX11_asks 70 = .ok (.ireturn, 1) := by decide +kernel
theorem dX11_asks_71 : decode cX11_asks 71 = .ok (.aload_n 0, 1) := by decide +kernel
theorem dX11_asks_72 : decode cX11_asks 72 = .ok (.invokevirtual 184, 3) := by decide +kernel
theorem dX11_asks_75 : decode cX11_asks 75 = .ok (.aload_n 0, 1) := by decide +kernel
theorem dX11_asks_76 : decode cX11_asks 76 = .ok (.invokevirtual 220, 3) := by decide +kernel
theorem dX11_asks_79 : decode cX11_asks 79 = .ok (.istore_n 2, 1) := by decide +kernel
theorem dX11_asks_80 : decode cX11_asks 80 = .ok (.iload_n 2, 1) := by decide +kernel
theorem dX11_asks_81 : decode cX11_asks 81 = .ok (.ifCond .eq 5, 3) := by decide +kernel
theorem dX11_asks_84 : decode cX11_asks 84 = .ok (.iload_n 2, 1) := by decide +kernel
theorem dX11_asks_85 : decode cX11_asks 85 = .ok (.ireturn, 1) := by decide +kernel
theorem dX11_asks_86 : decode cX11_asks 86 = .ok (.aload_n 0, 1) := by decide +kernel
theorem dX11_asks_87 : decode cX11_asks 87 = .ok (.iload_n 3, 1) := by decide +kernel
theorem dX11_asks_88 : decode cX11_asks 88 = .ok (.iconst 0, 1) := by decide +kernel
theorem dX11_asks_89 : decode cX11_asks 89 = .ok (.invokevirtual 170, 3) := by decide +kernel
theorem dX11_asks_92 : decode cX11_asks 92 = .ok (.aload_n 0, 1) := by decide +kernel
theorem dX11_asks_93 : decode cX11_asks 93 = .ok (.dup, 1) := by decide +kernel
theorem dX11_asks_94 : decode cX11_asks 94 = .ok (.getfield 167, 3) := by decide +kernel
theorem dX11_asks_97 : decode cX11_asks 97 = .ok (.iload_n 1, 1) := by decide +kernel
theorem dX11_asks_98 : decode cX11_asks 98 = .ok (.isub, 1) := by decide +kernel
theorem dX11_asks_99 : decode cX11_asks 99 = .ok (.putfield 167, 3) := by decide +kernel
theorem dX11_asks_102 : decode cX11_asks 102 = .ok (.iconst 0, 1) := by decide +kernel
theorem dX11_asks_103 : decode cX11_asks 103 = .ok (.istore 4, 2) := by decide +kernel
theorem dX11_asks_105 : decode cX11_asks 105 = .ok (.iload 4, 2) := by decide +kernel
theorem dX11_asks_107 : decode cX11_asks 107 = .ok (.iload_n 1, 1) := by decide +kernel
theorem dX11_asks_108 : decode cX11_asks 108 = .ok (.if_icmp .ge 16, 3) := by decide +kernel
theorem dX11_asks_111 : decode cX11_asks 111 = .ok (.aload_n 0, 1) := by decide +kernel
theorem dX11_asks_112 : decode cX11_asks 112 = .ok (.bipush 20, 2) := by decide +kernel
theorem dX11_asks_114 : decode cX11_asks 114 = .ok (.iconst 0, 1) := by decide +kernel
theorem dX11_asks_115 : decode cX11_asks 115 = .ok (.invokevirtual 170, 3) := by decide +kernel
theorem dX11_asks_118 : decode cX11_asks 118 = .ok (.iinc 4 1, 3) := by decide +kernel
theorem dX11_asks_121 : decode cX11_asks 121 = .ok (.goto (-16), 3) := by decide +kernel
theorem dX11_asks_124 : decode cX11_asks 124 = .ok (.iconst 0, 1) := by decide +kernel
theorem dX11_asks_125 : decode cX11_asks 125 = .ok (.ireturn, 1) := by decide +kernel
theorem dX11_either_0 : decode cX11_either 0 = .ok (.iconst 0, 1) := by decide +kernel
theorem dX11_either_1 : decode cX11_either 1 = .ok (.istore_n 1, 1) := by decide +kernel
theorem dX11_either_2 : decode cX11_either 2 = .ok (.iconst 0, 1) := by decide +kernel
theorem dX11_either_3 : decode cX11_either 3 = .ok (.istore_n 2, 1) := by decide +kernel
theorem dX11_either_4 : decode cX11_either 4 = .ok (.iconst 1, 1) := by decide +kernel
theorem dX11_either_5 : decode cX11_either 5 = .ok (.istore_n 3, 1) := by decide +kernel
theorem dX11_either_6 : decode cX11_either 6 = .ok (.iload_n 3, 1) := by decide +kernel
theorem dX11_either_7 : decode cX11_either 7 = .ok (.ifCond .eq 112, 3) := by decide +kernel
theorem dX11_either_10 : decode cX11_either 10 = .ok (.aload_n 0, 1) := by decide +kernel
theorem dX11_either_11 : decode cX11_either 11 = .ok (.invokevirtual 226, 3) := by decide +kernel
theorem dX11_either_14 : decode cX11_either 14 = .ok (.istore 4, 2) := by decide +kernel
theorem dX11_either_16 : decode cX11_either 16 = .ok (.iload 4, 2) := by decide +kernel
theorem dX11_either_18 : decode cX11_either 18 = .ok (.ifCond .eq 6, 3) := by decide +kernel
theorem dX11_either_21 : decode cX11_either 21 = .ok (.iload 4, 2) := by decide +kernel
theorem dX11_either_23 : decode cX11_either 23 = .ok (.ireturn, 1) := by decide +kernel
theorem dX11_either_24 : decode cX11_either 24 = .ok (.iload_n 1, 1) := by decide +kernel
theorem dX11_either_25 : decode cX11_either 25 = .ok (.ifCond .eq 10, 3) := by decide +kernel
theorem dX11_either_28 : decode cX11_either 28 = .ok (.aload_n 0, 1) := by decide +kernel
theorem dX11_either_29 : decode cX11_either 29 = .ok (.bipush 21, 2) := by decide +kernel
theorem dX11_either_31 : decode cX11_either 31 = .ok (.iconst 0, 1) := by decide +kernel
theorem dX11_either_32 : decode cX11_either 32 = .ok (.invokevirtual 170, 3) := by decide +kernel
theorem dX11_either_35 : decode cX11_either 35 = .ok (.aload_n 0, 1) := by decide +kernel
theorem dX11_either_36 : decode cX11_either 36 = .ok (.bipush 97, 2) := by decide +kernel
theorem dX11_either_38 : decode cX11_either 38 = .ok (.bipush 110, 2) := by decide +kernel
theorem dX11_either_40 : decode cX11_either 40 = .ok (.bipush 100, 2) := by decide +kernel
theorem dX11_either_42 : decode cX11_either 42 = .ok (.invokestatic 146, 3) := by decide +kernel
theorem dX11_either_45 : decode cX11_either 45 = .ok (.invokevirtual 216, 3) := by decide +kernel
theorem dX11_either_48 : decode cX11_either 48 = .ok (.istore_n 1, 1) := by decide +kernel
theorem dX11_either_49 : decode cX11_either 49 = .ok (.aload_n 0, 1) := by decide +kernel
theorem dX11_either_50 : decode cX11_either 50 = .ok (.getfield 129, 3) := by decide +kernel
theorem dX11_either_53 : decode cX11_either 53 = .ok (.iconst 2, 1) := by decide +kernel
theorem dX11_either_54 : decode cX11_either 54 = .ok (.if_icmp .ne 18, 3) := by decide +kernel
theorem dX11_either_57 : decode cX11_either 57 = .ok (.aload_n 0, 1) := by decide +kernel
theorem dX11_either_58 : decode cX11_either 58 = .ok (.getfield 142, 3) := by decide +kernel
theorem dX11_either_61 : decode cX11_either 61 = .ok (.ldc2_w 229, 3) := by decide +kernel
theorem dX11_either_64 : decode cX11_either 64 = .ok (.lcmp, 1) := by decide +kernel
theorem dX11_either_65 : decode cX11_either 65 = .ok (.ifCond .ne 7, 3) := by decide +kernel
theorem dX11_either_68 : decode cX11_either 68 = .ok (.iconst 1, 1) := by decide +kernel
theorem dX11_either_69 : decode cX11_either 69 = .ok (.goto 4, 3) := by decide +kernel
theorem dX11_either_72 : decode cX11_either 72 = .ok (.iconst 0, 1) := by decide +kernel
theorem dX11_either_73 : decode cX11_either 73 = .ok (.istore 5, 2) := by decide +kernel
theorem dX11_either_75 : decode cX11_either 75 = .ok (.iload_n 1, 1) := by decide +kernel
theorem dX11_either_76 : decode cX11_either 76 = .ok (.ifCond .ne 17, 3) := by decide +kernel
theorem dX11_either_79 : decode cX11_either 79 = .ok (.iload_n 2, 1) := by decide +kernel
theorem dX11_either_80 : decode cX11_either 80 = .ok (.ifCond .eq 10, 3) := by decide +kernel
theorem dX11_either_83 : decode cX11_either 83 = .ok (.aload_n 0, 1) := by decide +kernel
theorem dX11_either_84 : decode cX11_either 84 = .ok (.bipush 22, 2) := by decide +kernel
theorem dX11_either_86 : decode cX11_either 86 = .ok (.iconst 0, 1) := by decide +kernel
theorem dX11_either_87 : decode cX11_either 87 = .ok (.invokevirtual 170, 3) := by decide +kernel
theorem dX11_either_90 : decode cX11_either 90 = .ok (.iload 5, 2) := by decide +kernel
theorem dX11_either_92 : decode cX11_either 92 = .ok (.istore_n 2, 1) := by decide +kernel
theorem dX11_either_93 : decode cX11_either 93 = .ok (.iload_n 1, 1) := by decide +kernel
theorem dX11_either_94 : decode cX11_either 94 = .ok (.ifCond .ne 8, 3) := by decide +kernel
theorem dX11_either_97 : decode cX11_either 97 = .ok (.iload 5, 2) := by decide +kernel
theorem dX11_either_99 : decode cX11_either 99 = .ok (.ifCond .eq 7, 3) := by decide +kernel
theorem dX11_either_102 : decode cX11_either 102 = .ok (.iconst 1, 1) := by decide +kernel
theorem dX11_either_103 : decode cX11_either 103 = .ok (.goto 4, 3) := by decide +kernel
theorem dX11_either_106 : decode cX11_either 106 = .ok (.iconst 0, 1) := by decide +kernel
theorem dX11_either_107 : decode cX11_either 107 = .ok (.istore_n 3, 1) := by decide +kernel
theorem dX11_either_108 : decode cX11_either 108 = .ok (.iload_n 3, 1) := by decide +kernel
theorem dX11_either_109 : decode cX11_either 109 = .ok (.ifCond .eq 7, 3) := by decide +kernel
theorem dX11_either_112 : decode cX11_either 112 = .ok (.aload_n 0, 1) := by decide +kernel
theorem dX11_either_113 : decode cX11_either 113 = .ok (.invokevirtual 184, 3) := by decide +kernel
theorem dX11_either_116 : decode cX11_either 116 = .ok (.goto (-110), 3) := by decide +kernel
theorem dX11_either_119 : decode cX11_either 119 = .ok (.iconst 0, 1) := by decide +kernel
theorem dX11_either_120 : decode cX11_either 120 = .ok (.ireturn, 1) := by decide +kernel
theorem dX11_sortOf_0 : decode cX11_sortOf 0 = .ok (.aload_n 0, 1) := by decide +kernel
theorem dX11_sortOf_1 : decode cX11_sortOf 1 = .ok (.bipush 119, 2) := by decide +kernel
theorem dX11_sortOf_3 : decode cX11_sortOf 3 = .ok (.bipush 111, 2) := by decide +kernel
theorem dX11_sortOf_5 : decode cX11_sortOf 5 = .ok (.bipush 114, 2) := by decide +kernel
theorem dX11_sortOf_7 : decode cX11_sortOf 7 = .ok (.bipush 110, 2) := by decide +kernel
theorem dX11_sortOf_9 : decode cX11_sortOf 9 = .ok (.invokestatic 173, 3) := by decide +kernel
theorem dX11_sortOf_12 : decode cX11_sortOf 12 = .ok (.invokevirtual 216, 3) := by decide +kernel
theorem dX11_sortOf_15 : decode cX11_sortOf 15 = .ok (.ifCond .eq 5, 3) := by decide +kernel
theorem dX11_sortOf_18 : decode cX11_sortOf 18 = .ok (.iconst 0, 1) := by decide +kernel
theorem dX11_sortOf_19 : decode cX11_sortOf 19 = .ok (.ireturn, 1) := by decide +kernel
theorem dX11_sortOf_20 : decode cX11_sortOf 20 = .ok (.aload_n 0, 1) := by decide +kernel
theorem dX11_sortOf_21 : decode cX11_sortOf 21 = .ok (.bipush 104, 2) := by decide +kernel
theorem dX11_sortOf_23 : decode cX11_sortOf 23 = .ok (.bipush 111, 2) := by decide +kernel
theorem dX11_sortOf_25 : decode cX11_sortOf 25 = .ok (.bipush 108, 2) := by decide +kernel
theorem dX11_sortOf_27 : decode cX11_sortOf 27 = .ok (.bipush 121, 2) := by decide +kernel
theorem dX11_sortOf_29 : decode cX11_sortOf 29 = .ok (.invokestatic 173, 3) := by decide +kernel
theorem dX11_sortOf_32 : decode cX11_sortOf 32 = .ok (.invokevirtual 216, 3) := by decide +kernel
theorem dX11_sortOf_35 : decode cX11_sortOf 35 = .ok (.ifCond .eq 5, 3) := by decide +kernel
theorem dX11_sortOf_38 : decode cX11_sortOf 38 = .ok (.iconst 1, 1) := by decide +kernel
theorem dX11_sortOf_39 : decode cX11_sortOf 39 = .ok (.ireturn, 1) := by decide +kernel
theorem dX11_sortOf_40 : decode cX11_sortOf 40 = .ok (.aload_n 0, 1) := by decide +kernel
theorem dX11_sortOf_41 : decode cX11_sortOf 41 = .ok (.bipush 117, 2) := by decide +kernel
theorem dX11_sortOf_43 : decode cX11_sortOf 43 = .ok (.bipush 110, 2) := by decide +kernel
theorem dX11_sortOf_45 : decode cX11_sortOf 45 = .ok (.bipush 108, 2) := by decide +kernel
theorem dX11_sortOf_47 : decode cX11_sortOf 47 = .ok (.bipush 105, 2) := by decide +kernel
theorem dX11_sortOf_49 : decode cX11_sortOf 49 = .ok (.bipush 107, 2) := by decide +kernel
theorem dX11_sortOf_51 : decode cX11_sortOf 51 = .ok (.bipush 101, 2) := by decide +kernel
theorem dX11_sortOf_53 : decode cX11_sortOf 53 = .ok (.invokestatic 177, 3) := by decide +kernel
theorem dX11_sortOf_56 : decode cX11_sortOf 56 = .ok (.invokevirtual 216, 3) := by decide +kernel
theorem dX11_sortOf_59 : decode cX11_sortOf 59 = .ok (.ifCond .eq 5, 3) := by decide +kernel
theorem dX11_sortOf_62 : decode cX11_sortOf 62 = .ok (.iconst 2, 1) := by decide +kernel
theorem dX11_sortOf_63 : decode cX11_sortOf 63 = .ok (.ireturn, 1) := by decide +kernel
theorem dX11_sortOf_64 : decode cX11_sortOf 64 = .ok (.aload_n 0, 1) := by decide +kernel
theorem dX11_sortOf_65 : decode cX11_sortOf 65 = .ok (.bipush 107, 2) := by decide +kernel
theorem dX11_sortOf_67 : decode cX11_sortOf 67 = .ok (.bipush 105, 2) := by decide +kernel
theorem dX11_sortOf_69 : decode cX11_sortOf 69 = .ok (.bipush 110, 2) := by decide +kernel
theorem dX11_sortOf_71 : decode cX11_sortOf 71 = .ok (.bipush 100, 2) := by decide +kernel
theorem dX11_sortOf_73 : decode cX11_sortOf 73 = .ok (.invokestatic 173, 3) := by decide +kernel
theorem dX11_sortOf_76 : decode cX11_sortOf 76 = .ok (.invokevirtual 216, 3) := by decide +kernel
theorem dX11_sortOf_79 : decode cX11_sortOf 79 = .ok (.ifCond .eq 5, 3) := by decide +kernel
theorem dX11_sortOf_82 : decode cX11_sortOf 82 = .ok (.iconst 3, 1) := by decide +kernel
theorem dX11_sortOf_83 : decode cX11_sortOf 83 = .ok (.ireturn, 1) := by decide +kernel
theorem dX11_sortOf_84 : decode cX11_sortOf 84 = .ok (.aload_n 0, 1) := by decide +kernel
theorem dX11_sortOf_85 : decode cX11_sortOf 85 = .ok (.bipush 108, 2) := by decide +kernel
theorem dX11_sortOf_87 : decode cX11_sortOf 87 = .ok (.bipush 101, 2) := by decide +kernel
theorem dX11_sortOf_89 : decode cX11_sortOf 89 = .ok (.bipush 110, 2) := by decide +kernel
theorem dX11_sortOf_91 : decode cX11_sortOf 91 = .ok (.bipush 100, 2) := by decide +kernel
theorem dX11_sortOf_93 : decode cX11_sortOf 93 = .ok (.invokestatic 173, 3) := by decide +kernel
theorem dX11_sortOf_96 : decode cX11_sortOf 96 = .ok (.invokevirtual 216, 3) := by decide +kernel
theorem dX11_sortOf_99 : decode cX11_sortOf 99 = .ok (.ifCond .eq 5, 3) := by decide +kernel
theorem dX11_sortOf_102 : decode cX11_sortOf 102 = .ok (.iconst 4, 1) := by decide +kernel
theorem dX11_sortOf_103 : decode cX11_sortOf 103 = .ok (.ireturn, 1) := by decide +kernel
theorem dX11_sortOf_104 : decode cX11_sortOf 104 = .ok (.aload_n 0, 1) := by decide +kernel
theorem dX11_sortOf_105 : decode cX11_sortOf 105 = .ok (.bipush 115, 2) := by decide +kernel
theorem dX11_sortOf_107 : decode cX11_sortOf 107 = .ok (.bipush 119, 2) := by decide +kernel
theorem dX11_sortOf_109 : decode cX11_sortOf 109 = .ok (.bipush 97, 2) := by decide +kernel
theorem dX11_sortOf_111 : decode cX11_sortOf 111 = .ok (.bipush 112, 2) := by decide +kernel
theorem dX11_sortOf_113 : decode cX11_sortOf 113 = .ok (.invokestatic 173, 3) := by decide +kernel
theorem dX11_sortOf_116 : decode cX11_sortOf 116 = .ok (.invokevirtual 216, 3) := by decide +kernel
theorem dX11_sortOf_119 : decode cX11_sortOf 119 = .ok (.ifCond .eq 5, 3) := by decide +kernel
theorem dX11_sortOf_122 : decode cX11_sortOf 122 = .ok (.iconst 5, 1) := by decide +kernel
theorem dX11_sortOf_123 : decode cX11_sortOf 123 = .ok (.ireturn, 1) := by decide +kernel
theorem dX11_sortOf_124 : decode cX11_sortOf 124 = .ok (.aload_n 0, 1) := by decide +kernel
theorem dX11_sortOf_125 : decode cX11_sortOf 125 = .ok (.bipush 115, 2) := by decide +kernel
theorem dX11_sortOf_127 : decode cX11_sortOf 127 = .ok (.bipush 116, 2) := by decide +kernel
theorem dX11_sortOf_129 : decode cX11_sortOf 129 = .ok (.bipush 101, 2) := by decide +kernel
theorem dX11_sortOf_131 : decode cX11_sortOf 131 = .ok (.bipush 97, 2) := by decide +kernel
theorem dX11_sortOf_133 : decode cX11_sortOf 133 = .ok (.bipush 108, 2) := by decide +kernel
theorem dX11_sortOf_135 : decode cX11_sortOf 135 = .ok (.invokestatic 150, 3) := by decide +kernel
theorem dX11_sortOf_138 : decode cX11_sortOf 138 = .ok (.invokevirtual 216, 3) := by decide +kernel
theorem dX11_sortOf_141 : decode cX11_sortOf 141 = .ok (.ifCond .eq 6, 3) := by decide +kernel
theorem dX11_sortOf_144 : decode cX11_sortOf 144 = .ok (.bipush 6, 2) := by decide +kernel
theorem dX11_sortOf_146 : decode cX11_sortOf 146 = .ok (.ireturn, 1) := by decide +kernel
theorem dX11_sortOf_147 : decode cX11_sortOf 147 = .ok (.aload_n 0, 1) := by decide +kernel
theorem dX11_sortOf_148 : decode cX11_sortOf 148 = .ok (.bipush 98, 2) := by decide +kernel
theorem dX11_sortOf_150 : decode cX11_sortOf 150 = .ok (.bipush 117, 2) := by decide +kernel
theorem dX11_sortOf_152 : decode cX11_sortOf 152 = .ok (.bipush 114, 2) := by decide +kernel
theorem dX11_sortOf_154 : decode cX11_sortOf 154 = .ok (.bipush 110, 2) := by decide +kernel
theorem dX11_sortOf_156 : decode cX11_sortOf 156 = .ok (.invokestatic 173, 3) := by decide +kernel
theorem dX11_sortOf_159 : decode cX11_sortOf 159 = .ok (.invokevirtual 216, 3) := by decide +kernel
theorem dX11_sortOf_162 : decode cX11_sortOf 162 = .ok (.ifCond .eq 8, 3) := by decide +kernel
theorem dX11_sortOf_165 : decode cX11_sortOf 165 = .ok (.bipush 7, 2) := by decide +kernel
theorem dX11_sortOf_167 : decode cX11_sortOf 167 = .ok (.goto 27, 3) := by decide +kernel
theorem dX11_sortOf_170 : decode cX11_sortOf 170 = .ok (.aload_n 0, 1) := by decide +kernel
theorem dX11_sortOf_171 : decode cX11_sortOf 171 = .ok (.bipush 112, 2) := by decide +kernel
theorem dX11_sortOf_173 : decode cX11_sortOf 173 = .ok (.bipush 97, 2) := by decide +kernel
theorem dX11_sortOf_175 : decode cX11_sortOf 175 = .ok (.bipush 115, 2) := by decide +kernel
theorem dX11_sortOf_177 : decode cX11_sortOf 177 = .ok (.bipush 115, 2) := by decide +kernel
theorem dX11_sortOf_179 : decode cX11_sortOf 179 = .ok (.invokestatic 173, 3) := by decide +kernel
theorem dX11_sortOf_182 : decode cX11_sortOf 182 = .ok (.invokevirtual 216, 3) := by decide +kernel
theorem dX11_sortOf_185 : decode cX11_sortOf 185 = .ok (.ifCond .eq 8, 3) := by decide +kernel
theorem dX11_sortOf_188 : decode cX11_sortOf 188 = .ok (.bipush 8, 2) := by decide +kernel
theorem dX11_sortOf_190 : decode cX11_sortOf 190 = .ok (.goto 4, 3) := by decide +kernel
theorem dX11_sortOf_193 : decode cX11_sortOf 193 = .ok (.iconst (-1), 1) := by decide +kernel
theorem dX11_sortOf_194 : decode cX11_sortOf 194 = .ok (.ireturn, 1) := by decide +kernel
theorem dX11_figure_0 : decode cX11_figure 0 = .ok (.aload_n 0, 1) := by decide +kernel
theorem dX11_figure_1 : decode cX11_figure 1 = .ok (.getfield 129, 3) := by decide +kernel
theorem dX11_figure_4 : decode cX11_figure 4 = .ok (.iconst 1, 1) := by decide +kernel
theorem dX11_figure_5 : decode cX11_figure 5 = .ok (.if_icmp .eq 5, 3) := by decide +kernel
theorem dX11_figure_8 : decode cX11_figure 8 = .ok (.iconst 1, 1) := by decide +kernel
theorem dX11_figure_9 : decode cX11_figure 9 = .ok (.ireturn, 1) := by decide +kernel
theorem dX11_figure_10 : decode cX11_figure 10 = .ok (.aload_n 0, 1) := by decide +kernel
theorem dX11_figure_11 : decode cX11_figure 11 = .ok (.getfield 135, 3) := by decide +kernel
theorem dX11_figure_14 : decode cX11_figure 14 = .ok (.iload_n 2, 1) := by decide +kernel
theorem dX11_figure_15 : decode cX11_figure 15 = .ok (.iload_n 3, 1) := by decide +kernel
theorem dX11_figure_16 : decode cX11_figure 16 = .ok (.invokestatic 75, 3) := by decide +kernel
theorem dX11_figure_19 : decode cX11_figure 19 = .ok (.ifCond .ne 5, 3) := by decide +kernel
theorem dX11_figure_22 : decode cX11_figure 22 = .ok (.iconst 2, 1) := by decide +kernel
theorem dX11_figure_23 : decode cX11_figure 23 = .ok (.ireturn, 1) := by decide +kernel
theorem dX11_figure_24 : decode cX11_figure 24 = .ok (.aload_n 0, 1) := by decide +kernel
theorem dX11_figure_25 : decode cX11_figure 25 = .ok (.getfield 16, 3) := by decide +kernel
theorem dX11_figure_28 : decode cX11_figure 28 = .ok (.iload_n 1, 1) := by decide +kernel
theorem dX11_figure_29 : decode cX11_figure 29 = .ok (.aload_n 0, 1) := by decide +kernel
theorem dX11_figure_30 : decode cX11_figure 30 = .ok (.getfield 135, 3) := by decide +kernel
theorem dX11_figure_33 : decode cX11_figure 33 = .ok (.iastore, 1) := by decide +kernel
theorem dX11_figure_34 : decode cX11_figure 34 = .ok (.aload_n 0, 1) := by decide +kernel
theorem dX11_figure_35 : decode cX11_figure 35 = .ok (.invokevirtual 184, 3) := by decide +kernel
theorem dX11_figure_38 : decode cX11_figure 38 = .ok (.iconst 0, 1) := by decide +kernel
theorem dX11_figure_39 : decode cX11_figure 39 = .ok (.ireturn, 1) := by decide +kernel
theorem dX11_step_0 : decode cX11_step 0 = .ok (.iload_n 1, 1) := by decide +kernel
theorem dX11_step_1 : decode cX11_step 1 = .ok (.ifCond .ne 5, 3) := by decide +kernel
theorem dX11_step_4 : decode cX11_step 4 = .ok (.iconst 1, 1) := by decide +kernel
theorem dX11_step_5 : decode cX11_step 5 = .ok (.ireturn, 1) := by decide +kernel
theorem dX11_step_6 : decode cX11_step 6 = .ok (.aload_n 0, 1) := by decide +kernel
theorem dX11_step_7 : decode cX11_step 7 = .ok (.invokevirtual 184, 3) := by decide +kernel
theorem dX11_step_10 : decode cX11_step 10 = .ok (.iconst 0, 1) := by decide +kernel
theorem dX11_step_11 : decode cX11_step 11 = .ok (.ireturn, 1) := by decide +kernel
theorem dX11_isTo_0 : decode cX11_isTo 0 = .ok (.aload_n 0, 1) := by decide +kernel
theorem dX11_isTo_1 : decode cX11_isTo 1 = .ok (.getfield 129, 3) := by decide +kernel
theorem dX11_isTo_4 : decode cX11_isTo 4 = .ok (.iconst 2, 1) := by decide +kernel
theorem dX11_isTo_5 : decode cX11_isTo 5 = .ok (.if_icmp .ne 18, 3) := by decide +kernel
theorem dX11_isTo_8 : decode cX11_isTo 8 = .ok (.aload_n 0, 1) := by decide +kernel
theorem dX11_isTo_9 : decode cX11_isTo 9 = .ok (.getfield 142, 3) := by decide +kernel
theorem dX11_isTo_12 : decode cX11_isTo 12 = .ok (.ldc2_w 231, 3) := by decide +kernel
theorem dX11_isTo_15 : decode cX11_isTo 15 = .ok (.lcmp, 1) := by decide +kernel
theorem dX11_isTo_16 : decode cX11_isTo 16 = .ok (.ifCond .ne 7, 3) := by decide +kernel
theorem dX11_isTo_19 : decode cX11_isTo 19 = .ok (.iconst 1, 1) := by decide +kernel
theorem dX11_isTo_20 : decode cX11_isTo 20 = .ok (.goto 4, 3) := by decide +kernel
theorem dX11_isTo_23 : decode cX11_isTo 23 = .ok (.iconst 0, 1) := by decide +kernel
theorem dX11_isTo_24 : decode cX11_isTo 24 = .ok (.ireturn, 1) := by decide +kernel
theorem dX11_kind_0 : decode cX11_kind 0 = .ok (.aload_n 0, 1) := by decide +kernel
theorem dX11_kind_1 : decode cX11_kind 1 = .ok (.getfield 129, 3) := by decide +kernel
theorem dX11_kind_4 : decode cX11_kind 4 = .ok (.iconst 1, 1) := by decide +kernel
theorem dX11_kind_5 : decode cX11_kind 5 = .ok (.if_icmp .ne 80, 3) := by decide +kernel
theorem dX11_kind_8 : decode cX11_kind 8 = .ok (.aload_n 0, 1) := by decide +kernel
theorem dX11_kind_9 : decode cX11_kind 9 = .ok (.getfield 135, 3) := by decide +kernel
theorem dX11_kind_12 : decode cX11_kind 12 = .ok (.iconst 0, 1) := by decide +kernel
theorem dX11_kind_13 : decode cX11_kind 13 = .ok (.bipush 19, 2) := by decide +kernel
theorem dX11_kind_15 : decode cX11_kind 15 = .ok (.invokestatic 75, 3) := by decide +kernel
theorem dX11_kind_18 : decode cX11_kind 18 = .ok (.ifCond .eq 67, 3) := by decide +kernel
theorem dX11_kind_21 : decode cX11_kind 21 = .ok (.iconst 0, 1) := by decide +kernel
theorem dX11_kind_22 : decode cX11_kind 22 = .ok (.istore_n 2, 1) := by decide +kernel
theorem dX11_kind_23 : decode cX11_kind 23 = .ok (.iload_n 2, 1) := by decide +kernel
theorem dX11_kind_24 : decode cX11_kind 24 = .ok (.aload_n 0, 1) := by decide +kernel
theorem dX11_kind_25 : decode cX11_kind 25 = .ok (.getfield 16, 3) := by decide +kernel
theorem dX11_kind_28 : decode cX11_kind 28 = .ok (.aload_n 0, 1) := by decide +kernel
theorem dX11_kind_29 : decode cX11_kind 29 = .ok (.getfield 154, 3) := by decide +kernel
theorem dX11_kind_32 : decode cX11_kind 32 = .ok (.iaload, 1) := by decide +kernel
theorem dX11_kind_33 : decode cX11_kind 33 = .ok (.if_icmp .ge 52, 3) := by decide +kernel
theorem dX11_kind_36 : decode cX11_kind 36 = .ok (.aload_n 0, 1) := by decide +kernel
theorem dX11_kind_37 : decode cX11_kind 37 = .ok (.getfield 16, 3) := by decide +kernel
theorem dX11_kind_40 : decode cX11_kind 40 = .ok (.aload_n 0, 1) := by decide +kernel
theorem dX11_kind_41 : decode cX11_kind 41 = .ok (.getfield 154, 3) := by decide +kernel
theorem dX11_kind_44 : decode cX11_kind 44 = .ok (.iconst 1, 1) := by decide +kernel
theorem dX11_kind_45 : decode cX11_kind 45 = .ok (.iadd, 1) := by decide +kernel
theorem dX11_kind_46 : decode cX11_kind 46 = .ok (.iconst 4, 1) := by decide +kernel
theorem dX11_kind_47 : decode cX11_kind 47 = .ok (.iload_n 2, 1) := by decide +kernel
theorem dX11_kind_48 : decode cX11_kind 48 = .ok (.imul, 1) := by decide +kernel
theorem dX11_kind_49 : decode cX11_kind 49 = .ok (.iadd, 1) := by decide +kernel
theorem dX11_kind_50 : decode cX11_kind 50 = .ok (.iaload, 1) := by decide +kernel
theorem dX11_kind_51 : decode cX11_kind 51 = .ok (.iconst 3, 1) := by decide +kernel
theorem dX11_kind_52 : decode cX11_kind 52 = .ok (.if_icmp .ne 27, 3) := by decide +kernel
theorem dX11_kind_55 : decode cX11_kind 55 = .ok (.aload_n 0, 1) := by decide +kernel
theorem dX11_kind_56 : decode cX11_kind 56 = .ok (.getfield 16, 3) := by decide +kernel
theorem dX11_kind_59 : decode cX11_kind 59 = .ok (.aload_n 0, 1) := by decide +kernel
theorem dX11_kind_60 : decode cX11_kind 60 = .ok (.getfield 154, 3) := by decide +kernel
theorem dX11_kind_63 : decode cX11_kind 63 = .ok (.iconst 2, 1) := by decide +kernel
theorem dX11_kind_64 : decode cX11_kind 64 = .ok (.iadd, 1) := by decide +kernel
theorem dX11_kind_65 : decode cX11_kind 65 = .ok (.iconst 4, 1) := by decide +kernel
theorem dX11_kind_66 : decode cX11_kind 66 = .ok (.iload_n 2, 1) := by decide +kernel
theorem dX11_kind_67 : decode cX11_kind 67 = .ok (.imul, 1) := by decide +kernel
theorem dX11_kind_68 : decode cX11_kind 68 = .ok (.iadd, 1) := by decide +kernel
theorem dX11_kind_69 : decode cX11_kind 69 = .ok (.iaload, 1) := by decide +kernel
theorem dX11_kind_70 : decode cX11_kind 70 = .ok (.aload_n 0, 1) := by decide +kernel
theorem dX11_kind_71 : decode cX11_kind 71 = .ok (.getfield 135, 3) := by decide +kernel
theorem dX11_kind_74 : decode cX11_kind 74 = .ok (.if_icmp .ne 5, 3) := by decide +kernel
theorem dX11_kind_77 : decode cX11_kind 77 = .ok (.iconst 4, 1) := by decide +kernel
theorem dX11_kind_78 : decode cX11_kind 78 = .ok (.ireturn, 1) := by decide +kernel
theorem dX11_kind_79 : decode cX11_kind 79 = .ok (.iinc 2 1, 3) := by decide +kernel
theorem dX11_kind_82 : decode cX11_kind 82 = .ok (.goto (-59), 3) := by decide +kernel
theorem dX11_kind_85 : decode cX11_kind 85 = .ok (.aload_n 0, 1) := by decide +kernel
theorem dX11_kind_86 : decode cX11_kind 86 = .ok (.iload_n 1, 1) := by decide +kernel
theorem dX11_kind_87 : decode cX11_kind 87 = .ok (.iconst 1, 1) := by decide +kernel
theorem dX11_kind_88 : decode cX11_kind 88 = .ok (.iadd, 1) := by decide +kernel
theorem dX11_kind_89 : decode cX11_kind 89 = .ok (.iconst 0, 1) := by decide +kernel
theorem dX11_kind_90 : decode cX11_kind 90 = .ok (.bipush 19, 2) := by decide +kernel
theorem dX11_kind_92 : decode cX11_kind 92 = .ok (.invokevirtual 233, 3) := by decide +kernel
theorem dX11_kind_95 : decode cX11_kind 95 = .ok (.istore_n 2, 1) := by decide +kernel
theorem dX11_kind_96 : decode cX11_kind 96 = .ok (.iload_n 2, 1) := by decide +kernel
theorem dX11_kind_97 : decode cX11_kind 97 = .ok (.ifCond .ne 23, 3) := by decide +kernel
theorem dX11_kind_100 : decode cX11_kind 100 = .ok (.aload_n 0, 1) := by decide +kernel
theorem dX11_kind_101 : decode cX11_kind 101 = .ok (.aload_n 0, 1) := by decide +kernel
theorem dX11_kind_102 : decode cX11_kind 102 = .ok (.bipush 109, 2) := by decide +kernel
theorem dX11_kind_104 : decode cX11_kind 104 = .ok (.bipush 97, 2) := by decide +kernel
theorem dX11_kind_106 : decode cX11_kind 106 = .ok (.bipush 110, 2) := by decide +kernel
theorem dX11_kind_108 : decode cX11_kind 108 = .ok (.bipush 121, 2) := by decide +kernel
theorem dX11_kind_110 : decode cX11_kind 110 = .ok (.invokestatic 173, 3) := by decide +kernel
theorem dX11_kind_113 : decode cX11_kind 113 = .ok (.invokevirtual 216, 3) := by decide +kernel
theorem dX11_kind_116 : decode cX11_kind 116 = .ok (.invokevirtual 237, 3) := by decide +kernel
theorem dX11_kind_119 : decode cX11_kind 119 = .ok (.istore_n 2, 1) := by decide +kernel
theorem dX11_kind_120 : decode cX11_kind 120 = .ok (.iload_n 2, 1) := by decide +kernel
theorem dX11_kind_121 : decode cX11_kind 121 = .ok (.ifCond .eq 7, 3) := by decide +kernel
theorem dX11_kind_124 : decode cX11_kind 124 = .ok (.iload_n 2, 1) := by decide +kernel
theorem dX11_kind_125 : decode cX11_kind 125 = .ok (.goto 13, 3) := by decide +kernel
theorem dX11_kind_128 : decode cX11_kind 128 = .ok (.aload_n 0, 1) := by decide +kernel
theorem dX11_kind_129 : decode cX11_kind 129 = .ok (.iload_n 1, 1) := by decide +kernel
theorem dX11_kind_130 : decode cX11_kind 130 = .ok (.iconst 2, 1) := by decide +kernel
theorem dX11_kind_131 : decode cX11_kind 131 = .ok (.iadd, 1) := by decide +kernel
theorem dX11_kind_132 : decode cX11_kind 132 = .ok (.iconst 1, 1) := by decide +kernel
theorem dX11_kind_133 : decode cX11_kind 133 = .ok (.bipush 9, 2) := by decide +kernel
theorem dX11_kind_135 : decode cX11_kind 135 = .ok (.invokevirtual 233, 3) := by decide +kernel
theorem dX11_kind_138 : decode cX11_kind 138 = .ok (.ireturn, 1) := by decide +kernel
theorem dX11_lent_0 : decode cX11_lent 0 = .ok (.aload_n 0, 1) := by decide +kernel
theorem dX11_lent_1 : decode cX11_lent 1 = .ok (.iload_n 1, 1) := by decide +kernel
theorem dX11_lent_2 : decode cX11_lent 2 = .ok (.iconst 1, 1) := by decide +kernel
theorem dX11_lent_3 : decode cX11_lent 3 = .ok (.iadd, 1) := by decide +kernel
theorem dX11_lent_4 : decode cX11_lent 4 = .ok (.iconst 0, 1) := by decide +kernel
theorem dX11_lent_5 : decode cX11_lent 5 = .ok (.bipush 15, 2) := by decide +kernel
theorem dX11_lent_7 : decode cX11_lent 7 = .ok (.invokevirtual 233, 3) := by decide +kernel
theorem dX11_lent_10 : decode cX11_lent 10 = .ok (.istore_n 2, 1) := by decide +kernel
theorem dX11_lent_11 : decode cX11_lent 11 = .ok (.iload_n 2, 1) := by decide +kernel
theorem dX11_lent_12 : decode cX11_lent 12 = .ok (.ifCond .ne 12, 3) := by decide +kernel
theorem dX11_lent_15 : decode cX11_lent 15 = .ok (.aload_n 0, 1) := by decide +kernel
theorem dX11_lent_16 : decode cX11_lent 16 = .ok (.aload_n 0, 1) := by decide +kernel
theorem dX11_lent_17 : decode cX11_lent 17 = .ok (.invokevirtual 241, 3) := by decide +kernel
theorem dX11_lent_20 : decode cX11_lent 20 = .ok (.invokevirtual 237, 3) := by decide +kernel
theorem dX11_lent_23 : decode cX11_lent 23 = .ok (.istore_n 2, 1) := by decide +kernel
theorem dX11_lent_24 : decode cX11_lent 24 = .ok (.iload_n 2, 1) := by decide +kernel
theorem dX11_lent_25 : decode cX11_lent 25 = .ok (.ifCond .ne 14, 3) := by decide +kernel
theorem dX11_lent_28 : decode cX11_lent 28 = .ok (.aload_n 0, 1) := by decide +kernel
theorem dX11_lent_29 : decode cX11_lent 29 = .ok (.iload_n 1, 1) := by decide +kernel
theorem dX11_lent_30 : decode cX11_lent 30 = .ok (.iconst 2, 1) := by decide +kernel
theorem dX11_lent_31 : decode cX11_lent 31 = .ok (.iadd, 1) := by decide +kernel
theorem dX11_lent_32 : decode cX11_lent 32 = .ok (.iconst 0, 1) := by decide +kernel
theorem dX11_lent_33 : decode cX11_lent 33 = .ok (.bipush 9, 2) := by decide +kernel
theorem dX11_lent_35 : decode cX11_lent 35 = .ok (.invokevirtual 233, 3) := by decide +kernel
theorem dX11_lent_38 : decode cX11_lent 38 = .ok (.istore_n 2, 1) := by decide +kernel
theorem dX11_lent_39 : decode cX11_lent 39 = .ok (.iload_n 2, 1) := by decide +kernel
theorem dX11_lent_40 : decode cX11_lent 40 = .ok (.ifCond .ne 21, 3) := by decide +kernel
theorem dX11_lent_43 : decode cX11_lent 43 = .ok (.aload_n 0, 1) := by decide +kernel
theorem dX11_lent_44 : decode cX11_lent 44 = .ok (.aload_n 0, 1) := by decide +kernel
theorem dX11_lent_45 : decode cX11_lent 45 = .ok (.bipush 102, 2) := by decide +kernel
theorem dX11_lent_47 : decode cX11_lent 47 = .ok (.bipush 111, 2) := by decide +kernel
theorem dX11_lent_49 : decode cX11_lent 49 = .ok (.bipush 114, 2) := by decide +kernel
theorem dX11_lent_51 : decode cX11_lent 51 = .ok (.invokestatic 146, 3) := by decide +kernel
theorem dX11_lent_54 : decode cX11_lent 54 = .ok (.invokevirtual 216, 3) := by decide +kernel
theorem dX11_lent_57 : decode cX11_lent 57 = .ok (.invokevirtual 237, 3) := by decide +kernel
theorem dX11_lent_60 : decode cX11_lent 60 = .ok (.istore_n 2, 1) := by decide +kernel
theorem dX11_lent_61 : decode cX11_lent 61 = .ok (.iload_n 2, 1) := by decide +kernel
theorem dX11_lent_62 : decode cX11_lent 62 = .ok (.ifCond .eq 7, 3) := by decide +kernel
theorem dX11_lent_65 : decode cX11_lent 65 = .ok (.iload_n 2, 1) := by decide +kernel
theorem dX11_lent_66 : decode cX11_lent 66 = .ok (.goto 13, 3) := by decide +kernel
theorem dX11_lent_69 : decode cX11_lent 69 = .ok (.aload_n 0, 1) := by decide +kernel
theorem dX11_lent_70 : decode cX11_lent 70 = .ok (.iload_n 1, 1) := by decide +kernel
theorem dX11_lent_71 : decode cX11_lent 71 = .ok (.iconst 3, 1) := by decide +kernel
theorem dX11_lent_72 : decode cX11_lent 72 = .ok (.iadd, 1) := by decide +kernel
theorem dX11_lent_73 : decode cX11_lent 73 = .ok (.iconst 1, 1) := by decide +kernel
theorem dX11_lent_74 : decode cX11_lent 74 = .ok (.bipush 99, 2) := by decide +kernel
theorem dX11_lent_76 : decode cX11_lent 76 = .ok (.invokevirtual 233, 3) := by decide +kernel
theorem dX11_lent_79 : decode cX11_lent 79 = .ok (.ireturn, 1) := by decide +kernel
theorem dX11_done_0 : decode cX11_done 0 = .ok (.iload_n 2, 1) := by decide +kernel
theorem dX11_done_1 : decode cX11_done 1 = .ok (.iconst 3, 1) := by decide +kernel
theorem dX11_done_2 : decode cX11_done 2 = .ok (.if_icmp .ne 9, 3) := by decide +kernel
theorem dX11_done_5 : decode cX11_done 5 = .ok (.aload_n 0, 1) := by decide +kernel
theorem dX11_done_6 : decode cX11_done 6 = .ok (.iload_n 1, 1) := by decide +kernel
theorem dX11_done_7 : decode cX11_done 7 = .ok (.invokevirtual 244, 3) := by decide +kernel
theorem dX11_done_10 : decode cX11_done 10 = .ok (.ireturn, 1) := by decide +kernel
theorem dX11_done_11 : decode cX11_done 11 = .ok (.iload_n 2, 1) := by decide +kernel
theorem dX11_done_12 : decode cX11_done 12 = .ok (.iconst 4, 1) := by decide +kernel
theorem dX11_done_13 : decode cX11_done 13 = .ok (.if_icmp .ne 9, 3) := by decide +kernel
theorem dX11_done_16 : decode cX11_done 16 = .ok (.aload_n 0, 1) := by decide +kernel
theorem dX11_done_17 : decode cX11_done 17 = .ok (.iload_n 1, 1) := by decide +kernel
theorem dX11_done_18 : decode cX11_done 18 = .ok (.invokevirtual 247, 3) := by decide +kernel
theorem dX11_done_21 : decode cX11_done 21 = .ok (.ireturn, 1) := by decide +kernel
theorem dX11_done_22 : decode cX11_done 22 = .ok (.iload_n 2, 1) := by decide +kernel
theorem dX11_done_23 : decode cX11_done 23 = .ok (.bipush 7, 2) := by decide +kernel
theorem dX11_done_25 : decode cX11_done 25 = .ok (.if_icmp .eq 9, 3) := by decide +kernel
theorem dX11_done_28 : decode cX11_done 28 = .ok (.iload_n 2, 1) := by decide +kernel
theorem dX11_done_29 : decode cX11_done 29 = .ok (.bipush 8, 2) := by decide +kernel
theorem dX11_done_31 : decode cX11_done 31 = .ok (.if_icmp .ne 25, 3) := by decide +kernel
theorem dX11_done_34 : decode cX11_done 34 = .ok (.aload_n 0, 1) := by decide +kernel
theorem dX11_done_35 : decode cX11_done 35 = .ok (.iload_n 1, 1) := by decide +kernel
theorem dX11_done_36 : decode cX11_done 36 = .ok (.iconst 1, 1) := by decide +kernel
theorem dX11_done_37 : decode cX11_done 37 = .ok (.iadd, 1) := by decide +kernel
theorem dX11_done_38 : decode cX11_done 38 = .ok (.iconst 0, 1) := by decide +kernel
theorem dX11_done_39 : decode cX11_done 39 = .ok (.iload_n 2, 1) := by decide +kernel
theorem dX11_done_40 : decode cX11_done 40 = .ok (.bipush 7, 2) := by decide +kernel
theorem dX11_done_42 : decode cX11_done 42 = .ok (.if_icmp .ne 8, 3) := by decide +kernel
theorem dX11_done_45 : decode cX11_done 45 = .ok (.bipush 9, 2) := by decide +kernel
theorem dX11_done_47 : decode cX11_done 47 = .ok (.goto 5, 3) := by decide +kernel
theorem dX11_done_50 : decode cX11_done 50 = .ok (.bipush 99, 2) := by decide +kernel
theorem dX11_done_52 : decode cX11_done 52 = .ok (.invokevirtual 233, 3) := by decide +kernel
theorem dX11_done_55 : decode cX11_done 55 = .ok (.ireturn, 1) := by decide +kernel
theorem dX11_done_56 : decode cX11_done 56 = .ok (.aload_n 0, 1) := by decide +kernel
theorem dX11_done_57 : decode cX11_done 57 = .ok (.iload_n 1, 1) := by decide +kernel
theorem dX11_done_58 : decode cX11_done 58 = .ok (.iconst 1, 1) := by decide +kernel
theorem dX11_done_59 : decode cX11_done 59 = .ok (.iadd, 1) := by decide +kernel
theorem dX11_done_60 : decode cX11_done 60 = .ok (.iconst 0, 1) := by decide +kernel
theorem dX11_done_61 : decode cX11_done 61 = .ok (.bipush 15, 2) := by decide +kernel
theorem dX11_done_63 : decode cX11_done 63 = .ok (.invokevirtual 233, 3) := by decide +kernel
theorem dX11_done_66 : decode cX11_done 66 = .ok (.istore_n 3, 1) := by decide +kernel
theorem dX11_done_67 : decode cX11_done 67 = .ok (.iload_n 3, 1) := by decide +kernel
theorem dX11_done_68 : decode cX11_done 68 = .ok (.ifCond .ne 35, 3) := by decide +kernel
theorem dX11_done_71 : decode cX11_done 71 = .ok (.aload_n 0, 1) := by decide +kernel
theorem dX11_done_72 : decode cX11_done 72 = .ok (.iload_n 2, 1) := by decide +kernel
theorem dX11_done_73 : decode cX11_done 73 = .ok (.iconst 5, 1) := by decide +kernel
theorem dX11_done_74 : decode cX11_done 74 = .ok (.if_icmp .ne 21, 3) := by decide +kernel
theorem dX11_done_77 : decode cX11_done 77 = .ok (.aload_n 0, 1) := by decide +kernel
theorem dX11_done_78 : decode cX11_done 78 = .ok (.bipush 119, 2) := by decide +kernel
theorem dX11_done_80 : decode cX11_done 80 = .ok (.bipush 105, 2) := by decide +kernel
theorem dX11_done_82 : decode cX11_done 82 = .ok (.bipush 116, 2) := by decide +kernel
theorem dX11_done_84 : decode cX11_done 84 = .ok (.bipush 104, 2) := by decide +kernel
theorem dX11_done_86 : decode cX11_done 86 = .ok (.invokestatic 173, 3) := by decide +kernel
theorem dX11_done_89 : decode cX11_done 89 = .ok (.invokevirtual 216, 3) := by decide +kernel
theorem dX11_done_92 : decode cX11_done 92 = .ok (.goto 7, 3) := by decide +kernel
theorem dX11_done_95 : decode cX11_done 95 = .ok (.aload_n 0, 1) := by decide +kernel
theorem dX11_done_96 : decode cX11_done 96 = .ok (.invokevirtual 241, 3) := by decide +kernel
theorem dX11_done_99 : decode cX11_done 99 = .ok (.invokevirtual 237, 3) := by decide +kernel
theorem dX11_done_102 : decode cX11_done 102 = .ok (.istore_n 3, 1) := by decide +kernel
theorem dX11_done_103 : decode cX11_done 103 = .ok (.iload_n 3, 1) := by decide +kernel
theorem dX11_done_104 : decode cX11_done 104 = .ok (.ifCond .eq 7, 3) := by decide +kernel
theorem dX11_done_107 : decode cX11_done 107 = .ok (.iload_n 3, 1) := by decide +kernel
theorem dX11_done_108 : decode cX11_done 108 = .ok (.goto 23, 3) := by decide +kernel
theorem dX11_done_111 : decode cX11_done 111 = .ok (.aload_n 0, 1) := by decide +kernel
theorem dX11_done_112 : decode cX11_done 112 = .ok (.iload_n 1, 1) := by decide +kernel
theorem dX11_done_113 : decode cX11_done 113 = .ok (.iconst 2, 1) := by decide +kernel
theorem dX11_done_114 : decode cX11_done 114 = .ok (.iadd, 1) := by decide +kernel
theorem dX11_done_115 : decode cX11_done 115 = .ok (.iconst 0, 1) := by decide +kernel
theorem dX11_done_116 : decode cX11_done 116 = .ok (.iload_n 2, 1) := by decide +kernel
theorem dX11_done_117 : decode cX11_done 117 = .ok (.iconst 5, 1) := by decide +kernel
theorem dX11_done_118 : decode cX11_done 118 = .ok (.if_icmp .ne 8, 3) := by decide +kernel
theorem dX11_done_121 : decode cX11_done 121 = .ok (.bipush 15, 2) := by decide +kernel
theorem dX11_done_123 : decode cX11_done 123 = .ok (.goto 5, 3) := by decide +kernel
theorem dX11_done_126 : decode cX11_done 126 = .ok (.bipush 9, 2) := by decide +kernel
theorem dX11_done_128 : decode cX11_done 128 = .ok (.invokevirtual 233, 3) := by decide +kernel
theorem dX11_done_131 : decode cX11_done 131 = .ok (.ireturn, 1) := by decide +kernel
theorem dX11_clause_0 : decode cX11_clause 0 = .ok (.aload_n 0, 1) := by decide +kernel
theorem dX11_clause_1 : decode cX11_clause 1 = .ok (.invokevirtual 250, 3) := by decide +kernel
theorem dX11_clause_4 : decode cX11_clause 4 = .ok (.istore_n 1, 1) := by decide +kernel
theorem dX11_clause_5 : decode cX11_clause 5 = .ok (.iload_n 1, 1) := by decide +kernel
theorem dX11_clause_6 : decode cX11_clause 6 = .ok (.ifCond .ge 5, 3) := by decide +kernel
theorem dX11_clause_9 : decode cX11_clause 9 = .ok (.iconst 1, 1) := by decide +kernel
theorem dX11_clause_10 : decode cX11_clause 10 = .ok (.ireturn, 1) := by decide +kernel
theorem dX11_clause_11 : decode cX11_clause 11 = .ok (.iload_n 1, 1) := by decide +kernel
theorem dX11_clause_12 : decode cX11_clause 12 = .ok (.iconst 3, 1) := by decide +kernel
theorem dX11_clause_13 : decode cX11_clause 13 = .ok (.if_icmp .ge 17, 3) := by decide +kernel
theorem dX11_clause_16 : decode cX11_clause 16 = .ok (.aload_n 0, 1) := by decide +kernel
theorem dX11_clause_17 : decode cX11_clause 17 = .ok (.getfield 253, 3) := by decide +kernel
theorem dX11_clause_20 : decode cX11_clause 20 = .ok (.iload_n 1, 1) := by decide +kernel
theorem dX11_clause_21 : decode cX11_clause 21 = .ok (.ishr, 1) := by decide +kernel
theorem dX11_clause_22 : decode cX11_clause 22 = .ok (.iconst 1, 1) := by decide +kernel
theorem dX11_clause_23 : decode cX11_clause 23 = .ok (.iand, 1) := by decide +kernel
theorem dX11_clause_24 : decode cX11_clause 24 = .ok (.iconst 1, 1) := by decide +kernel
theorem dX11_clause_25 : decode cX11_clause 25 = .ok (.if_icmp .ne 5, 3) := by decide +kernel
theorem dX11_clause_28 : decode cX11_clause 28 = .ok (.iconst 4, 1) := by decide +kernel
theorem dX11_clause_29 : decode cX11_clause 29 = .ok (.ireturn, 1) := by decide +kernel
theorem dX11_clause_30 : decode cX11_clause 30 = .ok (.aload_n 0, 1) := by decide +kernel
theorem dX11_clause_31 : decode cX11_clause 31 = .ok (.getfield 16, 3) := by decide +kernel
theorem dX11_clause_34 : decode cX11_clause 34 = .ok (.aload_n 0, 1) := by decide +kernel
theorem dX11_clause_35 : decode cX11_clause 35 = .ok (.getfield 154, 3) := by decide +kernel
theorem dX11_clause_38 : decode cX11_clause 38 = .ok (.iaload, 1) := by decide +kernel
theorem dX11_clause_39 : decode cX11_clause 39 = .ok (.istore_n 2, 1) := by decide +kernel
theorem dX11_clause_40 : decode cX11_clause 40 = .ok (.iload_n 2, 1) := by decide +kernel
theorem dX11_clause_41 : decode cX11_clause 41 = .ok (.bipush 24, 2) := by decide +kernel
theorem dX11_clause_43 : decode cX11_clause 43 = .ok (.if_icmp .ne 6, 3) := by decide +kernel
theorem dX11_clause_46 : decode cX11_clause 46 = .ok (.bipush 6, 2) := by decide +kernel
theorem dX11_clause_48 : decode cX11_clause 48 = .ok (.ireturn, 1) := by decide +kernel
theorem dX11_clause_49 : decode cX11_clause 49 = .ok (.iload_n 1, 1) := by decide +kernel
theorem dX11_clause_50 : decode cX11_clause 50 = .ok (.iconst 3, 1) := by decide +kernel
theorem dX11_clause_51 : decode cX11_clause 51 = .ok (.if_icmp .ge 15, 3) := by decide +kernel
theorem dX11_clause_54 : decode cX11_clause 54 = .ok (.aload_n 0, 1) := by decide +kernel
theorem dX11_clause_55 : decode cX11_clause 55 = .ok (.dup, 1) := by decide +kernel
theorem dX11_clause_56 : decode cX11_clause 56 = .ok (.getfield 253, 3) := by decide +kernel
theorem dX11_clause_59 : decode cX11_clause 59 = .ok (.iconst 1, 1) := by decide +kernel
theorem dX11_clause_60 : decode cX11_clause 60 = .ok (.iload_n 1, 1) := by decide +kernel
theorem dX11_clause_61 : decode cX11_clause 61 = .ok (.ishl, 1) := by decide +kernel
theorem dX11_clause_62 : decode cX11_clause 62 = .ok (.ior, 1) := by decide +kernel
theorem dX11_clause_63 : decode cX11_clause 63 = .ok (.putfield 253, 3) := by decide +kernel
theorem dX11_clause_66 : decode cX11_clause 66 = .ok (.aload_n 0, 1) := by decide +kernel
theorem dX11_clause_67 : decode cX11_clause 67 = .ok (.iload_n 1, 1) := by decide +kernel
theorem dX11_clause_68 : decode cX11_clause 68 = .ok (.putfield 181, 3) := by decide +kernel
theorem dX11_clause_71 : decode cX11_clause 71 = .ok (.aload_n 0, 1) := by decide +kernel
theorem dX11_clause_72 : decode cX11_clause 72 = .ok (.invokevirtual 184, 3) := by decide +kernel
theorem dX11_clause_75 : decode cX11_clause 75 = .ok (.aload_n 0, 1) := by decide +kernel
theorem dX11_clause_76 : decode cX11_clause 76 = .ok (.getfield 154, 3) := by decide +kernel
theorem dX11_clause_79 : decode cX11_clause 79 = .ok (.iconst 1, 1) := by decide +kernel
theorem dX11_clause_80 : decode cX11_clause 80 = .ok (.iadd, 1) := by decide +kernel
theorem dX11_clause_81 : decode cX11_clause 81 = .ok (.iconst 4, 1) := by decide +kernel
theorem dX11_clause_82 : decode cX11_clause 82 = .ok (.iload_n 2, 1) := by decide +kernel
theorem dX11_clause_83 : decode cX11_clause 83 = .ok (.imul, 1) := by decide +kernel
theorem dX11_clause_84 : decode cX11_clause 84 = .ok (.iadd, 1) := by decide +kernel
theorem dX11_clause_85 : decode cX11_clause 85 = .ok (.istore_n 3, 1) := by decide +kernel
theorem dX11_clause_86 : decode cX11_clause 86 = .ok (.aload_n 0, 1) := by decide +kernel
theorem dX11_clause_87 : decode cX11_clause 87 = .ok (.getfield 16, 3) := by decide +kernel
theorem dX11_clause_90 : decode cX11_clause 90 = .ok (.iload_n 3, 1) := by decide +kernel
theorem dX11_clause_91 : decode cX11_clause 91 = .ok (.iload_n 1, 1) := by decide +kernel
theorem dX11_clause_92 : decode cX11_clause 92 = .ok (.iastore, 1) := by decide +kernel
theorem dX11_clause_93 : decode cX11_clause 93 = .ok (.aload_n 0, 1) := by decide +kernel
theorem dX11_clause_94 : decode cX11_clause 94 = .ok (.getfield 157, 3) := by decide +kernel
theorem dX11_clause_97 : decode cX11_clause 97 = .ok (.istore 4, 2) := by decide +kernel
theorem dX11_clause_99 : decode cX11_clause 99 = .ok (.iload_n 1, 1) := by decide +kernel
theorem dX11_clause_100 : decode cX11_clause 100 = .ok (.iconst 3, 1) := by decide +kernel
theorem dX11_clause_101 : decode cX11_clause 101 = .ok (.if_icmp .lt 12, 3) := by decide +kernel
theorem dX11_clause_104 : decode cX11_clause 104 = .ok (.aload_n 0, 1) := by decide +kernel
theorem dX11_clause_105 : decode cX11_clause 105 = .ok (.iload_n 3, 1) := by decide +kernel
theorem dX11_clause_106 : decode cX11_clause 106 = .ok (.iload_n 1, 1) := by decide +kernel
theorem dX11_clause_107 : decode cX11_clause 107 = .ok (.invokevirtual 256, 3) := by decide +kernel
theorem dX11_clause_110 : decode cX11_clause 110 = .ok (.goto 18, 3) := by decide +kernel
theorem dX11_clause_113 : decode cX11_clause 113 = .ok (.iload_n 1, 1) := by decide +kernel
theorem dX11_clause_114 : decode cX11_clause 114 = .ok (.ifCond .ne 10, 3) := by decide +kernel
theorem dX11_clause_117 : decode cX11_clause 117 = .ok (.aload_n 0, 1) := by decide +kernel
theorem dX11_clause_118 : decode cX11_clause 118 = .ok (.invokevirtual 220, 3) := by decide +kernel
theorem dX11_clause_121 : decode cX11_clause 121 = .ok (.goto 7, 3) := by decide +kernel
theorem dX11_clause_124 : decode cX11_clause 124 = .ok (.aload_n 0, 1) := by decide +kernel
theorem dX11_clause_125 : decode cX11_clause 125 = .ok (.invokevirtual 259, 3) := by decide +kernel
theorem dX11_clause_128 : decode cX11_clause 128 = .ok (.istore 5, 2) := by decide +kernel
theorem dX11_clause_130 : decode cX11_clause 130 = .ok (.iload 5, 2) := by decide +kernel
theorem dX11_clause_132 : decode cX11_clause 132 = .ok (.ifCond .eq 6, 3) := by decide +kernel
theorem dX11_clause_135 : decode cX11_clause 135 = .ok (.iload 5, 2) := by decide +kernel
theorem dX11_clause_137 : decode cX11_clause 137 = .ok (.ireturn, 1) := by decide +kernel
theorem dX11_clause_138 : decode cX11_clause 138 = .ok (.iload_n 1, 1) := by decide +kernel
theorem dX11_clause_139 : decode cX11_clause 139 = .ok (.iconst 3, 1) := by decide +kernel
theorem dX11_clause_140 : decode cX11_clause 140 = .ok (.if_icmp .ge 25, 3) := by decide +kernel
theorem dX11_clause_143 : decode cX11_clause 143 = .ok (.aload_n 0, 1) := by decide +kernel
theorem dX11_clause_144 : decode cX11_clause 144 = .ok (.getfield 16, 3) := by decide +kernel
theorem dX11_clause_147 : decode cX11_clause 147 = .ok (.iload_n 3, 1) := by decide +kernel
theorem dX11_clause_148 : decode cX11_clause 148 = .ok (.iconst 1, 1) := by decide +kernel
theorem dX11_clause_149 : decode cX11_clause 149 = .ok (.iadd, 1) := by decide +kernel
theorem dX11_clause_150 : decode cX11_clause 150 = .ok (.iload 4, 2) := by decide +kernel
theorem dX11_clause_152 : decode cX11_clause 152 = .ok (.iastore, 1) := by decide +kernel
theorem dX11_clause_153 : decode cX11_clause 153 = .ok (.aload_n 0, 1) := by decide +kernel
theorem dX11_clause_154 : decode cX11_clause 154 = .ok (.getfield 16, 3) := by decide +kernel
theorem dX11_clause_157 : decode cX11_clause 157 = .ok (.iload_n 3, 1) := by decide +kernel
theorem dX11_clause_158 : decode cX11_clause 158 = .ok (.iconst 2, 1) := by decide +kernel
theorem dX11_clause_159 : decode cX11_clause 159 = .ok (.iadd, 1) := by decide +kernel
theorem dX11_clause_160 : decode cX11_clause 160 = .ok (.aload_n 0, 1) := by decide +kernel
theorem dX11_clause_161 : decode cX11_clause 161 = .ok (.getfield 157, 3) := by decide +kernel
theorem dX11_clause_164 : decode cX11_clause 164 = .ok (.iastore, 1) := by decide +kernel
theorem dX11_clause_165 : decode cX11_clause 165 = .ok (.aload_n 0, 1) := by decide +kernel
theorem dX11_clause_166 : decode cX11_clause 166 = .ok (.getfield 16, 3) := by decide +kernel
theorem dX11_clause_169 : decode cX11_clause 169 = .ok (.aload_n 0, 1) := by decide +kernel
theorem dX11_clause_170 : decode cX11_clause 170 = .ok (.getfield 154, 3) := by decide +kernel
theorem dX11_clause_173 : decode cX11_clause 173 = .ok (.dup2, 1) := by decide +kernel
theorem dX11_clause_174 : decode cX11_clause 174 = .ok (.iaload, 1) := by decide +kernel
theorem dX11_clause_175 : decode cX11_clause 175 = .ok (.iconst 1, 1) := by decide +kernel
theorem dX11_clause_176 : decode cX11_clause 176 = .ok (.iadd, 1) := by decide +kernel
theorem dX11_clause_177 : decode cX11_clause 177 = .ok (.iastore, 1) := by decide +kernel
theorem dX11_clause_178 : decode cX11_clause 178 = .ok (.aload_n 0, 1) := by decide +kernel
theorem dX11_clause_179 : decode cX11_clause 179 = .ok (.getfield 129, 3) := by decide +kernel
theorem dX11_clause_182 : decode cX11_clause 182 = .ok (.bipush 59, 2) := by decide +kernel
theorem dX11_clause_184 : decode cX11_clause 184 = .ok (.if_icmp .eq 5, 3) := by decide +kernel
theorem dX11_clause_187 : decode cX11_clause 187 = .ok (.iconst 1, 1) := by decide +kernel
theorem dX11_clause_188 : decode cX11_clause 188 = .ok (.ireturn, 1) := by decide +kernel
theorem dX11_clause_189 : decode cX11_clause 189 = .ok (.aload_n 0, 1) := by decide +kernel
theorem dX11_clause_190 : decode cX11_clause 190 = .ok (.invokevirtual 184, 3) := by decide +kernel
theorem dX11_clause_193 : decode cX11_clause 193 = .ok (.iconst 0, 1) := by decide +kernel
theorem dX11_clause_194 : decode cX11_clause 194 = .ok (.ireturn, 1) := by decide +kernel
theorem dX11_readText_0 : decode cX11_readText 0 = .ok (.aload_n 0, 1) := by decide +kernel
theorem dX11_readText_1 : decode cX11_readText 1 = .ok (.sipush 700, 3) := by decide +kernel
theorem dX11_readText_4 : decode cX11_readText 4 = .ok (.aload_n 0, 1) := by decide +kernel
theorem dX11_readText_5 : decode cX11_readText 5 = .ok (.getfield 7, 3) := by decide +kernel
theorem dX11_readText_8 : decode cX11_readText 8 = .ok (.iconst 3, 1) := by decide +kernel
theorem dX11_readText_9 : decode cX11_readText 9 = .ok (.iaload, 1) := by decide +kernel
theorem dX11_readText_10 : decode cX11_readText 10 = .ok (.imul, 1) := by decide +kernel
theorem dX11_readText_11 : decode cX11_readText 11 = .ok (.putfield 154, 3) := by decide +kernel
theorem dX11_readText_14 : decode cX11_readText 14 = .ok (.aload_n 0, 1) := by decide +kernel
theorem dX11_readText_15 : decode cX11_readText 15 = .ok (.getfield 16, 3) := by decide +kernel
theorem dX11_readText_18 : decode cX11_readText 18 = .ok (.aload_n 0, 1) := by decide +kernel
theorem dX11_readText_19 : decode cX11_readText 19 = .ok (.getfield 154, 3) := by decide +kernel
theorem dX11_readText_22 : decode cX11_readText 22 = .ok (.iconst 0, 1) := by decide +kernel
theorem dX11_readText_23 : decode cX11_readText 23 = .ok (.iastore, 1) := by decide +kernel
theorem dX11_readText_24 : decode cX11_readText 24 = .ok (.aload_n 0, 1) := by decide +kernel
theorem dX11_readText_25 : decode cX11_readText 25 = .ok (.iconst 0, 1) := by decide +kernel
theorem dX11_readText_26 : decode cX11_readText 26 = .ok (.putfield 157, 3) := by decide +kernel
theorem dX11_readText_29 : decode cX11_readText 29 = .ok (.aload_n 0, 1) := by decide +kernel
theorem dX11_readText_30 : decode cX11_readText 30 = .ok (.iconst 0, 1) := by decide +kernel
theorem dX11_readText_31 : decode cX11_readText 31 = .ok (.putfield 167, 3) := by decide +kernel
theorem dX11_readText_34 : decode cX11_readText 34 = .ok (.aload_n 0, 1) := by decide +kernel
theorem dX11_readText_35 : decode cX11_readText 35 = .ok (.iconst 0, 1) := by decide +kernel
theorem dX11_readText_36 : decode cX11_readText 36 = .ok (.putfield 253, 3) := by decide +kernel
theorem dX11_readText_39 : decode cX11_readText 39 = .ok (.aload_n 0, 1) := by decide +kernel
theorem dX11_readText_40 : decode cX11_readText 40 = .ok (.iconst 0, 1) := by decide +kernel
theorem dX11_readText_41 : decode cX11_readText 41 = .ok (.putfield 120, 3) := by decide +kernel
theorem dX11_readText_44 : decode cX11_readText 44 = .ok (.aload_n 0, 1) := by decide +kernel
theorem dX11_readText_45 : decode cX11_readText 45 = .ok (.invokevirtual 184, 3) := by decide +kernel
theorem dX11_readText_48 : decode cX11_readText 48 = .ok (.aload_n 0, 1) := by decide +kernel
theorem dX11_readText_49 : decode cX11_readText 49 = .ok (.getfield 129, 3) := by decide +kernel
theorem dX11_readText_52 : decode cX11_readText 52 = .ok (.ifCond .eq 17, 3) := by decide +kernel
theorem dX11_readText_55 : decode cX11_readText 55 = .ok (.aload_n 0, 1) := by decide +kernel
theorem dX11_readText_56 : decode cX11_readText 56 = .ok (.invokevirtual 262, 3) := by decide +kernel
theorem dX11_readText_59 : decode cX11_readText 59 = .ok (.istore_n 1, 1) := by decide +kernel
theorem dX11_readText_60 : decode cX11_readText 60 = .ok (.iload_n 1, 1) := by decide +kernel
theorem dX11_readText_61 : decode cX11_readText 61 = .ok (.ifCond .eq 5, 3) := by decide +kernel
theorem dX11_readText_64 : decode cX11_readText 64 = .ok (.iload_n 1, 1) := by decide +kernel
theorem dX11_readText_65 : decode cX11_readText 65 = .ok (.ireturn, 1) := by decide +kernel
theorem dX11_readText_66 : decode cX11_readText 66 = .ok (.goto (-18), 3) := by decide +kernel
theorem dX11_readText_69 : decode cX11_readText 69 = .ok (.iconst 0, 1) := by decide +kernel
theorem dX11_readText_70 : decode cX11_readText 70 = .ok (.ireturn, 1) := by decide +kernel
theorem dX11_text_0 : decode cX11_text 0 = .ok (.aload_n 0, 1) := by decide +kernel
theorem dX11_text_1 : decode cX11_text 1 = .ok (.getfield 7, 3) := by decide +kernel
theorem dX11_text_4 : decode cX11_text 4 = .ok (.iconst 3, 1) := by decide +kernel
theorem dX11_text_5 : decode cX11_text 5 = .ok (.iaload, 1) := by decide +kernel
theorem dX11_text_6 : decode cX11_text 6 = .ok (.iconst 4, 1) := by decide +kernel
theorem dX11_text_7 : decode cX11_text 7 = .ok (.if_icmp .ne 5, 3) := by decide +kernel
theorem dX11_text_10 : decode cX11_text 10 = .ok (.iconst (-1), 1) := by decide +kernel
theorem dX11_text_11 : decode cX11_text 11 = .ok (.ireturn, 1) := by decide +kernel
theorem dX11_text_12 : decode cX11_text 12 = .ok (.aload_n 0, 1) := by decide +kernel
theorem dX11_text_13 : decode cX11_text 13 = .ok (.aload_n 0, 1) := by decide +kernel
theorem dX11_text_14 : decode cX11_text 14 = .ok (.invokevirtual 265, 3) := by decide +kernel
theorem dX11_text_17 : decode cX11_text 17 = .ok (.putfield 22, 3) := by decide +kernel
theorem dX11_text_20 : decode cX11_text 20 = .ok (.aload_n 0, 1) := by decide +kernel
theorem dX11_text_21 : decode cX11_text 21 = .ok (.aload_n 0, 1) := by decide +kernel
theorem dX11_text_22 : decode cX11_text 22 = .ok (.getfield 22, 3) := by decide +kernel
theorem dX11_text_25 : decode cX11_text 25 = .ok (.ifCond .ne 7, 3) := by decide +kernel
theorem dX11_text_28 : decode cX11_text 28 = .ok (.iconst (-1), 1) := by decide +kernel
theorem dX11_text_29 : decode cX11_text 29 = .ok (.goto 7, 3) := by decide +kernel
theorem dX11_text_32 : decode cX11_text 32 = .ok (.aload_n 0, 1) := by decide +kernel
theorem dX11_text_33 : decode cX11_text 33 = .ok (.getfield 126, 3) := by decide +kernel
theorem dX11_text_36 : decode cX11_text 36 = .ok (.putfield 26, 3) := by decide +kernel
theorem dX11_text_39 : decode cX11_text 39 = .ok (.aload_n 0, 1) := by decide +kernel
theorem dX11_text_40 : decode cX11_text 40 = .ok (.iconst 0, 1) := by decide +kernel
theorem dX11_text_41 : decode cX11_text 41 = .ok (.putfield 114, 3) := by decide +kernel
theorem dX11_text_44 : decode cX11_text 44 = .ok (.aload_n 0, 1) := by decide +kernel
theorem dX11_text_45 : decode cX11_text 45 = .ok (.getfield 22, 3) := by decide +kernel
theorem dX11_text_48 : decode cX11_text 48 = .ok (.ifCond .eq 5, 3) := by decide +kernel
theorem dX11_text_51 : decode cX11_text 51 = .ok (.iconst (-1), 1) := by decide +kernel
theorem dX11_text_52 : decode cX11_text 52 = .ok (.ireturn, 1) := by decide +kernel
theorem dX11_text_53 : decode cX11_text 53 = .ok (.aload_n 0, 1) := by decide +kernel
theorem dX11_text_54 : decode cX11_text 54 = .ok (.getfield 7, 3) := by decide +kernel
theorem dX11_text_57 : decode cX11_text 57 = .ok (.iconst 3, 1) := by decide +kernel
theorem dX11_text_58 : decode cX11_text 58 = .ok (.dup2, 1) := by decide +kernel
theorem dX11_text_59 : decode cX11_text 59 = .ok (.iaload, 1) := by decide +kernel
theorem dX11_text_60 : decode cX11_text 60 = .ok (.iconst 1, 1) := by decide +kernel
theorem dX11_text_61 : decode cX11_text 61 = .ok (.iadd, 1) := by decide +kernel
theorem dX11_text_62 : decode cX11_text 62 = .ok (.iastore, 1) := by decide +kernel
theorem dX11_text_63 : decode cX11_text 63 = .ok (.aload_n 0, 1) := by decide +kernel
theorem dX11_text_64 : decode cX11_text 64 = .ok (.getfield 7, 3) := by decide +kernel
theorem dX11_text_67 : decode cX11_text 67 = .ok (.iconst 3, 1) := by decide +kernel
theorem dX11_text_68 : decode cX11_text 68 = .ok (.iaload, 1) := by decide +kernel
theorem dX11_text_69 : decode cX11_text 69 = .ok (.iconst 1, 1) := by decide +kernel
theorem dX11_text_70 : decode cX11_text 70 = .ok (.isub, 1) := by decide +kernel
theorem dX11_text_71 : decode cX11_text 71 = .ok (.ireturn, 1) := by decide +kernel
theorem dX11_fault_0 : decode cX11_fault 0 = .ok (.iload_n 1, 1) := by decide +kernel
theorem dX11_fault_1 : decode cX11_fault 1 = .ok (.ifCond .ne 10, 3) := by decide +kernel
theorem dX11_fault_4 : decode cX11_fault 4 = .ok (.aload_n 0, 1) := by decide +kernel
theorem dX11_fault_5 : decode cX11_fault 5 = .ok (.getfield 22, 3) := by decide +kernel
theorem dX11_fault_8 : decode cX11_fault 8 = .ok (.goto 16, 3) := by decide +kernel
theorem dX11_fault_11 : decode cX11_fault 11 = .ok (.iload_n 1, 1) := by decide +kernel
theorem dX11_fault_12 : decode cX11_fault 12 = .ok (.iconst 1, 1) := by decide +kernel
theorem dX11_fault_13 : decode cX11_fault 13 = .ok (.if_icmp .ne 10, 3) := by decide +kernel
theorem dX11_fault_16 : decode cX11_fault 16 = .ok (.aload_n 0, 1) := by decide +kernel
theorem dX11_fault_17 : decode cX11_fault 17 = .ok (.getfield 26, 3) := by decide +kernel
theorem dX11_fault_20 : decode cX11_fault 20 = .ok (.goto 4, 3) := by decide +kernel
theorem dX11_fault_23 : decode cX11_fault 23 = .ok (.iconst (-1), 1) := by decide +kernel
theorem dX11_fault_24 : decode cX11_fault 24 = .ok (.ireturn, 1) := by decide +kernel
theorem dX11_by_0 : decode cX11_by 0 = .ok (.iload_n 1, 1) := by decide +kernel
theorem dX11_by_1 : decode cX11_by 1 = .ok (.iconst (-1), 1) := by decide +kernel
theorem dX11_by_2 : decode cX11_by 2 = .ok (.aload_n 0, 1) := by decide +kernel
theorem dX11_by_3 : decode cX11_by 3 = .ok (.getfield 7, 3) := by decide +kernel
theorem dX11_by_6 : decode cX11_by 6 = .ok (.iconst 3, 1) := by decide +kernel
theorem dX11_by_7 : decode cX11_by 7 = .ok (.iaload, 1) := by decide +kernel
theorem dX11_by_8 : decode cX11_by 8 = .ok (.iconst 1, 1) := by decide +kernel
theorem dX11_by_9 : decode cX11_by 9 = .ok (.isub, 1) := by decide +kernel
theorem dX11_by_10 : decode cX11_by 10 = .ok (.invokestatic 75, 3) := by decide +kernel
theorem dX11_by_13 : decode cX11_by 13 = .ok (.ifCond .ne 5, 3) := by decide +kernel
theorem dX11_by_16 : decode cX11_by 16 = .ok (.iconst 0, 1) := by decide +kernel
theorem dX11_by_17 : decode cX11_by 17 = .ok (.ireturn, 1) := by decide +kernel
theorem dX11_by_18 : decode cX11_by 18 = .ok (.aload_n 0, 1) := by decide +kernel
theorem dX11_by_19 : decode cX11_by 19 = .ok (.getfield 7, 3) := by decide +kernel
theorem dX11_by_22 : decode cX11_by 22 = .ok (.iconst 4, 1) := by decide +kernel
theorem dX11_by_23 : decode cX11_by 23 = .ok (.iload_n 1, 1) := by decide +kernel
theorem dX11_by_24 : decode cX11_by 24 = .ok (.iastore, 1) := by decide +kernel
theorem dX11_by_25 : decode cX11_by 25 = .ok (.iconst 1, 1) := by decide +kernel
theorem dX11_by_26 : decode cX11_by 26 = .ok (.ireturn, 1) := by decide +kernel
theorem dX11_isPlayed_0 : decode cX11_isPlayed 0 = .ok (.aload_n 0, 1) := by decide +kernel
theorem dX11_isPlayed_1 : decode cX11_isPlayed 1 = .ok (.getfield 16, 3) := by decide +kernel
theorem dX11_isPlayed_4 : decode cX11_isPlayed 4 = .ok (.iload_n 1, 1) := by decide +kernel
theorem dX11_isPlayed_5 : decode cX11_isPlayed 5 = .ok (.iconst 1, 1) := by decide +kernel
theorem dX11_isPlayed_6 : decode cX11_isPlayed 6 = .ok (.iadd, 1) := by decide +kernel
theorem dX11_isPlayed_7 : decode cX11_isPlayed 7 = .ok (.iaload, 1) := by decide +kernel
theorem dX11_isPlayed_8 : decode cX11_isPlayed 8 = .ok (.istore_n 2, 1) := by decide +kernel
theorem dX11_isPlayed_9 : decode cX11_isPlayed 9 = .ok (.aload_n 0, 1) := by decide +kernel
theorem dX11_isPlayed_10 : decode cX11_isPlayed 10 = .ok (.getfield 16, 3) := by decide +kernel
theorem dX11_isPlayed_13 : decode cX11_isPlayed 13 = .ok (.iload_n 1, 1) := by decide +kernel
theorem dX11_isPlayed_14 : decode cX11_isPlayed 14 = .ok (.iconst 2, 1) := by decide +kernel
theorem dX11_isPlayed_15 : decode cX11_isPlayed 15 = .ok (.iadd, 1) := by decide +kernel
theorem dX11_isPlayed_16 : decode cX11_isPlayed 16 = .ok (.iaload, 1) := by decide +kernel
theorem dX11_isPlayed_17 : decode cX11_isPlayed 17 = .ok (.istore_n 3, 1) := by decide +kernel
theorem dX11_isPlayed_18 : decode cX11_isPlayed 18 = .ok (.aload_n 0, 1) := by decide +kernel
theorem dX11_isPlayed_19 : decode cX11_isPlayed 19 = .ok (.getfield 16, 3) := by decide +kernel
theorem dX11_isPlayed_22 : decode cX11_isPlayed 22 = .ok (.iload_n 1, 1) := by decide +kernel
theorem dX11_isPlayed_23 : decode cX11_isPlayed 23 = .ok (.iaload, 1) := by decide +kernel
theorem dX11_isPlayed_24 : decode cX11_isPlayed 24 = .ok (.tableswitch 101 4 8 #[36, 59, 66, 73, 87], 36) := by decide +kernel
theorem dX11_isPlayed_60 : decode cX11_isPlayed 60 = .ok (.aload_n 0, 1) := by decide +kernel
theorem dX11_isPlayed_61 : decode cX11_isPlayed 61 = .ok (.iload_n 2, 1) := by decide +kernel
theorem dX11_isPlayed_62 : decode cX11_isPlayed 62 = .ok (.iload_n 3, 1) := by decide +kernel
theorem dX11_isPlayed_63 : decode cX11_isPlayed 63 = .ok (.aload_n 0, 1) := by decide +kernel
theorem dX11_isPlayed_64 : decode cX11_isPlayed 64 = .ok (.getfield 16, 3) := by decide +kernel
theorem dX11_isPlayed_67 : decode cX11_isPlayed 67 = .ok (.iload_n 1, 1) := by decide +kernel
theorem dX11_isPlayed_68 : decode cX11_isPlayed 68 = .ok (.iconst 3, 1) := by decide +kernel
theorem dX11_isPlayed_69 : decode cX11_isPlayed 69 = .ok (.iadd, 1) := by decide +kernel
theorem dX11_isPlayed_70 : decode cX11_isPlayed 70 = .ok (.iaload, 1) := by decide +kernel
theorem dX11_isPlayed_71 : decode cX11_isPlayed 71 = .ok (.invokevirtual 268, 3) := by decide +kernel
theorem dX11_isPlayed_74 : decode cX11_isPlayed 74 = .ok (.ifCond .lt 7, 3) := by decide +kernel
theorem dX11_isPlayed_77 : decode cX11_isPlayed 77 = .ok (.iconst 1, 1) := by decide +kernel
theorem dX11_isPlayed_78 : decode cX11_isPlayed 78 = .ok (.goto 4, 3) := by decide +kernel
theorem dX11_isPlayed_81 : decode cX11_isPlayed 81 = .ok (.iconst 0, 1) := by decide +kernel
theorem dX11_isPlayed_82 : decode cX11_isPlayed 82 = .ok (.ireturn, 1) := by decide +kernel
theorem dX11_isPlayed_83 : decode cX11_isPlayed 83 = .ok (.aload_n 0, 1) := by decide +kernel
theorem dX11_isPlayed_84 : decode cX11_isPlayed 84 = .ok (.iload_n 2, 1) := by decide +kernel
theorem dX11_isPlayed_85 : decode cX11_isPlayed 85 = .ok (.iload_n 3, 1) := by decide +kernel
theorem dX11_isPlayed_86 : decode cX11_isPlayed 86 = .ok (.invokevirtual 271, 3) := by decide +kernel
theorem dX11_isPlayed_89 : decode cX11_isPlayed 89 = .ok (.ireturn, 1) := by decide +kernel
theorem dX11_isPlayed_90 : decode cX11_isPlayed 90 = .ok (.aload_n 0, 1) := by decide +kernel
theorem dX11_isPlayed_91 : decode cX11_isPlayed 91 = .ok (.iload_n 2, 1) := by decide +kernel
theorem dX11_isPlayed_92 : decode cX11_isPlayed 92 = .ok (.iload_n 3, 1) := by decide +kernel
theorem dX11_isPlayed_93 : decode cX11_isPlayed 93 = .ok (.invokevirtual 275, 3) := by decide +kernel
theorem dX11_isPlayed_96 : decode cX11_isPlayed 96 = .ok (.ireturn, 1) := by decide +kernel
theorem dX11_isPlayed_97 : decode cX11_isPlayed 97 = .ok (.aload_n 0, 1) := by decide +kernel
theorem dX11_isPlayed_98 : decode cX11_isPlayed 98 = .ok (.iload_n 2, 1) := by decide +kernel
theorem dX11_isPlayed_99 : decode cX11_isPlayed 99 = .ok (.invokevirtual 278, 3) := by decide +kernel
theorem dX11_isPlayed_102 : decode cX11_isPlayed 102 = .ok (.ifCond .lt 7, 3) := by decide +kernel
theorem dX11_isPlayed_105 : decode cX11_isPlayed 105 = .ok (.iconst 1, 1) := by decide +kernel
theorem dX11_isPlayed_106 : decode cX11_isPlayed 106 = .ok (.goto 4, 3) := by decide +kernel
theorem dX11_isPlayed_109 : decode cX11_isPlayed 109 = .ok (.iconst 0, 1) := by decide +kernel
theorem dX11_isPlayed_110 : decode cX11_isPlayed 110 = .ok (.ireturn, 1) := by decide +kernel
theorem dX11_isPlayed_111 : decode cX11_isPlayed 111 = .ok (.aload_n 0, 1) := by decide +kernel
theorem dX11_isPlayed_112 : decode cX11_isPlayed 112 = .ok (.iload_n 2, 1) := by decide +kernel
theorem dX11_isPlayed_113 : decode cX11_isPlayed 113 = .ok (.invokevirtual 281, 3) := by decide +kernel
theorem dX11_isPlayed_116 : decode cX11_isPlayed 116 = .ok (.ifCond .lt 7, 3) := by decide +kernel
theorem dX11_isPlayed_119 : decode cX11_isPlayed 119 = .ok (.iconst 1, 1) := by decide +kernel
theorem dX11_isPlayed_120 : decode cX11_isPlayed 120 = .ok (.goto 4, 3) := by decide +kernel
theorem dX11_isPlayed_123 : decode cX11_isPlayed 123 = .ok (.iconst 0, 1) := by decide +kernel
theorem dX11_isPlayed_124 : decode cX11_isPlayed 124 = .ok (.ireturn, 1) := by decide +kernel
theorem dX11_isPlayed_125 : decode cX11_isPlayed 125 = .ok (.iconst 1, 1) := by decide +kernel
theorem dX11_isPlayed_126 : decode cX11_isPlayed 126 = .ok (.ireturn, 1) := by decide +kernel
theorem dX11_played_0 : decode cX11_played 0 = .ok (.iload_n 1, 1) := by decide +kernel
theorem dX11_played_1 : decode cX11_played 1 = .ok (.iconst 0, 1) := by decide +kernel
theorem dX11_played_2 : decode cX11_played 2 = .ok (.aload_n 0, 1) := by decide +kernel
theorem dX11_played_3 : decode cX11_played 3 = .ok (.getfield 7, 3) := by decide +kernel
theorem dX11_played_6 : decode cX11_played 6 = .ok (.iconst 3, 1) := by decide +kernel
theorem dX11_played_7 : decode cX11_played 7 = .ok (.iaload, 1) := by decide +kernel
theorem dX11_played_8 : decode cX11_played 8 = .ok (.iconst 1, 1) := by decide +kernel
theorem dX11_played_9 : decode cX11_played 9 = .ok (.isub, 1) := by decide +kernel
theorem dX11_played_10 : decode cX11_played 10 = .ok (.invokestatic 75, 3) := by decide +kernel
theorem dX11_played_13 : decode cX11_played 13 = .ok (.ifCond .ne 6, 3) := by decide +kernel
theorem dX11_played_16 : decode cX11_played 16 = .ok (.bipush (-2), 2) := by decide +kernel
theorem dX11_played_18 : decode cX11_played 18 = .ok (.ireturn, 1) := by decide +kernel
theorem dX11_played_19 : decode cX11_played 19 = .ok (.iconst 0, 1) := by decide +kernel
theorem dX11_played_20 : decode cX11_played 20 = .ok (.istore_n 2, 1) := by decide +kernel
theorem dX11_played_21 : decode cX11_played 21 = .ok (.iload_n 2, 1) := by decide +kernel
theorem dX11_played_22 : decode cX11_played 22 = .ok (.aload_n 0, 1) := by decide +kernel
theorem dX11_played_23 : decode cX11_played 23 = .ok (.getfield 16, 3) := by decide +kernel
theorem dX11_played_26 : decode cX11_played 26 = .ok (.sipush 700, 3) := by decide +kernel
theorem dX11_played_29 : decode cX11_played 29 = .ok (.iload_n 1, 1) := by decide +kernel
theorem dX11_played_30 : decode cX11_played 30 = .ok (.imul, 1) := by decide +kernel
theorem dX11_played_31 : decode cX11_played 31 = .ok (.iaload, 1) := by decide +kernel
theorem dX11_played_32 : decode cX11_played 32 = .ok (.if_icmp .ge 29, 3) := by decide +kernel
theorem dX11_played_35 : decode cX11_played 35 = .ok (.aload_n 0, 1) := by decide +kernel
theorem dX11_played_36 : decode cX11_played 36 = .ok (.sipush 700, 3) := by decide +kernel
theorem dX11_played_39 : decode cX11_played 39 = .ok (.iload_n 1, 1) := by decide +kernel
theorem dX11_played_40 : decode cX11_played 40 = .ok (.imul, 1) := by decide +kernel
theorem dX11_played_41 : decode cX11_played 41 = .ok (.iconst 1, 1) := by decide +kernel
theorem dX11_played_42 : decode cX11_played 42 = .ok (.iadd, 1) := by decide +kernel
theorem dX11_played_43 : decode cX11_played 43 = .ok (.iconst 4, 1) := by decide +kernel
theorem dX11_played_44 : decode cX11_played 44 = .ok (.iload_n 2, 1) := by decide +kernel
theorem dX11_played_45 : decode cX11_played 45 = .ok (.imul, 1) := by decide +kernel
theorem dX11_played_46 : decode cX11_played 46 = .ok (.iadd, 1) := by decide +kernel
theorem dX11_played_47 : decode cX11_played 47 = .ok (.invokevirtual 284, 3) := by decide +kernel
theorem dX11_played_50 : decode cX11_played 50 = .ok (.ifCond .ne 5, 3) := by decide +kernel
theorem dX11_played_53 : decode cX11_played 53 = .ok (.iload_n 2, 1) := by decide +kernel
theorem dX11_played_54 : decode cX11_played 54 = .ok (.ireturn, 1) := by decide +kernel
theorem dX11_played_55 : decode cX11_played 55 = .ok (.iinc 2 1, 3) := by decide +kernel
theorem dX11_played_58 : decode cX11_played 58 = .ok (.goto (-37), 3) := by decide +kernel
theorem dX11_played_61 : decode cX11_played 61 = .ok (.iconst (-1), 1) := by decide +kernel
theorem dX11_played_62 : decode cX11_played 62 = .ok (.ireturn, 1) := by decide +kernel
theorem dX11_clip_0 : decode cX11_clip 0 = .ok (.lload_n 0, 1) := by decide +kernel
theorem dX11_clip_1 : decode cX11_clip 1 = .ok (.ldc2_w 287, 3) := by decide +kernel
theorem dX11_clip_4 : decode cX11_clip 4 = .ok (.lcmp, 1) := by decide +kernel
theorem dX11_clip_5 : decode cX11_clip 5 = .ok (.ifCond .le 9, 3) := by decide +kernel
theorem dX11_clip_8 : decode cX11_clip 8 = .ok (.ldc2_w 287, 3) := by decide +kernel
theorem dX11_clip_11 : decode cX11_clip 11 = .ok (.goto 18, 3) := by decide +kernel
theorem dX11_clip_14 : decode cX11_clip 14 = .ok (.lload_n 0, 1) := by decide +kernel
theorem dX11_clip_15 : decode cX11_clip 15 = .ok (.ldc2_w 289, 3) := by decide +kernel
theorem dX11_clip_18 : decode cX11_clip 18 = .ok (.lcmp, 1) := by decide +kernel
theorem dX11_clip_19 : decode cX11_clip 19 = .ok (.ifCond .ge 9, 3) := by decide +kernel
theorem dX11_clip_22 : decode cX11_clip 22 = .ok (.ldc2_w 289, 3) := by decide +kernel
theorem dX11_clip_25 : decode cX11_clip 25 = .ok (.goto 4, 3) := by decide +kernel
theorem dX11_clip_28 : decode cX11_clip 28 = .ok (.lload_n 0, 1) := by decide +kernel
theorem dX11_clip_29 : decode cX11_clip 29 = .ok (.lreturn, 1) := by decide +kernel
theorem dX11_two_0 : decode cX11_two 0 = .ok (.iload_n 0, 1) := by decide +kernel
theorem dX11_two_1 : decode cX11_two 1 = .ok (.tableswitch 48 3 5 #[27, 34, 41], 27) := by decide +kernel
theorem dX11_two_28 : decode cX11_two 28 = .ok (.lload_n 1, 1) := by decide +kernel
theorem dX11_two_29 : decode cX11_two 29 = .ok (.lload_n 3, 1) := by decide +kernel
theorem dX11_two_30 : decode cX11_two 30 = .ok (.ladd, 1) := by decide +kernel
theorem dX11_two_31 : decode cX11_two 31 = .ok (.invokestatic 291, 3) := by decide +kernel
theorem dX11_two_34 : decode cX11_two 34 = .ok (.lreturn, 1) := by decide +kernel
theorem dX11_two_35 : decode cX11_two 35 = .ok (.lload_n 1, 1) := by decide +kernel
theorem dX11_two_36 : decode cX11_two 36 = .ok (.lload_n 3, 1) := by decide +kernel
theorem dX11_two_37 : decode cX11_two 37 = .ok (.lsub, 1) := by decide +kernel
theorem dX11_two_38 : decode cX11_two 38 = .ok (.invokestatic 291, 3) := by decide +kernel
theorem dX11_two_41 : decode cX11_two 41 = .ok (.lreturn, 1) := by decide +kernel
theorem dX11_two_42 : decode cX11_two 42 = .ok (.lload_n 1, 1) := by decide +kernel
theorem dX11_two_43 : decode cX11_two 43 = .ok (.lload_n 3, 1) := by decide +kernel
theorem dX11_two_44 : decode cX11_two 44 = .ok (.lmul, 1) := by decide +kernel
theorem dX11_two_45 : decode cX11_two 45 = .ok (.invokestatic 291, 3) := by decide +kernel
theorem dX11_two_48 : decode cX11_two 48 = .ok (.lreturn, 1) := by decide +kernel
theorem dX11_two_49 : decode cX11_two 49 = .ok (.lload_n 3, 1) := by decide +kernel
theorem dX11_two_50 : decode cX11_two 50 = .ok (.lconst 0, 1) := by decide +kernel
theorem dX11_two_51 : decode cX11_two 51 = .ok (.lcmp, 1) := by decide +kernel
theorem dX11_two_52 : decode cX11_two 52 = .ok (.ifCond .ne 7, 3) := by decide +kernel
theorem dX11_two_55 : decode cX11_two 55 = .ok (.lconst 0, 1) := by decide +kernel
theorem dX11_two_56 : decode cX11_two 56 = .ok (.goto 9, 3) := by decide +kernel
theorem dX11_two_59 : decode cX11_two 59 = .ok (.lload_n 1, 1) := by decide +kernel
theorem dX11_two_60 : decode cX11_two 60 = .ok (.lload_n 3, 1) := by decide +kernel
theorem dX11_two_61 : decode cX11_two 61 = .ok (.ldiv, 1) := by decide +kernel
theorem dX11_two_62 : decode cX11_two 62 = .ok (.invokestatic 291, 3) := by decide +kernel
theorem dX11_two_65 : decode cX11_two 65 = .ok (.lreturn, 1) := by decide +kernel
theorem dX11_isAsked_0 : decode cX11_isAsked 0 = .ok (.iload_n 0, 1) := by decide +kernel
theorem dX11_isAsked_1 : decode cX11_isAsked 1 = .ok (.bipush 10, 2) := by decide +kernel
theorem dX11_isAsked_3 : decode cX11_isAsked 3 = .ok (.if_icmp .ne 17, 3) := by decide +kernel
theorem dX11_isAsked_6 : decode cX11_isAsked 6 = .ok (.lload_n 1, 1) := by decide +kernel
theorem dX11_isAsked_7 : decode cX11_isAsked 7 = .ok (.lload_n 3, 1) := by decide +kernel
theorem dX11_isAsked_8 : decode cX11_isAsked 8 = .ok (.lcmp, 1) := by decide +kernel
theorem dX11_isAsked_9 : decode cX11_isAsked 9 = .ok (.ifCond .ge 7, 3) := by decide +kernel
theorem dX11_isAsked_12 : decode cX11_isAsked 12 = .ok (.iconst 1, 1) := by decide +kernel
theorem dX11_isAsked_13 : decode cX11_isAsked 13 = .ok (.goto 98, 3) := by decide +kernel
theorem dX11_isAsked_16 : decode cX11_isAsked 16 = .ok (.iconst 0, 1) := by decide +kernel
theorem dX11_isAsked_17 : decode cX11_isAsked 17 = .ok (.goto 94, 3) := by decide +kernel
theorem dX11_isAsked_20 : decode cX11_isAsked 20 = .ok (.iload_n 0, 1) := by decide +kernel
theorem dX11_isAsked_21 : decode cX11_isAsked 21 = .ok (.bipush 11, 2) := by decide +kernel
theorem dX11_isAsked_23 : decode cX11_isAsked 23 = .ok (.if_icmp .ne 17, 3) := by decide +kernel
theorem dX11_isAsked_26 : decode cX11_isAsked 26 = .ok (.lload_n 1, 1) := by decide +kernel
theorem dX11_isAsked_27 : decode cX11_isAsked 27 = .ok (.lload_n 3, 1) := by decide +kernel
theorem dX11_isAsked_28 : decode cX11_isAsked 28 = .ok (.lcmp, 1) := by decide +kernel
theorem dX11_isAsked_29 : decode cX11_isAsked 29 = .ok (.ifCond .gt 7, 3) := by decide +kernel
theorem dX11_isAsked_32 : decode cX11_isAsked 32 = .ok (.iconst 1, 1) := by decide +kernel
theorem dX11_isAsked_33 : decode cX11_isAsked 33 = .ok (.goto 78, 3) := by decide +kernel
theorem dX11_isAsked_36 : decode cX11_isAsked 36 = .ok (.iconst 0, 1) := by decide +kernel
theorem dX11_isAsked_37 : decode cX11_isAsked 37 = .ok (.goto 74, 3) := by decide +kernel
theorem dX11_isAsked_40 : decode cX11_isAsked 40 = .ok (.iload_n 0, 1) := by decide +kernel
theorem dX11_isAsked_41 : decode cX11_isAsked 41 = .ok (.bipush 12, 2) := by decide +kernel
theorem dX11_isAsked_43 : decode cX11_isAsked 43 = .ok (.if_icmp .ne 17, 3) := by decide +kernel
theorem dX11_isAsked_46 : decode cX11_isAsked 46 = .ok (.lload_n 1, 1) := by decide +kernel
theorem dX11_isAsked_47 : decode cX11_isAsked 47 = .ok (.lload_n 3, 1) := by decide +kernel
theorem dX11_isAsked_48 : decode cX11_isAsked 48 = .ok (.lcmp, 1) := by decide +kernel
theorem dX11_isAsked_49 : decode cX11_isAsked 49 = .ok (.ifCond .le 7, 3) := by decide +kernel
theorem dX11_isAsked_52 : decode cX11_isAsked 52 = .ok (.iconst 1, 1) := by decide +kernel
theorem dX11_isAsked_53 : decode cX11_isAsked 53 = .ok (.goto 58, 3) := by decide +kernel
theorem dX11_isAsked_56 : decode cX11_isAsked 56 = .ok (.iconst 0, 1) := by decide +kernel
theorem dX11_isAsked_57 : decode cX11_isAsked 57 = .ok (.goto 54, 3) := by decide +kernel
theorem dX11_isAsked_60 : decode cX11_isAsked 60 = .ok (.iload_n 0, 1) := by decide +kernel
theorem dX11_isAsked_61 : decode cX11_isAsked 61 = .ok (.bipush 13, 2) := by decide +kernel
theorem dX11_isAsked_63 : decode cX11_isAsked 63 = .ok (.if_icmp .ne 17, 3) := by decide +kernel
theorem dX11_isAsked_66 : decode cX11_isAsked 66 = .ok (.lload_n 1, 1) := by decide +kernel
theorem dX11_isAsked_67 : decode cX11_isAsked 67 = .ok (.lload_n 3, 1) := by decide +kernel
theorem dX11_isAsked_68 : decode cX11_isAsked 68 = .ok (.lcmp, 1) := by decide +kernel
theorem dX11_isAsked_69 : decode cX11_isAsked 69 = .ok (.ifCond .lt 7, 3) := by decide +kernel
theorem dX11_isAsked_72 : decode cX11_isAsked 72 = .ok (.iconst 1, 1) := by decide +kernel
theorem dX11_isAsked_73 : decode cX11_isAsked 73 = .ok (.goto 38, 3) := by decide +kernel
theorem dX11_isAsked_76 : decode cX11_isAsked 76 = .ok (.iconst 0, 1) := by decide +kernel
theorem dX11_isAsked_77 : decode cX11_isAsked 77 = .ok (.goto 34, 3) := by decide +kernel
theorem dX11_isAsked_80 : decode cX11_isAsked 80 = .ok (.iload_n 0, 1) := by decide +kernel
theorem dX11_isAsked_81 : decode cX11_isAsked 81 = .ok (.bipush 14, 2) := by decide +kernel
theorem dX11_isAsked_83 : decode cX11_isAsked 83 = .ok (.if_icmp .ne 17, 3) := by decide +kernel
theorem dX11_isAsked_86 : decode cX11_isAsked 86 = .ok (.lload_n 1, 1) := by decide +kernel
theorem dX11_isAsked_87 : decode cX11_isAsked 87 = .ok (.lload_n 3, 1) := by decide +kernel
theorem dX11_isAsked_88 : decode cX11_isAsked 88 = .ok (.lcmp, 1) := by decide +kernel
theorem dX11_isAsked_89 : decode cX11_isAsked 89 = .ok (.ifCond .ne 7, 3) := by decide +kernel
theorem dX11_isAsked_92 : decode cX11_isAsked 92 = .ok (.iconst 1, 1) := by decide +kernel
theorem dX11_isAsked_93 : decode cX11_isAsked 93 = .ok (.goto 18, 3) := by decide +kernel
theorem dX11_isAsked_96 : decode cX11_isAsked 96 = .ok (.iconst 0, 1) := by decide +kernel
theorem dX11_isAsked_97 : decode cX11_isAsked 97 = .ok (.goto 14, 3) := by decide +kernel
theorem dX11_isAsked_100 : decode cX11_isAsked 100 = .ok (.lload_n 1, 1) := by decide +kernel
theorem dX11_isAsked_101 : decode cX11_isAsked 101 = .ok (.lload_n 3, 1) := by decide +kernel
theorem dX11_isAsked_102 : decode cX11_isAsked 102 = .ok (.lcmp, 1) := by decide +kernel
theorem dX11_isAsked_103 : decode cX11_isAsked 103 = .ok (.ifCond .eq 7, 3) := by decide +kernel
theorem dX11_isAsked_106 : decode cX11_isAsked 106 = .ok (.iconst 1, 1) := by decide +kernel
theorem dX11_isAsked_107 : decode cX11_isAsked 107 = .ok (.goto 4, 3) := by decide +kernel
theorem dX11_isAsked_110 : decode cX11_isAsked 110 = .ok (.iconst 0, 1) := by decide +kernel
theorem dX11_isAsked_111 : decode cX11_isAsked 111 = .ok (.ireturn, 1) := by decide +kernel
theorem dX11_work_0 : decode cX11_work 0 = .ok (.sipush 700, 3) := by decide +kernel
theorem dX11_work_3 : decode cX11_work 3 = .ok (.aload_n 0, 1) := by decide +kernel
theorem dX11_work_4 : decode cX11_work 4 = .ok (.getfield 7, 3) := by decide +kernel
theorem dX11_work_7 : decode cX11_work 7 = .ok (.iconst 4, 1) := by decide +kernel
theorem dX11_work_8 : decode cX11_work 8 = .ok (.iaload, 1) := by decide +kernel
theorem dX11_work_9 : decode cX11_work 9 = .ok (.imul, 1) := by decide +kernel
theorem dX11_work_10 : decode cX11_work 10 = .ok (.iconst 1, 1) := by decide +kernel
theorem dX11_work_11 : decode cX11_work 11 = .ok (.iadd, 1) := by decide +kernel
theorem dX11_work_12 : decode cX11_work 12 = .ok (.iconst 4, 1) := by decide +kernel
theorem dX11_work_13 : decode cX11_work 13 = .ok (.iload_n 1, 1) := by decide +kernel
theorem dX11_work_14 : decode cX11_work 14 = .ok (.imul, 1) := by decide +kernel
theorem dX11_work_15 : decode cX11_work 15 = .ok (.iadd, 1) := by decide +kernel
theorem dX11_work_16 : decode cX11_work 16 = .ok (.istore_n 2, 1) := by decide +kernel
theorem dX11_work_17 : decode cX11_work 17 = .ok (.sipush 700, 3) := by decide +kernel
theorem dX11_work_20 : decode cX11_work 20 = .ok (.aload_n 0, 1) := by decide +kernel
theorem dX11_work_21 : decode cX11_work 21 = .ok (.getfield 7, 3) := by decide +kernel
theorem dX11_work_24 : decode cX11_work 24 = .ok (.iconst 4, 1) := by decide +kernel
theorem dX11_work_25 : decode cX11_work 25 = .ok (.iaload, 1) := by decide +kernel
theorem dX11_work_26 : decode cX11_work 26 = .ok (.imul, 1) := by decide +kernel
theorem dX11_work_27 : decode cX11_work 27 = .ok (.bipush 100, 2) := by decide +kernel
theorem dX11_work_29 : decode cX11_work 29 = .ok (.iadd, 1) := by decide +kernel
theorem dX11_work_30 : decode cX11_work 30 = .ok (.istore_n 3, 1) := by decide +kernel
theorem dX11_work_31 : decode cX11_work 31 = .ok (.iconst 0, 1) := by decide +kernel
theorem dX11_work_32 : decode cX11_work 32 = .ok (.istore 4, 2) := by decide +kernel
theorem dX11_work_34 : decode cX11_work 34 = .ok (.iconst 0, 1) := by decide +kernel
theorem dX11_work_35 : decode cX11_work 35 = .ok (.istore 5, 2) := by decide +kernel
theorem dX11_work_37 : decode cX11_work 37 = .ok (.aload_n 0, 1) := by decide +kernel
theorem dX11_work_38 : decode cX11_work 38 = .ok (.getfield 16, 3) := by decide +kernel
theorem dX11_work_41 : decode cX11_work 41 = .ok (.iload_n 2, 1) := by decide +kernel
theorem dX11_work_42 : decode cX11_work 42 = .ok (.iconst 1, 1) := by decide +kernel
theorem dX11_work_43 : decode cX11_work 43 = .ok (.iadd, 1) := by decide +kernel
theorem dX11_work_44 : decode cX11_work 44 = .ok (.iaload, 1) := by decide +kernel
theorem dX11_work_45 : decode cX11_work 45 = .ok (.istore 6, 2) := by decide +kernel
theorem dX11_work_47 : decode cX11_work 47 = .ok (.iload 6, 2) := by decide +kernel
theorem dX11_work_49 : decode cX11_work 49 = .ok (.aload_n 0, 1) := by decide +kernel
theorem dX11_work_50 : decode cX11_work 50 = .ok (.getfield 16, 3) := by decide +kernel
theorem dX11_work_53 : decode cX11_work 53 = .ok (.iload_n 2, 1) := by decide +kernel
theorem dX11_work_54 : decode cX11_work 54 = .ok (.iconst 2, 1) := by decide +kernel
theorem dX11_work_55 : decode cX11_work 55 = .ok (.iadd, 1) := by decide +kernel
theorem dX11_work_56 : decode cX11_work 56 = .ok (.iaload, 1) := by decide +kernel
theorem dX11_work_57 : decode cX11_work 57 = .ok (.if_icmp .ge 302, 3) := by decide +kernel
theorem dX11_work_60 : decode cX11_work 60 = .ok (.aload_n 0, 1) := by decide +kernel
theorem dX11_work_61 : decode cX11_work 61 = .ok (.getfield 16, 3) := by decide +kernel
theorem dX11_work_64 : decode cX11_work 64 = .ok (.iload_n 3, 1) := by decide +kernel
theorem dX11_work_65 : decode cX11_work 65 = .ok (.iconst 2, 1) := by decide +kernel
theorem dX11_work_66 : decode cX11_work 66 = .ok (.iload 6, 2) := by decide +kernel
theorem dX11_work_68 : decode cX11_work 68 = .ok (.imul, 1) := by decide +kernel
theorem dX11_work_69 : decode cX11_work 69 = .ok (.iadd, 1) := by decide +kernel
theorem dX11_work_70 : decode cX11_work 70 = .ok (.iaload, 1) := by decide +kernel
theorem dX11_work_71 : decode cX11_work 71 = .ok (.istore 7, 2) := by decide +kernel
theorem dX11_work_73 : decode cX11_work 73 = .ok (.aload_n 0, 1) := by decide +kernel
theorem dX11_work_74 : decode cX11_work 74 = .ok (.getfield 16, 3) := by decide +kernel
theorem dX11_work_77 : decode cX11_work 77 = .ok (.iload_n 3, 1) := by decide +kernel
theorem dX11_work_78 : decode cX11_work 78 = .ok (.iconst 2, 1) := by decide +kernel
theorem dX11_work_79 : decode cX11_work 79 = .ok (.iload 6, 2) := by decide +kernel
theorem dX11_work_81 : decode cX11_work 81 = .ok (.imul, 1) := by decide +kernel
theorem dX11_work_82 : decode cX11_work 82 = .ok (.iadd, 1) := by decide +kernel
theorem dX11_work_83 : decode cX11_work 83 = .ok (.iconst 1, 1) := by decide +kernel
theorem dX11_work_84 : decode cX11_work 84 = .ok (.iadd, 1) := by decide +kernel
theorem dX11_work_85 : decode cX11_work 85 = .ok (.iaload, 1) := by decide +kernel
theorem dX11_work_86 : decode cX11_work 86 = .ok (.istore 8, 2) := by decide +kernel
theorem dX11_work_88 : decode cX11_work 88 = .ok (.iload 7, 2) := by decide +kernel
theorem dX11_work_90 : decode cX11_work 90 = .ok (.iconst 1, 1) := by decide +kernel
theorem dX11_work_91 : decode cX11_work 91 = .ok (.if_icmp .gt 35, 3) := by decide +kernel
theorem dX11_work_94 : decode cX11_work 94 = .ok (.aload_n 0, 1) := by decide +kernel
theorem dX11_work_95 : decode cX11_work 95 = .ok (.getfield 35, 3) := by decide +kernel
theorem dX11_work_98 : decode cX11_work 98 = .ok (.iload 4, 2) := by decide +kernel
theorem dX11_work_100 : decode cX11_work 100 = .ok (.iload 7, 2) := by decide +kernel
theorem dX11_work_102 : decode cX11_work 102 = .ok (.ifCond .ne 9, 3) := by decide +kernel
theorem dX11_work_105 : decode cX11_work 105 = .ok (.iload 8, 2) := by decide +kernel
theorem dX11_work_107 : decode cX11_work 107 = .ok (.i2l, 1) := by decide +kernel
theorem dX11_work_108 : decode cX11_work 108 = .ok (.goto 11, 3) := by decide +kernel
theorem dX11_work_111 : decode cX11_work 111 = .ok (.aload_n 0, 1) := by decide +kernel
theorem dX11_work_112 : decode cX11_work 112 = .ok (.getfield 32, 3) := by decide +kernel
theorem dX11_work_115 : decode cX11_work 115 = .ok (.iload 8, 2) := by decide +kernel
theorem dX11_work_117 : decode cX11_work 117 = .ok (.iaload, 1) := by decide +kernel
theorem dX11_work_118 : decode cX11_work 118 = .ok (.i2l, 1) := by decide +kernel
theorem dX11_work_119 : decode cX11_work 119 = .ok (.lastore, 1) := by decide +kernel
theorem dX11_work_120 : decode cX11_work 120 = .ok (.iinc 4 1, 3) := by decide +kernel
theorem dX11_work_123 : decode cX11_work 123 = .ok (.goto 230, 3) := by decide +kernel
theorem dX11_work_126 : decode cX11_work 126 = .ok (.iload 7, 2) := by decide +kernel
theorem dX11_work_128 : decode cX11_work 128 = .ok (.iconst 2, 1) := by decide +kernel
theorem dX11_work_129 : decode cX11_work 129 = .ok (.if_icmp .ne 25, 3) := by decide +kernel
theorem dX11_work_132 : decode cX11_work 132 = .ok (.aload_n 0, 1) := by decide +kernel
theorem dX11_work_133 : decode cX11_work 133 = .ok (.getfield 35, 3) := by decide +kernel
theorem dX11_work_136 : decode cX11_work 136 = .ok (.iload 4, 2) := by decide +kernel
theorem dX11_work_138 : decode cX11_work 138 = .ok (.iconst 1, 1) := by decide +kernel
theorem dX11_work_139 : decode cX11_work 139 = .ok (.isub, 1) := by decide +kernel
theorem dX11_work_140 : decode cX11_work 140 = .ok (.aload_n 0, 1) := by decide +kernel
theorem dX11_work_141 : decode cX11_work 141 = .ok (.getfield 35, 3) := by decide +kernel
theorem dX11_work_144 : decode cX11_work 144 = .ok (.iload 4, 2) := by decide +kernel
theorem dX11_work_146 : decode cX11_work 146 = .ok (.iconst 1, 1) := by decide +kernel
theorem dX11_work_147 : decode cX11_work 147 = .ok (.isub, 1) := by decide +kernel
theorem dX11_work_148 : decode cX11_work 148 = .ok (.laload, 1) := by decide +kernel
theorem dX11_work_149 : decode cX11_work 149 = .ok (.lneg, 1) := by decide +kernel
theorem dX11_work_150 : decode cX11_work 150 = .ok (.lastore, 1) := by decide +kernel
theorem dX11_work_151 : decode cX11_work 151 = .ok (.goto 202, 3) := by decide +kernel
theorem dX11_work_154 : decode cX11_work 154 = .ok (.iload 7, 2) := by decide +kernel
theorem dX11_work_156 : decode cX11_work 156 = .ok (.bipush 10, 2) := by decide +kernel
theorem dX11_work_158 : decode cX11_work 158 = .ok (.if_icmp .ge 39, 3) := by decide +kernel
theorem dX11_work_161 : decode cX11_work 161 = .ok (.iinc 4 (-1), 3) := by decide +kernel
theorem dX11_work_164 : decode cX11_work 164 = .ok (.aload_n 0, 1) := by decide +kernel
theorem dX11_work_165 : decode cX11_work 165 = .ok (.getfield 35, 3) := by decide +kernel
theorem dX11_work_168 : decode cX11_work 168 = .ok (.iload 4, 2) := by decide +kernel
theorem dX11_work_170 : decode cX11_work 170 = .ok (.iconst 1, 1) := by decide +kernel
theorem dX11_work_171 : decode cX11_work 171 = .ok (.isub, 1) := by decide +kernel
theorem dX11_work_172 : decode cX11_work 172 = .ok (.iload 7, 2) := by decide +kernel
theorem dX11_work_174 : decode cX11_work 174 = .ok (.aload_n 0, 1) := by decide +kernel
theorem dX11_work_175 : decode cX11_work 175 = .ok (.getfield 35, 3) := by decide +kernel
theorem dX11_work_178 : decode cX11_work 178 = .ok (.iload 4, 2) := by decide +kernel
theorem dX11_work_180 : decode cX11_work 180 = .ok (.iconst 1, 1) := by decide +kernel
theorem dX11_work_181 : decode cX11_work 181 = .ok (.isub, 1) := by decide +kernel
theorem dX11_work_182 : decode cX11_work 182 = .ok (.laload, 1) := by decide +kernel
theorem dX11_work_183 : decode cX11_work 183 = .ok (.aload_n 0, 1) := by decide +kernel
theorem dX11_work_184 : decode cX11_work 184 = .ok (.getfield 35, 3) := by decide +kernel
theorem dX11_work_187 : decode cX11_work 187 = .ok (.iload 4, 2) := by decide +kernel
theorem dX11_work_189 : decode cX11_work 189 = .ok (.laload, 1) := by decide +kernel
theorem dX11_work_190 : decode cX11_work 190 = .ok (.invokestatic 295, 3) := by decide +kernel
theorem dX11_work_193 : decode cX11_work 193 = .ok (.lastore, 1) := by decide +kernel
theorem dX11_work_194 : decode cX11_work 194 = .ok (.goto 159, 3) := by decide +kernel
theorem dX11_work_197 : decode cX11_work 197 = .ok (.iload 7, 2) := by decide +kernel
theorem dX11_work_199 : decode cX11_work 199 = .ok (.bipush 20, 2) := by decide +kernel
theorem dX11_work_201 : decode cX11_work 201 = .ok (.if_icmp .ge 40, 3) := by decide +kernel
theorem dX11_work_204 : decode cX11_work 204 = .ok (.iinc 4 (-2), 3) := by decide +kernel
theorem dX11_work_207 : decode cX11_work 207 = .ok (.aload_n 0, 1) := by decide +kernel
theorem dX11_work_208 : decode cX11_work 208 = .ok (.getfield 39, 3) := by decide +kernel
theorem dX11_work_211 : decode cX11_work 211 = .ok (.iload 5, 2) := by decide +kernel
theorem dX11_work_213 : decode cX11_work 213 = .ok (.iload 7, 2) := by decide +kernel
theorem dX11_work_215 : decode cX11_work 215 = .ok (.aload_n 0, 1) := by decide +kernel
theorem dX11_work_216 : decode cX11_work 216 = .ok (.getfield 35, 3) := by decide +kernel
theorem dX11_work_219 : decode cX11_work 219 = .ok (.iload 4, 2) := by decide +kernel
theorem dX11_work_221 : decode cX11_work 221 = .ok (.laload, 1) := by decide +kernel
theorem dX11_work_222 : decode cX11_work 222 = .ok (.aload_n 0, 1) := by decide +kernel
theorem dX11_work_223 : decode cX11_work 223 = .ok (.getfield 35, 3) := by decide +kernel
theorem dX11_work_226 : decode cX11_work 226 = .ok (.iload 4, 2) := by decide +kernel
theorem dX11_work_228 : decode cX11_work 228 = .ok (.iconst 1, 1) := by decide +kernel
theorem dX11_work_229 : decode cX11_work 229 = .ok (.iadd, 1) := by decide +kernel
theorem dX11_work_230 : decode cX11_work 230 = .ok (.laload, 1) := by decide +kernel
theorem dX11_work_231 : decode cX11_work 231 = .ok (.invokestatic 299, 3) := by decide +kernel
theorem dX11_work_234 : decode cX11_work 234 = .ok (.bastore, 1) := by decide +kernel
theorem dX11_work_235 : decode cX11_work 235 = .ok (.iinc 5 1, 3) := by decide +kernel
theorem dX11_work_238 : decode cX11_work 238 = .ok (.goto 115, 3) := by decide +kernel
theorem dX11_work_241 : decode cX11_work 241 = .ok (.iload 7, 2) := by decide +kernel
theorem dX11_work_243 : decode cX11_work 243 = .ok (.bipush 20, 2) := by decide +kernel
theorem dX11_work_245 : decode cX11_work 245 = .ok (.if_icmp .ne 32, 3) := by decide +kernel
theorem dX11_work_248 : decode cX11_work 248 = .ok (.aload_n 0, 1) := by decide +kernel
theorem dX11_work_249 : decode cX11_work 249 = .ok (.getfield 39, 3) := by decide +kernel
theorem dX11_work_252 : decode cX11_work 252 = .ok (.iload 5, 2) := by decide +kernel
theorem dX11_work_254 : decode cX11_work 254 = .ok (.iconst 1, 1) := by decide +kernel
theorem dX11_work_255 : decode cX11_work 255 = .ok (.isub, 1) := by decide +kernel
theorem dX11_work_256 : decode cX11_work 256 = .ok (.aload_n 0, 1) := by decide +kernel
theorem dX11_work_257 : decode cX11_work 257 = .ok (.getfield 39, 3) := by decide +kernel
theorem dX11_work_260 : decode cX11_work 260 = .ok (.iload 5, 2) := by decide +kernel
theorem dX11_work_262 : decode cX11_work 262 = .ok (.iconst 1, 1) := by decide +kernel
theorem dX11_work_263 : decode cX11_work 263 = .ok (.isub, 1) := by decide +kernel
theorem dX11_work_264 : decode cX11_work 264 = .ok (.baload, 1) := by decide +kernel
theorem dX11_work_265 : decode cX11_work 265 = .ok (.ifCond .ne 7, 3) := by decide +kernel
theorem dX11_work_268 : decode cX11_work 268 = .ok (.iconst 1, 1) := by decide +kernel
theorem dX11_work_269 : decode cX11_work 269 = .ok (.goto 4, 3) := by decide +kernel
theorem dX11_work_272 : decode cX11_work 272 = .ok (.iconst 0, 1) := by decide +kernel
theorem dX11_work_273 : decode cX11_work 273 = .ok (.bastore, 1) := by decide +kernel
theorem dX11_work_274 : decode cX11_work 274 = .ok (.goto 79, 3) := by decide +kernel
theorem dX11_work_277 : decode cX11_work 277 = .ok (.iinc 5 (-1), 3) := by decide +kernel
theorem dX11_work_280 : decode cX11_work 280 = .ok (.aload_n 0, 1) := by decide +kernel
theorem dX11_work_281 : decode cX11_work 281 = .ok (.getfield 39, 3) := by decide +kernel
theorem dX11_work_284 : decode cX11_work 284 = .ok (.iload 5, 2) := by decide +kernel
theorem dX11_work_286 : decode cX11_work 286 = .ok (.iconst 1, 1) := by decide +kernel
theorem dX11_work_287 : decode cX11_work 287 = .ok (.isub, 1) := by decide +kernel
theorem dX11_work_288 : decode cX11_work 288 = .ok (.iload 7, 2) := by decide +kernel
theorem dX11_work_290 : decode cX11_work 290 = .ok (.bipush 21, 2) := by decide +kernel
theorem dX11_work_292 : decode cX11_work 292 = .ok (.if_icmp .ne 33, 3) := by decide +kernel
theorem dX11_work_295 : decode cX11_work 295 = .ok (.aload_n 0, 1) := by decide +kernel
theorem dX11_work_296 : decode cX11_work 296 = .ok (.getfield 39, 3) := by decide +kernel
theorem dX11_work_299 : decode cX11_work 299 = .ok (.iload 5, 2) := by decide +kernel
theorem dX11_work_301 : decode cX11_work 301 = .ok (.iconst 1, 1) := by decide +kernel
theorem dX11_work_302 : decode cX11_work 302 = .ok (.isub, 1) := by decide +kernel
theorem dX11_work_303 : decode cX11_work 303 = .ok (.baload, 1) := by decide +kernel
theorem dX11_work_304 : decode cX11_work 304 = .ok (.ifCond .eq 17, 3) := by decide +kernel
theorem dX11_work_307 : decode cX11_work 307 = .ok (.aload_n 0, 1) := by decide +kernel
theorem dX11_work_308 : decode cX11_work 308 = .ok (.getfield 39, 3) := by decide +kernel
theorem dX11_work_311 : decode cX11_work 311 = .ok (.iload 5, 2) := by decide +kernel
theorem dX11_work_313 : decode cX11_work 313 = .ok (.baload, 1) := by decide +kernel
theorem dX11_work_314 : decode cX11_work 314 = .ok (.ifCond .eq 7, 3) := by decide +kernel
theorem dX11_work_317 : decode cX11_work 317 = .ok (.iconst 1, 1) := by decide +kernel
theorem dX11_work_318 : decode cX11_work 318 = .ok (.goto 34, 3) := by decide +kernel
theorem dX11_work_321 : decode cX11_work 321 = .ok (.iconst 0, 1) := by decide +kernel
theorem dX11_work_322 : decode cX11_work 322 = .ok (.goto 30, 3) := by decide +kernel
theorem dX11_work_325 : decode cX11_work 325 = .ok (.aload_n 0, 1) := by decide +kernel
theorem dX11_work_326 : decode cX11_work 326 = .ok (.getfield 39, 3) := by decide +kernel
theorem dX11_work_329 : decode cX11_work 329 = .ok (.iload 5, 2) := by decide +kernel
theorem dX11_work_331 : decode cX11_work 331 = .ok (.iconst 1, 1) := by decide +kernel
theorem dX11_work_332 : decode cX11_work 332 = .ok (.isub, 1) := by decide +kernel
theorem dX11_work_333 : decode cX11_work 333 = .ok (.baload, 1) := by decide +kernel
theorem dX11_work_334 : decode cX11_work 334 = .ok (.ifCond .ne 13, 3) := by decide +kernel
theorem dX11_work_337 : decode cX11_work 337 = .ok (.aload_n 0, 1) := by decide +kernel
theorem dX11_work_338 : decode cX11_work 338 = .ok (.getfield 39, 3) := by decide +kernel
theorem dX11_work_341 : decode cX11_work 341 = .ok (.iload 5, 2) := by decide +kernel
theorem dX11_work_343 : decode cX11_work 343 = .ok (.baload, 1) := by decide +kernel
theorem dX11_work_344 : decode cX11_work 344 = .ok (.ifCond .eq 7, 3) := by decide +kernel
theorem dX11_work_347 : decode cX11_work 347 = .ok (.iconst 1, 1) := by decide +kernel
theorem dX11_work_348 : decode cX11_work 348 = .ok (.goto 4, 3) := by decide +kernel
theorem dX11_work_351 : decode cX11_work 351 = .ok (.iconst 0, 1) := by decide +kernel
theorem dX11_work_352 : decode cX11_work 352 = .ok (.bastore, 1) := by decide +kernel
theorem dX11_work_353 : decode cX11_work 353 = .ok (.iinc 6 1, 3) := by decide +kernel
theorem dX11_work_356 : decode cX11_work 356 = .ok (.goto (-309), 3) := by decide +kernel
theorem dX11_work_359 : decode cX11_work 359 = .ok (.return_, 1) := by decide +kernel
theorem dX11_clauseOf_0 : decode cX11_clauseOf 0 = .ok (.iconst 0, 1) := by decide +kernel
theorem dX11_clauseOf_1 : decode cX11_clauseOf 1 = .ok (.istore_n 2, 1) := by decide +kernel
theorem dX11_clauseOf_2 : decode cX11_clauseOf 2 = .ok (.aload_n 0, 1) := by decide +kernel
theorem dX11_clauseOf_3 : decode cX11_clauseOf 3 = .ok (.getfield 7, 3) := by decide +kernel
theorem dX11_clauseOf_6 : decode cX11_clauseOf 6 = .ok (.iconst 4, 1) := by decide +kernel
theorem dX11_clauseOf_7 : decode cX11_clauseOf 7 = .ok (.iaload, 1) := by decide +kernel
theorem dX11_clauseOf_8 : decode cX11_clauseOf 8 = .ok (.ifCond .lt 55, 3) := by decide +kernel
theorem dX11_clauseOf_11 : decode cX11_clauseOf 11 = .ok (.iload_n 2, 1) := by decide +kernel
theorem dX11_clauseOf_12 : decode cX11_clauseOf 12 = .ok (.aload_n 0, 1) := by decide +kernel
theorem dX11_clauseOf_13 : decode cX11_clauseOf 13 = .ok (.getfield 16, 3) := by decide +kernel
theorem dX11_clauseOf_16 : decode cX11_clauseOf 16 = .ok (.sipush 700, 3) := by decide +kernel
theorem dX11_clauseOf_19 : decode cX11_clauseOf 19 = .ok (.aload_n 0, 1) := by decide +kernel
theorem dX11_clauseOf_20 : decode cX11_clauseOf 20 = .ok (.getfield 7, 3) := by decide +kernel
theorem dX11_clauseOf_23 : decode cX11_clauseOf 23 = .ok (.iconst 4, 1) := by decide +kernel
theorem dX11_clauseOf_24 : decode cX11_clauseOf 24 = .ok (.iaload, 1) := by decide +kernel
theorem dX11_clauseOf_25 : decode cX11_clauseOf 25 = .ok (.imul, 1) := by decide +kernel
theorem dX11_clauseOf_26 : decode cX11_clauseOf 26 = .ok (.iaload, 1) := by decide +kernel
theorem dX11_clauseOf_27 : decode cX11_clauseOf 27 = .ok (.if_icmp .ge 36, 3) := by decide +kernel
theorem dX11_clauseOf_30 : decode cX11_clauseOf 30 = .ok (.aload_n 0, 1) := by decide +kernel
theorem dX11_clauseOf_31 : decode cX11_clauseOf 31 = .ok (.getfield 16, 3) := by decide +kernel
theorem dX11_clauseOf_34 : decode cX11_clauseOf 34 = .ok (.sipush 700, 3) := by decide +kernel
theorem dX11_clauseOf_37 : decode cX11_clauseOf 37 = .ok (.aload_n 0, 1) := by decide +kernel
theorem dX11_clauseOf_38 : decode cX11_clauseOf 38 = .ok (.getfield 7, 3) := by decide +kernel
theorem dX11_clauseOf_41 : decode cX11_clauseOf 41 = .ok (.iconst 4, 1) := by decide +kernel
theorem dX11_clauseOf_42 : decode cX11_clauseOf 42 = .ok (.iaload, 1) := by decide +kernel
theorem dX11_clauseOf_43 : decode cX11_clauseOf 43 = .ok (.imul, 1) := by decide +kernel
theorem dX11_clauseOf_44 : decode cX11_clauseOf 44 = .ok (.iconst 1, 1) := by decide +kernel
theorem dX11_clauseOf_45 : decode cX11_clauseOf 45 = .ok (.iadd, 1) := by decide +kernel
theorem dX11_clauseOf_46 : decode cX11_clauseOf 46 = .ok (.iconst 4, 1) := by decide +kernel
theorem dX11_clauseOf_47 : decode cX11_clauseOf 47 = .ok (.iload_n 2, 1) := by decide +kernel
theorem dX11_clauseOf_48 : decode cX11_clauseOf 48 = .ok (.imul, 1) := by decide +kernel
theorem dX11_clauseOf_49 : decode cX11_clauseOf 49 = .ok (.iadd, 1) := by decide +kernel
theorem dX11_clauseOf_50 : decode cX11_clauseOf 50 = .ok (.iaload, 1) := by decide +kernel
theorem dX11_clauseOf_51 : decode cX11_clauseOf 51 = .ok (.iload_n 1, 1) := by decide +kernel
theorem dX11_clauseOf_52 : decode cX11_clauseOf 52 = .ok (.if_icmp .ne 5, 3) := by decide +kernel
theorem dX11_clauseOf_55 : decode cX11_clauseOf 55 = .ok (.iload_n 2, 1) := by decide +kernel
theorem dX11_clauseOf_56 : decode cX11_clauseOf 56 = .ok (.ireturn, 1) := by decide +kernel
theorem dX11_clauseOf_57 : decode cX11_clauseOf 57 = .ok (.iinc 2 1, 3) := by decide +kernel
theorem dX11_clauseOf_60 : decode cX11_clauseOf 60 = .ok (.goto (-58), 3) := by decide +kernel
theorem dX11_clauseOf_63 : decode cX11_clauseOf 63 = .ok (.iconst (-1), 1) := by decide +kernel
theorem dX11_clauseOf_64 : decode cX11_clauseOf 64 = .ok (.ireturn, 1) := by decide +kernel
theorem dX11_name_0 : decode cX11_name 0 = .ok (.iload_n 1, 1) := by decide +kernel
theorem dX11_name_1 : decode cX11_name 1 = .ok (.invokestatic 87, 3) := by decide +kernel
theorem dX11_name_4 : decode cX11_name 4 = .ok (.istore_n 3, 1) := by decide +kernel
theorem dX11_name_5 : decode cX11_name 5 = .ok (.iload_n 2, 1) := by decide +kernel
theorem dX11_name_6 : decode cX11_name 6 = .ok (.invokestatic 87, 3) := by decide +kernel
theorem dX11_name_9 : decode cX11_name 9 = .ok (.istore 4, 2) := by decide +kernel
theorem dX11_name_11 : decode cX11_name 11 = .ok (.aload_n 0, 1) := by decide +kernel
theorem dX11_name_12 : decode cX11_name 12 = .ok (.getfield 32, 3) := by decide +kernel
theorem dX11_name_15 : decode cX11_name 15 = .ok (.iconst 0, 1) := by decide +kernel
theorem dX11_name_16 : decode cX11_name 16 = .ok (.aload_n 0, 1) := by decide +kernel
theorem dX11_name_17 : decode cX11_name 17 = .ok (.getfield 7, 3) := by decide +kernel
theorem dX11_name_20 : decode cX11_name 20 = .ok (.iload_n 3, 1) := by decide +kernel
theorem dX11_name_21 : decode cX11_name 21 = .ok (.iaload, 1) := by decide +kernel
theorem dX11_name_22 : decode cX11_name 22 = .ok (.iastore, 1) := by decide +kernel
theorem dX11_name_23 : decode cX11_name 23 = .ok (.aload_n 0, 1) := by decide +kernel
theorem dX11_name_24 : decode cX11_name 24 = .ok (.getfield 32, 3) := by decide +kernel
theorem dX11_name_27 : decode cX11_name 27 = .ok (.iconst 1, 1) := by decide +kernel
theorem dX11_name_28 : decode cX11_name 28 = .ok (.aload_n 0, 1) := by decide +kernel
theorem dX11_name_29 : decode cX11_name 29 = .ok (.getfield 7, 3) := by decide +kernel
theorem dX11_name_32 : decode cX11_name 32 = .ok (.iload_n 3, 1) := by decide +kernel
theorem dX11_name_33 : decode cX11_name 33 = .ok (.iconst 1, 1) := by decide +kernel
theorem dX11_name_34 : decode cX11_name 34 = .ok (.iadd, 1) := by decide +kernel
theorem dX11_name_35 : decode cX11_name 35 = .ok (.iaload, 1) := by decide +kernel
theorem dX11_name_36 : decode cX11_name 36 = .ok (.iastore, 1) := by decide +kernel
theorem dX11_name_37 : decode cX11_name 37 = .ok (.aload_n 0, 1) := by decide +kernel
theorem dX11_name_38 : decode cX11_name 38 = .ok (.getfield 32, 3) := by decide +kernel
theorem dX11_name_41 : decode cX11_name 41 = .ok (.iconst 2, 1) := by decide +kernel
theorem dX11_name_42 : decode cX11_name 42 = .ok (.aload_n 0, 1) := by decide +kernel
theorem dX11_name_43 : decode cX11_name 43 = .ok (.getfield 7, 3) := by decide +kernel
theorem dX11_name_46 : decode cX11_name 46 = .ok (.iload_n 3, 1) := by decide +kernel
theorem dX11_name_47 : decode cX11_name 47 = .ok (.iconst 3, 1) := by decide +kernel
theorem dX11_name_48 : decode cX11_name 48 = .ok (.iadd, 1) := by decide +kernel
theorem dX11_name_49 : decode cX11_name 49 = .ok (.iaload, 1) := by decide +kernel
theorem dX11_name_50 : decode cX11_name 50 = .ok (.iastore, 1) := by decide +kernel
theorem dX11_name_51 : decode cX11_name 51 = .ok (.aload_n 0, 1) := by decide +kernel
theorem dX11_name_52 : decode cX11_name 52 = .ok (.getfield 32, 3) := by decide +kernel
theorem dX11_name_55 : decode cX11_name 55 = .ok (.iconst 3, 1) := by decide +kernel
theorem dX11_name_56 : decode cX11_name 56 = .ok (.aload_n 0, 1) := by decide +kernel
theorem dX11_name_57 : decode cX11_name 57 = .ok (.getfield 7, 3) := by decide +kernel
theorem dX11_name_60 : decode cX11_name 60 = .ok (.iload_n 3, 1) := by decide +kernel
theorem dX11_name_61 : decode cX11_name 61 = .ok (.iconst 5, 1) := by decide +kernel
theorem dX11_name_62 : decode cX11_name 62 = .ok (.iadd, 1) := by decide +kernel
theorem dX11_name_63 : decode cX11_name 63 = .ok (.iaload, 1) := by decide +kernel
theorem dX11_name_64 : decode cX11_name 64 = .ok (.invokestatic 303, 3) := by decide +kernel
theorem dX11_name_67 : decode cX11_name 67 = .ok (.iastore, 1) := by decide +kernel
theorem dX11_name_68 : decode cX11_name 68 = .ok (.aload_n 0, 1) := by decide +kernel
theorem dX11_name_69 : decode cX11_name 69 = .ok (.getfield 32, 3) := by decide +kernel
theorem dX11_name_72 : decode cX11_name 72 = .ok (.iconst 4, 1) := by decide +kernel
theorem dX11_name_73 : decode cX11_name 73 = .ok (.aload_n 0, 1) := by decide +kernel
theorem dX11_name_74 : decode cX11_name 74 = .ok (.getfield 7, 3) := by decide +kernel
theorem dX11_name_77 : decode cX11_name 77 = .ok (.iconst 2, 1) := by decide +kernel
theorem dX11_name_78 : decode cX11_name 78 = .ok (.iaload, 1) := by decide +kernel
theorem dX11_name_79 : decode cX11_name 79 = .ok (.iastore, 1) := by decide +kernel
theorem dX11_name_80 : decode cX11_name 80 = .ok (.aload_n 0, 1) := by decide +kernel
theorem dX11_name_81 : decode cX11_name 81 = .ok (.getfield 32, 3) := by decide +kernel
theorem dX11_name_84 : decode cX11_name 84 = .ok (.iconst 5, 1) := by decide +kernel
theorem dX11_name_85 : decode cX11_name 85 = .ok (.aload_n 0, 1) := by decide +kernel
theorem dX11_name_86 : decode cX11_name 86 = .ok (.getfield 7, 3) := by decide +kernel
theorem dX11_name_89 : decode cX11_name 89 = .ok (.iload 4, 2) := by decide +kernel
theorem dX11_name_91 : decode cX11_name 91 = .ok (.iaload, 1) := by decide +kernel
theorem dX11_name_92 : decode cX11_name 92 = .ok (.iastore, 1) := by decide +kernel
theorem dX11_name_93 : decode cX11_name 93 = .ok (.aload_n 0, 1) := by decide +kernel
theorem dX11_name_94 : decode cX11_name 94 = .ok (.getfield 32, 3) := by decide +kernel
theorem dX11_name_97 : decode cX11_name 97 = .ok (.bipush 6, 2) := by decide +kernel
theorem dX11_name_99 : decode cX11_name 99 = .ok (.aload_n 0, 1) := by decide +kernel
theorem dX11_name_100 : decode cX11_name 100 = .ok (.getfield 7, 3) := by decide +kernel
theorem dX11_name_103 : decode cX11_name 103 = .ok (.iload 4, 2) := by decide +kernel
theorem dX11_name_105 : decode cX11_name 105 = .ok (.iconst 1, 1) := by decide +kernel
theorem dX11_name_106 : decode cX11_name 106 = .ok (.iadd, 1) := by decide +kernel
theorem dX11_name_107 : decode cX11_name 107 = .ok (.iaload, 1) := by decide +kernel
theorem dX11_name_108 : decode cX11_name 108 = .ok (.iastore, 1) := by decide +kernel
theorem dX11_name_109 : decode cX11_name 109 = .ok (.aload_n 0, 1) := by decide +kernel
theorem dX11_name_110 : decode cX11_name 110 = .ok (.getfield 32, 3) := by decide +kernel
theorem dX11_name_113 : decode cX11_name 113 = .ok (.bipush 7, 2) := by decide +kernel
theorem dX11_name_115 : decode cX11_name 115 = .ok (.aload_n 0, 1) := by decide +kernel
theorem dX11_name_116 : decode cX11_name 116 = .ok (.getfield 7, 3) := by decide +kernel
theorem dX11_name_119 : decode cX11_name 119 = .ok (.iload 4, 2) := by decide +kernel
theorem dX11_name_121 : decode cX11_name 121 = .ok (.iconst 3, 1) := by decide +kernel
theorem dX11_name_122 : decode cX11_name 122 = .ok (.iadd, 1) := by decide +kernel
theorem dX11_name_123 : decode cX11_name 123 = .ok (.iaload, 1) := by decide +kernel
theorem dX11_name_124 : decode cX11_name 124 = .ok (.iastore, 1) := by decide +kernel
theorem dX11_name_125 : decode cX11_name 125 = .ok (.return_, 1) := by decide +kernel
theorem dX11_isHoly_0 : decode cX11_isHoly 0 = .ok (.aload_n 0, 1) := by decide +kernel
theorem dX11_isHoly_1 : decode cX11_isHoly 1 = .ok (.iconst 1, 1) := by decide +kernel
theorem dX11_isHoly_2 : decode cX11_isHoly 2 = .ok (.invokevirtual 103, 3) := by decide +kernel
theorem dX11_isHoly_5 : decode cX11_isHoly 5 = .ok (.istore_n 2, 1) := by decide +kernel
theorem dX11_isHoly_6 : decode cX11_isHoly 6 = .ok (.iload_n 2, 1) := by decide +kernel
theorem dX11_isHoly_7 : decode cX11_isHoly 7 = .ok (.ifCond .ge 5, 3) := by decide +kernel
theorem dX11_isHoly_10 : decode cX11_isHoly 10 = .ok (.iconst 1, 1) := by decide +kernel
theorem dX11_isHoly_11 : decode cX11_isHoly 11 = .ok (.ireturn, 1) := by decide +kernel
theorem dX11_isHoly_12 : decode cX11_isHoly 12 = .ok (.aload_n 0, 1) := by decide +kernel
theorem dX11_isHoly_13 : decode cX11_isHoly 13 = .ok (.iload_n 1, 1) := by decide +kernel
theorem dX11_isHoly_14 : decode cX11_isHoly 14 = .ok (.iconst 0, 1) := by decide +kernel
theorem dX11_isHoly_15 : decode cX11_isHoly 15 = .ok (.invokevirtual 106, 3) := by decide +kernel
theorem dX11_isHoly_18 : decode cX11_isHoly 18 = .ok (.aload_n 0, 1) := by decide +kernel
theorem dX11_isHoly_19 : decode cX11_isHoly 19 = .ok (.iload_n 2, 1) := by decide +kernel
theorem dX11_isHoly_20 : decode cX11_isHoly 20 = .ok (.invokevirtual 110, 3) := by decide +kernel
theorem dX11_isHoly_23 : decode cX11_isHoly 23 = .ok (.aload_n 0, 1) := by decide +kernel
theorem dX11_isHoly_24 : decode cX11_isHoly 24 = .ok (.getfield 39, 3) := by decide +kernel
theorem dX11_isHoly_27 : decode cX11_isHoly 27 = .ok (.iconst 0, 1) := by decide +kernel
theorem dX11_isHoly_28 : decode cX11_isHoly 28 = .ok (.baload, 1) := by decide +kernel
theorem dX11_isHoly_29 : decode cX11_isHoly 29 = .ok (.ireturn, 1) := by decide +kernel
theorem dX11_isUnlike_0 : decode cX11_isUnlike 0 = .ok (.aload_n 0, 1) := by decide +kernel
theorem dX11_isUnlike_1 : decode cX11_isUnlike 1 = .ok (.iconst 2, 1) := by decide +kernel
theorem dX11_isUnlike_2 : decode cX11_isUnlike 2 = .ok (.invokevirtual 103, 3) := by decide +kernel
theorem dX11_isUnlike_5 : decode cX11_isUnlike 5 = .ok (.istore_n 3, 1) := by decide +kernel
theorem dX11_isUnlike_6 : decode cX11_isUnlike 6 = .ok (.iload_n 3, 1) := by decide +kernel
theorem dX11_isUnlike_7 : decode cX11_isUnlike 7 = .ok (.ifCond .ge 5, 3) := by decide +kernel
theorem dX11_isUnlike_10 : decode cX11_isUnlike 10 = .ok (.iconst 0, 1) := by decide +kernel
theorem dX11_isUnlike_11 : decode cX11_isUnlike 11 = .ok (.ireturn, 1) := by decide +kernel
theorem dX11_isUnlike_12 : decode cX11_isUnlike 12 = .ok (.aload_n 0, 1) := by decide +kernel
theorem dX11_isUnlike_13 : decode cX11_isUnlike 13 = .ok (.iload_n 1, 1) := by decide +kernel
theorem dX11_isUnlike_14 : decode cX11_isUnlike 14 = .ok (.iload_n 2, 1) := by decide +kernel
theorem dX11_isUnlike_15 : decode cX11_isUnlike 15 = .ok (.invokevirtual 106, 3) := by decide +kernel
theorem dX11_isUnlike_18 : decode cX11_isUnlike 18 = .ok (.aload_n 0, 1) := by decide +kernel
theorem dX11_isUnlike_19 : decode cX11_isUnlike 19 = .ok (.iload_n 3, 1) := by decide +kernel
theorem dX11_isUnlike_20 : decode cX11_isUnlike 20 = .ok (.invokevirtual 110, 3) := by decide +kernel
theorem dX11_isUnlike_23 : decode cX11_isUnlike 23 = .ok (.aload_n 0, 1) := by decide +kernel
theorem dX11_isUnlike_24 : decode cX11_isUnlike 24 = .ok (.getfield 39, 3) := by decide +kernel
theorem dX11_isUnlike_27 : decode cX11_isUnlike 27 = .ok (.iconst 0, 1) := by decide +kernel
theorem dX11_isUnlike_28 : decode cX11_isUnlike 28 = .ok (.baload, 1) := by decide +kernel
theorem dX11_isUnlike_29 : decode cX11_isUnlike 29 = .ok (.ifCond .eq 5, 3) := by decide +kernel
theorem dX11_isUnlike_32 : decode cX11_isUnlike 32 = .ok (.iconst 1, 1) := by decide +kernel
theorem dX11_isUnlike_33 : decode cX11_isUnlike 33 = .ok (.ireturn, 1) := by decide +kernel
theorem dX11_isUnlike_34 : decode cX11_isUnlike 34 = .ok (.aload_n 0, 1) := by decide +kernel
theorem dX11_isUnlike_35 : decode cX11_isUnlike 35 = .ok (.iload_n 2, 1) := by decide +kernel
theorem dX11_isUnlike_36 : decode cX11_isUnlike 36 = .ok (.iload_n 1, 1) := by decide +kernel
theorem dX11_isUnlike_37 : decode cX11_isUnlike 37 = .ok (.invokevirtual 106, 3) := by decide +kernel
theorem dX11_isUnlike_40 : decode cX11_isUnlike 40 = .ok (.aload_n 0, 1) := by decide +kernel
theorem dX11_isUnlike_41 : decode cX11_isUnlike 41 = .ok (.iload_n 3, 1) := by decide +kernel
theorem dX11_isUnlike_42 : decode cX11_isUnlike 42 = .ok (.invokevirtual 110, 3) := by decide +kernel
theorem dX11_isUnlike_45 : decode cX11_isUnlike 45 = .ok (.aload_n 0, 1) := by decide +kernel
theorem dX11_isUnlike_46 : decode cX11_isUnlike 46 = .ok (.getfield 39, 3) := by decide +kernel
theorem dX11_isUnlike_49 : decode cX11_isUnlike 49 = .ok (.iconst 0, 1) := by decide +kernel
theorem dX11_isUnlike_50 : decode cX11_isUnlike 50 = .ok (.baload, 1) := by decide +kernel
theorem dX11_isUnlike_51 : decode cX11_isUnlike 51 = .ok (.ireturn, 1) := by decide +kernel
theorem dX11_manyOf_0 : decode cX11_manyOf 0 = .ok (.iconst 0, 1) := by decide +kernel
theorem dX11_manyOf_1 : decode cX11_manyOf 1 = .ok (.istore_n 2, 1) := by decide +kernel
theorem dX11_manyOf_2 : decode cX11_manyOf 2 = .ok (.aload_n 0, 1) := by decide +kernel
theorem dX11_manyOf_3 : decode cX11_manyOf 3 = .ok (.getfield 7, 3) := by decide +kernel
theorem dX11_manyOf_6 : decode cX11_manyOf 6 = .ok (.iconst 4, 1) := by decide +kernel
theorem dX11_manyOf_7 : decode cX11_manyOf 7 = .ok (.iaload, 1) := by decide +kernel
theorem dX11_manyOf_8 : decode cX11_manyOf 8 = .ok (.ifCond .lt 76, 3) := by decide +kernel
theorem dX11_manyOf_11 : decode cX11_manyOf 11 = .ok (.iload_n 2, 1) := by decide +kernel
theorem dX11_manyOf_12 : decode cX11_manyOf 12 = .ok (.aload_n 0, 1) := by decide +kernel
theorem dX11_manyOf_13 : decode cX11_manyOf 13 = .ok (.getfield 16, 3) := by decide +kernel
theorem dX11_manyOf_16 : decode cX11_manyOf 16 = .ok (.sipush 700, 3) := by decide +kernel
theorem dX11_manyOf_19 : decode cX11_manyOf 19 = .ok (.aload_n 0, 1) := by decide +kernel
theorem dX11_manyOf_20 : decode cX11_manyOf 20 = .ok (.getfield 7, 3) := by decide +kernel
theorem dX11_manyOf_23 : decode cX11_manyOf 23 = .ok (.iconst 4, 1) := by decide +kernel
theorem dX11_manyOf_24 : decode cX11_manyOf 24 = .ok (.iaload, 1) := by decide +kernel
theorem dX11_manyOf_25 : decode cX11_manyOf 25 = .ok (.imul, 1) := by decide +kernel
theorem dX11_manyOf_26 : decode cX11_manyOf 26 = .ok (.iaload, 1) := by decide +kernel
theorem dX11_manyOf_27 : decode cX11_manyOf 27 = .ok (.if_icmp .ge 57, 3) := by decide +kernel
theorem dX11_manyOf_30 : decode cX11_manyOf 30 = .ok (.sipush 700, 3) := by decide +kernel
theorem dX11_manyOf_33 : decode cX11_manyOf 33 = .ok (.aload_n 0, 1) := by decide +kernel
theorem dX11_manyOf_34 : decode cX11_manyOf 34 = .ok (.getfield 7, 3) := by decide +kernel
theorem dX11_manyOf_37 : decode cX11_manyOf 37 = .ok (.iconst 4, 1) := by decide +kernel
theorem dX11_manyOf_38 : decode cX11_manyOf 38 = .ok (.iaload, 1) := by decide +kernel
theorem dX11_manyOf_39 : decode cX11_manyOf 39 = .ok (.imul, 1) := by decide +kernel
theorem dX11_manyOf_40 : decode cX11_manyOf 40 = .ok (.iconst 1, 1) := by decide +kernel
theorem dX11_manyOf_41 : decode cX11_manyOf 41 = .ok (.iadd, 1) := by decide +kernel
theorem dX11_manyOf_42 : decode cX11_manyOf 42 = .ok (.iconst 4, 1) := by decide +kernel
theorem dX11_manyOf_43 : decode cX11_manyOf 43 = .ok (.iload_n 2, 1) := by decide +kernel
theorem dX11_manyOf_44 : decode cX11_manyOf 44 = .ok (.imul, 1) := by decide +kernel
theorem dX11_manyOf_45 : decode cX11_manyOf 45 = .ok (.iadd, 1) := by decide +kernel
theorem dX11_manyOf_46 : decode cX11_manyOf 46 = .ok (.istore_n 3, 1) := by decide +kernel
theorem dX11_manyOf_47 : decode cX11_manyOf 47 = .ok (.aload_n 0, 1) := by decide +kernel
theorem dX11_manyOf_48 : decode cX11_manyOf 48 = .ok (.getfield 16, 3) := by decide +kernel
theorem dX11_manyOf_51 : decode cX11_manyOf 51 = .ok (.iload_n 3, 1) := by decide +kernel
theorem dX11_manyOf_52 : decode cX11_manyOf 52 = .ok (.iaload, 1) := by decide +kernel
theorem dX11_manyOf_53 : decode cX11_manyOf 53 = .ok (.iconst 3, 1) := by decide +kernel
theorem dX11_manyOf_54 : decode cX11_manyOf 54 = .ok (.if_icmp .ne 24, 3) := by decide +kernel
theorem dX11_manyOf_57 : decode cX11_manyOf 57 = .ok (.aload_n 0, 1) := by decide +kernel
theorem dX11_manyOf_58 : decode cX11_manyOf 58 = .ok (.getfield 16, 3) := by decide +kernel
theorem dX11_manyOf_61 : decode cX11_manyOf 61 = .ok (.iload_n 3, 1) := by decide +kernel
theorem dX11_manyOf_62 : decode cX11_manyOf 62 = .ok (.iconst 1, 1) := by decide +kernel
theorem dX11_manyOf_63 : decode cX11_manyOf 63 = .ok (.iadd, 1) := by decide +kernel
theorem dX11_manyOf_64 : decode cX11_manyOf 64 = .ok (.iaload, 1) := by decide +kernel
theorem dX11_manyOf_65 : decode cX11_manyOf 65 = .ok (.iload_n 1, 1) := by decide +kernel
theorem dX11_manyOf_66 : decode cX11_manyOf 66 = .ok (.if_icmp .ne 12, 3) := by decide +kernel
theorem dX11_manyOf_69 : decode cX11_manyOf 69 = .ok (.aload_n 0, 1) := by decide +kernel
theorem dX11_manyOf_70 : decode cX11_manyOf 70 = .ok (.getfield 16, 3) := by decide +kernel
theorem dX11_manyOf_73 : decode cX11_manyOf 73 = .ok (.iload_n 3, 1) := by decide +kernel
theorem dX11_manyOf_74 : decode cX11_manyOf 74 = .ok (.iconst 2, 1) := by decide +kernel
theorem dX11_manyOf_75 : decode cX11_manyOf 75 = .ok (.iadd, 1) := by decide +kernel
theorem dX11_manyOf_76 : decode cX11_manyOf 76 = .ok (.iaload, 1) := by decide +kernel
theorem dX11_manyOf_77 : decode cX11_manyOf 77 = .ok (.ireturn, 1) := by decide +kernel
theorem dX11_manyOf_78 : decode cX11_manyOf 78 = .ok (.iinc 2 1, 3) := by decide +kernel
theorem dX11_manyOf_81 : decode cX11_manyOf 81 = .ok (.goto (-79), 3) := by decide +kernel
theorem dX11_manyOf_84 : decode cX11_manyOf 84 = .ok (.iconst 1, 1) := by decide +kernel
theorem dX11_manyOf_85 : decode cX11_manyOf 85 = .ok (.ireturn, 1) := by decide +kernel
theorem dX11_of_0 : decode cX11_of 0 = .ok (.aload_n 0, 1) := by decide +kernel
theorem dX11_of_1 : decode cX11_of 1 = .ok (.iload_n 1, 1) := by decide +kernel
theorem dX11_of_2 : decode cX11_of 2 = .ok (.invokevirtual 91, 3) := by decide +kernel
theorem dX11_of_5 : decode cX11_of 5 = .ok (.ifCond .ne 6, 3) := by decide +kernel
theorem dX11_of_8 : decode cX11_of 8 = .ok (.bipush (-2), 2) := by decide +kernel
theorem dX11_of_10 : decode cX11_of 10 = .ok (.ireturn, 1) := by decide +kernel
theorem dX11_of_11 : decode cX11_of 11 = .ok (.iload_n 2, 1) := by decide +kernel
theorem dX11_of_12 : decode cX11_of 12 = .ok (.tableswitch 85 0 6 #[44, 44, 44, 44, 44, 56, 71], 44) := by decide +kernel
theorem dX11_of_56 : decode cX11_of 56 = .ok (.aload_n 0, 1) := by decide +kernel
theorem dX11_of_57 : decode cX11_of 57 = .ok (.getfield 7, 3) := by decide +kernel
theorem dX11_of_60 : decode cX11_of 60 = .ok (.iload_n 1, 1) := by decide +kernel
theorem dX11_of_61 : decode cX11_of 61 = .ok (.invokestatic 87, 3) := by decide +kernel
theorem dX11_of_64 : decode cX11_of 64 = .ok (.iload_n 2, 1) := by decide +kernel
theorem dX11_of_65 : decode cX11_of 65 = .ok (.iadd, 1) := by decide +kernel
theorem dX11_of_66 : decode cX11_of 66 = .ok (.iaload, 1) := by decide +kernel
theorem dX11_of_67 : decode cX11_of 67 = .ok (.ireturn, 1) := by decide +kernel
theorem dX11_of_68 : decode cX11_of 68 = .ok (.aload_n 0, 1) := by decide +kernel
theorem dX11_of_69 : decode cX11_of 69 = .ok (.getfield 7, 3) := by decide +kernel
theorem dX11_of_72 : decode cX11_of 72 = .ok (.iload_n 1, 1) := by decide +kernel
theorem dX11_of_73 : decode cX11_of 73 = .ok (.invokestatic 87, 3) := by decide +kernel
theorem dX11_of_76 : decode cX11_of 76 = .ok (.iconst 5, 1) := by decide +kernel
theorem dX11_of_77 : decode cX11_of 77 = .ok (.iadd, 1) := by decide +kernel
theorem dX11_of_78 : decode cX11_of 78 = .ok (.iaload, 1) := by decide +kernel
theorem dX11_of_79 : decode cX11_of 79 = .ok (.invokestatic 303, 3) := by decide +kernel
theorem dX11_of_82 : decode cX11_of 82 = .ok (.ireturn, 1) := by decide +kernel
theorem dX11_of_83 : decode cX11_of 83 = .ok (.aload_n 0, 1) := by decide +kernel
theorem dX11_of_84 : decode cX11_of 84 = .ok (.iload_n 1, 1) := by decide +kernel
theorem dX11_of_85 : decode cX11_of 85 = .ok (.invokevirtual 306, 3) := by decide +kernel
theorem dX11_of_88 : decode cX11_of 88 = .ok (.ifCond .eq 7, 3) := by decide +kernel
theorem dX11_of_91 : decode cX11_of 91 = .ok (.iconst 1, 1) := by decide +kernel
theorem dX11_of_92 : decode cX11_of 92 = .ok (.goto 4, 3) := by decide +kernel
theorem dX11_of_95 : decode cX11_of 95 = .ok (.iconst 0, 1) := by decide +kernel
theorem dX11_of_96 : decode cX11_of 96 = .ok (.ireturn, 1) := by decide +kernel
theorem dX11_of_97 : decode cX11_of 97 = .ok (.bipush (-2), 2) := by decide +kernel
theorem dX11_of_99 : decode cX11_of 99 = .ok (.ireturn, 1) := by decide +kernel
theorem dX11_findAsked_0 : decode cX11_findAsked 0 = .ok (.aload_n 0, 1) := by decide +kernel
theorem dX11_findAsked_1 : decode cX11_findAsked 1 = .ok (.iconst 0, 1) := by decide +kernel
theorem dX11_findAsked_2 : decode cX11_findAsked 2 = .ok (.putfield 309, 3) := by decide +kernel
theorem dX11_findAsked_5 : decode cX11_findAsked 5 = .ok (.iconst 0, 1) := by decide +kernel
theorem dX11_findAsked_6 : decode cX11_findAsked 6 = .ok (.istore_n 2, 1) := by decide +kernel
theorem dX11_findAsked_7 : decode cX11_findAsked 7 = .ok (.iload_n 2, 1) := by decide +kernel
theorem dX11_findAsked_8 : decode cX11_findAsked 8 = .ok (.aload_n 0, 1) := by decide +kernel
theorem dX11_findAsked_9 : decode cX11_findAsked 9 = .ok (.getfield 7, 3) := by decide +kernel
theorem dX11_findAsked_12 : decode cX11_findAsked 12 = .ok (.iconst 1, 1) := by decide +kernel
theorem dX11_findAsked_13 : decode cX11_findAsked 13 = .ok (.iaload, 1) := by decide +kernel
theorem dX11_findAsked_14 : decode cX11_findAsked 14 = .ok (.if_icmp .ge 58, 3) := by decide +kernel
theorem dX11_findAsked_17 : decode cX11_findAsked 17 = .ok (.iload_n 1, 1) := by decide +kernel
theorem dX11_findAsked_18 : decode cX11_findAsked 18 = .ok (.aload_n 0, 1) := by decide +kernel
theorem dX11_findAsked_19 : decode cX11_findAsked 19 = .ok (.getfield 7, 3) := by decide +kernel
theorem dX11_findAsked_22 : decode cX11_findAsked 22 = .ok (.iload_n 2, 1) := by decide +kernel
theorem dX11_findAsked_23 : decode cX11_findAsked 23 = .ok (.invokestatic 87, 3) := by decide +kernel
theorem dX11_findAsked_26 : decode cX11_findAsked 26 = .ok (.iconst 3, 1) := by decide +kernel
theorem dX11_findAsked_27 : decode cX11_findAsked 27 = .ok (.iadd, 1) := by decide +kernel
theorem dX11_findAsked_28 : decode cX11_findAsked 28 = .ok (.iaload, 1) := by decide +kernel
theorem dX11_findAsked_29 : decode cX11_findAsked 29 = .ok (.ishr, 1) := by decide +kernel
theorem dX11_findAsked_30 : decode cX11_findAsked 30 = .ok (.iconst 1, 1) := by decide +kernel
theorem dX11_findAsked_31 : decode cX11_findAsked 31 = .ok (.iand, 1) := by decide +kernel
theorem dX11_findAsked_32 : decode cX11_findAsked 32 = .ok (.ifCond .eq 34, 3) := by decide +kernel
theorem dX11_findAsked_35 : decode cX11_findAsked 35 = .ok (.aload_n 0, 1) := by decide +kernel
theorem dX11_findAsked_36 : decode cX11_findAsked 36 = .ok (.iload_n 2, 1) := by decide +kernel
theorem dX11_findAsked_37 : decode cX11_findAsked 37 = .ok (.invokevirtual 306, 3) := by decide +kernel
theorem dX11_findAsked_40 : decode cX11_findAsked 40 = .ok (.ifCond .ne 6, 3) := by decide +kernel
theorem dX11_findAsked_43 : decode cX11_findAsked 43 = .ok (.goto 23, 3) := by decide +kernel
theorem dX11_findAsked_46 : decode cX11_findAsked 46 = .ok (.aload_n 0, 1) := by decide +kernel
theorem dX11_findAsked_47 : decode cX11_findAsked 47 = .ok (.getfield 43, 3) := by decide +kernel
theorem dX11_findAsked_50 : decode cX11_findAsked 50 = .ok (.aload_n 0, 1) := by decide +kernel
theorem dX11_findAsked_51 : decode cX11_findAsked 51 = .ok (.getfield 309, 3) := by decide +kernel
theorem dX11_findAsked_54 : decode cX11_findAsked 54 = .ok (.iload_n 2, 1) := by decide +kernel
theorem dX11_findAsked_55 : decode cX11_findAsked 55 = .ok (.iastore, 1) := by decide +kernel
theorem dX11_findAsked_56 : decode cX11_findAsked 56 = .ok (.aload_n 0, 1) := by decide +kernel
theorem dX11_findAsked_57 : decode cX11_findAsked 57 = .ok (.dup, 1) := by decide +kernel
theorem dX11_findAsked_58 : decode cX11_findAsked 58 = .ok (.getfield 309, 3) := by decide +kernel
theorem dX11_findAsked_61 : decode cX11_findAsked 61 = .ok (.iconst 1, 1) := by decide +kernel
theorem dX11_findAsked_62 : decode cX11_findAsked 62 = .ok (.iadd, 1) := by decide +kernel
theorem dX11_findAsked_63 : decode cX11_findAsked 63 = .ok (.putfield 309, 3) := by decide +kernel
theorem dX11_findAsked_66 : decode cX11_findAsked 66 = .ok (.iinc 2 1, 3) := by decide +kernel
theorem dX11_findAsked_69 : decode cX11_findAsked 69 = .ok (.goto (-62), 3) := by decide +kernel
theorem dX11_findAsked_72 : decode cX11_findAsked 72 = .ok (.return_, 1) := by decide +kernel
theorem dX11_findBarred_0 : decode cX11_findBarred 0 = .ok (.iconst 0, 1) := by decide +kernel
theorem dX11_findBarred_1 : decode cX11_findBarred 1 = .ok (.istore_n 1, 1) := by decide +kernel
theorem dX11_findBarred_2 : decode cX11_findBarred 2 = .ok (.iload_n 1, 1) := by decide +kernel
theorem dX11_findBarred_3 : decode cX11_findBarred 3 = .ok (.aload_n 0, 1) := by decide +kernel
theorem dX11_findBarred_4 : decode cX11_findBarred 4 = .ok (.getfield 309, 3) := by decide +kernel
theorem dX11_findBarred_7 : decode cX11_findBarred 7 = .ok (.if_icmp .ge 92, 3) := by decide +kernel
theorem dX11_findBarred_10 : decode cX11_findBarred 10 = .ok (.aload_n 0, 1) := by decide +kernel
theorem dX11_findBarred_11 : decode cX11_findBarred 11 = .ok (.getfield 46, 3) := by decide +kernel
theorem dX11_findBarred_14 : decode cX11_findBarred 14 = .ok (.iload_n 1, 1) := by decide +kernel
theorem dX11_findBarred_15 : decode cX11_findBarred 15 = .ok (.iconst 0, 1) := by decide +kernel
theorem dX11_findBarred_16 : decode cX11_findBarred 16 = .ok (.iastore, 1) := by decide +kernel
theorem dX11_findBarred_17 : decode cX11_findBarred 17 = .ok (.aload_n 0, 1) := by decide +kernel
theorem dX11_findBarred_18 : decode cX11_findBarred 18 = .ok (.getfield 49, 3) := by decide +kernel
theorem dX11_findBarred_21 : decode cX11_findBarred 21 = .ok (.iload_n 1, 1) := by decide +kernel
theorem dX11_findBarred_22 : decode cX11_findBarred 22 = .ok (.aload_n 0, 1) := by decide +kernel
theorem dX11_findBarred_23 : decode cX11_findBarred 23 = .ok (.aload_n 0, 1) := by decide +kernel
theorem dX11_findBarred_24 : decode cX11_findBarred 24 = .ok (.getfield 7, 3) := by decide +kernel
theorem dX11_findBarred_27 : decode cX11_findBarred 27 = .ok (.aload_n 0, 1) := by decide +kernel
theorem dX11_findBarred_28 : decode cX11_findBarred 28 = .ok (.getfield 43, 3) := by decide +kernel
theorem dX11_findBarred_31 : decode cX11_findBarred 31 = .ok (.iload_n 1, 1) := by decide +kernel
theorem dX11_findBarred_32 : decode cX11_findBarred 32 = .ok (.iaload, 1) := by decide +kernel
theorem dX11_findBarred_33 : decode cX11_findBarred 33 = .ok (.invokestatic 87, 3) := by decide +kernel
theorem dX11_findBarred_36 : decode cX11_findBarred 36 = .ok (.iaload, 1) := by decide +kernel
theorem dX11_findBarred_37 : decode cX11_findBarred 37 = .ok (.invokevirtual 312, 3) := by decide +kernel
theorem dX11_findBarred_40 : decode cX11_findBarred 40 = .ok (.iastore, 1) := by decide +kernel
theorem dX11_findBarred_41 : decode cX11_findBarred 41 = .ok (.iconst 0, 1) := by decide +kernel
theorem dX11_findBarred_42 : decode cX11_findBarred 42 = .ok (.istore_n 2, 1) := by decide +kernel
theorem dX11_findBarred_43 : decode cX11_findBarred 43 = .ok (.iload_n 2, 1) := by decide +kernel
theorem dX11_findBarred_44 : decode cX11_findBarred 44 = .ok (.aload_n 0, 1) := by decide +kernel
theorem dX11_findBarred_45 : decode cX11_findBarred 45 = .ok (.getfield 309, 3) := by decide +kernel
theorem dX11_findBarred_48 : decode cX11_findBarred 48 = .ok (.if_icmp .ge 45, 3) := by decide +kernel
theorem dX11_findBarred_51 : decode cX11_findBarred 51 = .ok (.iload_n 1, 1) := by decide +kernel
theorem dX11_findBarred_52 : decode cX11_findBarred 52 = .ok (.iload_n 2, 1) := by decide +kernel
theorem dX11_findBarred_53 : decode cX11_findBarred 53 = .ok (.if_icmp .eq 34, 3) := by decide +kernel
theorem dX11_findBarred_56 : decode cX11_findBarred 56 = .ok (.aload_n 0, 1) := by decide +kernel
theorem dX11_findBarred_57 : decode cX11_findBarred 57 = .ok (.aload_n 0, 1) := by decide +kernel
theorem dX11_findBarred_58 : decode cX11_findBarred 58 = .ok (.getfield 43, 3) := by decide +kernel
theorem dX11_findBarred_61 : decode cX11_findBarred 61 = .ok (.iload_n 1, 1) := by decide +kernel
theorem dX11_findBarred_62 : decode cX11_findBarred 62 = .ok (.iaload, 1) := by decide +kernel
theorem dX11_findBarred_63 : decode cX11_findBarred 63 = .ok (.aload_n 0, 1) := by decide +kernel
theorem dX11_findBarred_64 : decode cX11_findBarred 64 = .ok (.getfield 43, 3) := by decide +kernel
theorem dX11_findBarred_67 : decode cX11_findBarred 67 = .ok (.iload_n 2, 1) := by decide +kernel
theorem dX11_findBarred_68 : decode cX11_findBarred 68 = .ok (.iaload, 1) := by decide +kernel
theorem dX11_findBarred_69 : decode cX11_findBarred 69 = .ok (.invokevirtual 315, 3) := by decide +kernel
theorem dX11_findBarred_72 : decode cX11_findBarred 72 = .ok (.ifCond .eq 15, 3) := by decide +kernel
theorem dX11_findBarred_75 : decode cX11_findBarred 75 = .ok (.aload_n 0, 1) := by decide +kernel
theorem dX11_findBarred_76 : decode cX11_findBarred 76 = .ok (.getfield 46, 3) := by decide +kernel
theorem dX11_findBarred_79 : decode cX11_findBarred 79 = .ok (.iload_n 1, 1) := by decide +kernel
theorem dX11_findBarred_80 : decode cX11_findBarred 80 = .ok (.dup2, 1) := by decide +kernel
theorem dX11_findBarred_81 : decode cX11_findBarred 81 = .ok (.iaload, 1) := by decide +kernel
theorem dX11_findBarred_82 : decode cX11_findBarred 82 = .ok (.iconst 1, 1) := by decide +kernel
theorem dX11_findBarred_83 : decode cX11_findBarred 83 = .ok (.iload_n 2, 1) := by decide +kernel
theorem dX11_findBarred_84 : decode cX11_findBarred 84 = .ok (.ishl, 1) := by decide +kernel
theorem dX11_findBarred_85 : decode cX11_findBarred 85 = .ok (.ior, 1) := by decide +kernel
theorem dX11_findBarred_86 : decode cX11_findBarred 86 = .ok (.iastore, 1) := by decide +kernel
theorem dX11_findBarred_87 : decode cX11_findBarred 87 = .ok (.iinc 2 1, 3) := by decide +kernel
theorem dX11_findBarred_90 : decode cX11_findBarred 90 = .ok (.goto (-47), 3) := by decide +kernel
theorem dX11_findBarred_93 : decode cX11_findBarred 93 = .ok (.iinc 1 1, 3) := by decide +kernel
theorem dX11_findBarred_96 : decode cX11_findBarred 96 = .ok (.goto (-94), 3) := by decide +kernel
theorem dX11_findBarred_99 : decode cX11_findBarred 99 = .ok (.return_, 1) := by decide +kernel
theorem dX11_canHave_0 : decode cX11_canHave 0 = .ok (.iconst 1, 1) := by decide +kernel
theorem dX11_canHave_1 : decode cX11_canHave 1 = .ok (.istore_n 3, 1) := by decide +kernel
theorem dX11_canHave_2 : decode cX11_canHave 2 = .ok (.iconst 0, 1) := by decide +kernel
theorem dX11_canHave_3 : decode cX11_canHave 3 = .ok (.istore 4, 2) := by decide +kernel
theorem dX11_canHave_5 : decode cX11_canHave 5 = .ok (.iload 4, 2) := by decide +kernel
theorem dX11_canHave_7 : decode cX11_canHave 7 = .ok (.iload_n 1, 1) := by decide +kernel
theorem dX11_canHave_8 : decode cX11_canHave 8 = .ok (.if_icmp .ge 80, 3) := by decide +kernel
theorem dX11_canHave_11 : decode cX11_canHave 11 = .ok (.aload_n 0, 1) := by decide +kernel
theorem dX11_canHave_12 : decode cX11_canHave 12 = .ok (.getfield 52, 3) := by decide +kernel
theorem dX11_canHave_15 : decode cX11_canHave 15 = .ok (.iload 4, 2) := by decide +kernel
theorem dX11_canHave_17 : decode cX11_canHave 17 = .ok (.iaload, 1) := by decide +kernel
theorem dX11_canHave_18 : decode cX11_canHave 18 = .ok (.iload_n 2, 1) := by decide +kernel
theorem dX11_canHave_19 : decode cX11_canHave 19 = .ok (.if_icmp .eq 6, 3) := by decide +kernel
theorem dX11_canHave_22 : decode cX11_canHave 22 = .ok (.goto 60, 3) := by decide +kernel
theorem dX11_canHave_25 : decode cX11_canHave 25 = .ok (.aload_n 0, 1) := by decide +kernel
theorem dX11_canHave_26 : decode cX11_canHave 26 = .ok (.getfield 46, 3) := by decide +kernel
theorem dX11_canHave_29 : decode cX11_canHave 29 = .ok (.iload_n 1, 1) := by decide +kernel
theorem dX11_canHave_30 : decode cX11_canHave 30 = .ok (.iaload, 1) := by decide +kernel
theorem dX11_canHave_31 : decode cX11_canHave 31 = .ok (.iload 4, 2) := by decide +kernel
theorem dX11_canHave_33 : decode cX11_canHave 33 = .ok (.ishr, 1) := by decide +kernel
theorem dX11_canHave_34 : decode cX11_canHave 34 = .ok (.iconst 1, 1) := by decide +kernel
theorem dX11_canHave_35 : decode cX11_canHave 35 = .ok (.iand, 1) := by decide +kernel
theorem dX11_canHave_36 : decode cX11_canHave 36 = .ok (.iconst 1, 1) := by decide +kernel
theorem dX11_canHave_37 : decode cX11_canHave 37 = .ok (.if_icmp .ne 5, 3) := by decide +kernel
theorem dX11_canHave_40 : decode cX11_canHave 40 = .ok (.iconst 0, 1) := by decide +kernel
theorem dX11_canHave_41 : decode cX11_canHave 41 = .ok (.ireturn, 1) := by decide +kernel
theorem dX11_canHave_42 : decode cX11_canHave 42 = .ok (.iload_n 3, 1) := by decide +kernel
theorem dX11_canHave_43 : decode cX11_canHave 43 = .ok (.aload_n 0, 1) := by decide +kernel
theorem dX11_canHave_44 : decode cX11_canHave 44 = .ok (.getfield 7, 3) := by decide +kernel
theorem dX11_canHave_47 : decode cX11_canHave 47 = .ok (.aload_n 0, 1) := by decide +kernel
theorem dX11_canHave_48 : decode cX11_canHave 48 = .ok (.getfield 43, 3) := by decide +kernel
theorem dX11_canHave_51 : decode cX11_canHave 51 = .ok (.iload 4, 2) := by decide +kernel
theorem dX11_canHave_53 : decode cX11_canHave 53 = .ok (.iaload, 1) := by decide +kernel
theorem dX11_canHave_54 : decode cX11_canHave 54 = .ok (.invokestatic 87, 3) := by decide +kernel
theorem dX11_canHave_57 : decode cX11_canHave 57 = .ok (.iaload, 1) := by decide +kernel
theorem dX11_canHave_58 : decode cX11_canHave 58 = .ok (.aload_n 0, 1) := by decide +kernel
theorem dX11_canHave_59 : decode cX11_canHave 59 = .ok (.getfield 7, 3) := by decide +kernel
theorem dX11_canHave_62 : decode cX11_canHave 62 = .ok (.aload_n 0, 1) := by decide +kernel
theorem dX11_canHave_63 : decode cX11_canHave 63 = .ok (.getfield 43, 3) := by decide +kernel
theorem dX11_canHave_66 : decode cX11_canHave 66 = .ok (.iload_n 1, 1) := by decide +kernel
theorem dX11_canHave_67 : decode cX11_canHave 67 = .ok (.iaload, 1) := by decide +kernel
theorem dX11_canHave_68 : decode cX11_canHave 68 = .ok (.invokestatic 87, 3) := by decide +kernel
theorem dX11_canHave_71 : decode cX11_canHave 71 = .ok (.iaload, 1) := by decide +kernel
theorem dX11_canHave_72 : decode cX11_canHave 72 = .ok (.if_icmp .ne 7, 3) := by decide +kernel
theorem dX11_canHave_75 : decode cX11_canHave 75 = .ok (.iconst 1, 1) := by decide +kernel
theorem dX11_canHave_76 : decode cX11_canHave 76 = .ok (.goto 4, 3) := by decide +kernel
theorem dX11_canHave_79 : decode cX11_canHave 79 = .ok (.iconst 0, 1) := by decide +kernel
theorem dX11_canHave_80 : decode cX11_canHave 80 = .ok (.iadd, 1) := by decide +kernel
theorem dX11_canHave_81 : decode cX11_canHave 81 = .ok (.istore_n 3, 1) := by decide +kernel
theorem dX11_canHave_82 : decode cX11_canHave 82 = .ok (.iinc 4 1, 3) := by decide +kernel
theorem dX11_canHave_85 : decode cX11_canHave 85 = .ok (.goto (-80), 3) := by decide +kernel
theorem dX11_canHave_88 : decode cX11_canHave 88 = .ok (.iload_n 3, 1) := by decide +kernel
theorem dX11_canHave_89 : decode cX11_canHave 89 = .ok (.aload_n 0, 1) := by decide +kernel
theorem dX11_canHave_90 : decode cX11_canHave 90 = .ok (.getfield 49, 3) := by decide +kernel
theorem dX11_canHave_93 : decode cX11_canHave 93 = .ok (.iload_n 1, 1) := by decide +kernel
theorem dX11_canHave_94 : decode cX11_canHave 94 = .ok (.iaload, 1) := by decide +kernel
theorem dX11_canHave_95 : decode cX11_canHave 95 = .ok (.if_icmp .gt 7, 3) := by decide +kernel
theorem dX11_canHave_98 : decode cX11_canHave 98 = .ok (.iconst 1, 1) := by decide +kernel
theorem dX11_canHave_99 : decode cX11_canHave 99 = .ok (.goto 4, 3) := by decide +kernel
theorem dX11_canHave_102 : decode cX11_canHave 102 = .ok (.iconst 0, 1) := by decide +kernel
theorem dX11_canHave_103 : decode cX11_canHave 103 = .ok (.ireturn, 1) := by decide +kernel
theorem dX11_used_0 : decode cX11_used 0 = .ok (.iconst 0, 1) := by decide +kernel
theorem dX11_used_1 : decode cX11_used 1 = .ok (.istore_n 2, 1) := by decide +kernel
theorem dX11_used_2 : decode cX11_used 2 = .ok (.iconst 0, 1) := by decide +kernel
theorem dX11_used_3 : decode cX11_used 3 = .ok (.istore_n 3, 1) := by decide +kernel
theorem dX11_used_4 : decode cX11_used 4 = .ok (.iload_n 3, 1) := by decide +kernel
theorem dX11_used_5 : decode cX11_used 5 = .ok (.iload_n 1, 1) := by decide +kernel
theorem dX11_used_6 : decode cX11_used 6 = .ok (.if_icmp .ge 28, 3) := by decide +kernel
theorem dX11_used_9 : decode cX11_used 9 = .ok (.aload_n 0, 1) := by decide +kernel
theorem dX11_used_10 : decode cX11_used 10 = .ok (.getfield 52, 3) := by decide +kernel
theorem dX11_used_13 : decode cX11_used 13 = .ok (.iload_n 3, 1) := by decide +kernel
theorem dX11_used_14 : decode cX11_used 14 = .ok (.iaload, 1) := by decide +kernel
theorem dX11_used_15 : decode cX11_used 15 = .ok (.iload_n 2, 1) := by decide +kernel
theorem dX11_used_16 : decode cX11_used 16 = .ok (.if_icmp .lt 12, 3) := by decide +kernel
theorem dX11_used_19 : decode cX11_used 19 = .ok (.aload_n 0, 1) := by decide +kernel
theorem dX11_used_20 : decode cX11_used 20 = .ok (.getfield 52, 3) := by decide +kernel
theorem dX11_used_23 : decode cX11_used 23 = .ok (.iload_n 3, 1) := by decide +kernel
theorem dX11_used_24 : decode cX11_used 24 = .ok (.iaload, 1) := by decide +kernel
theorem dX11_used_25 : decode cX11_used 25 = .ok (.iconst 1, 1) := by decide +kernel
theorem dX11_used_26 : decode cX11_used 26 = .ok (.iadd, 1) := by decide +kernel
theorem dX11_used_27 : decode cX11_used 27 = .ok (.istore_n 2, 1) := by decide +kernel
theorem dX11_used_28 : decode cX11_used 28 = .ok (.iinc 3 1, 3) := by decide +kernel
theorem dX11_used_31 : decode cX11_used 31 = .ok (.goto (-27), 3) := by decide +kernel
theorem dX11_used_34 : decode cX11_used 34 = .ok (.iload_n 2, 1) := by decide +kernel
theorem dX11_used_35 : decode cX11_used 35 = .ok (.ireturn, 1) := by decide +kernel
theorem dX11_share_0 : decode cX11_share 0 = .ok (.iconst 0, 1) := by decide +kernel
theorem dX11_share_1 : decode cX11_share 1 = .ok (.istore_n 2, 1) := by decide +kernel
theorem dX11_share_2 : decode cX11_share 2 = .ok (.aload_n 0, 1) := by decide +kernel
theorem dX11_share_3 : decode cX11_share 3 = .ok (.getfield 52, 3) := by decide +kernel
theorem dX11_share_6 : decode cX11_share 6 = .ok (.iconst 0, 1) := by decide +kernel
theorem dX11_share_7 : decode cX11_share 7 = .ok (.iconst (-1), 1) := by decide +kernel
theorem dX11_share_8 : decode cX11_share 8 = .ok (.iastore, 1) := by decide +kernel
theorem dX11_share_9 : decode cX11_share 9 = .ok (.iload_n 2, 1) := by decide +kernel
theorem dX11_share_10 : decode cX11_share 10 = .ok (.ifCond .lt 113, 3) := by decide +kernel
theorem dX11_share_13 : decode cX11_share 13 = .ok (.iload_n 2, 1) := by decide +kernel
theorem dX11_share_14 : decode cX11_share 14 = .ok (.aload_n 0, 1) := by decide +kernel
theorem dX11_share_15 : decode cX11_share 15 = .ok (.getfield 309, 3) := by decide +kernel
theorem dX11_share_18 : decode cX11_share 18 = .ok (.if_icmp .ge 105, 3) := by decide +kernel
theorem dX11_share_21 : decode cX11_share 21 = .ok (.aload_n 0, 1) := by decide +kernel
theorem dX11_share_22 : decode cX11_share 22 = .ok (.iload_n 2, 1) := by decide +kernel
theorem dX11_share_23 : decode cX11_share 23 = .ok (.invokevirtual 318, 3) := by decide +kernel
theorem dX11_share_26 : decode cX11_share 26 = .ok (.istore_n 3, 1) := by decide +kernel
theorem dX11_share_27 : decode cX11_share 27 = .ok (.aload_n 0, 1) := by decide +kernel
theorem dX11_share_28 : decode cX11_share 28 = .ok (.getfield 52, 3) := by decide +kernel
theorem dX11_share_31 : decode cX11_share 31 = .ok (.iload_n 2, 1) := by decide +kernel
theorem dX11_share_32 : decode cX11_share 32 = .ok (.dup2, 1) := by decide +kernel
theorem dX11_share_33 : decode cX11_share 33 = .ok (.iaload, 1) := by decide +kernel
theorem dX11_share_34 : decode cX11_share 34 = .ok (.iconst 1, 1) := by decide +kernel
theorem dX11_share_35 : decode cX11_share 35 = .ok (.iadd, 1) := by decide +kernel
theorem dX11_share_36 : decode cX11_share 36 = .ok (.iastore, 1) := by decide +kernel
theorem dX11_share_37 : decode cX11_share 37 = .ok (.aload_n 0, 1) := by decide +kernel
theorem dX11_share_38 : decode cX11_share 38 = .ok (.getfield 52, 3) := by decide +kernel
theorem dX11_share_41 : decode cX11_share 41 = .ok (.iload_n 2, 1) := by decide +kernel
theorem dX11_share_42 : decode cX11_share 42 = .ok (.iaload, 1) := by decide +kernel
theorem dX11_share_43 : decode cX11_share 43 = .ok (.iload_n 3, 1) := by decide +kernel
theorem dX11_share_44 : decode cX11_share 44 = .ok (.if_icmp .gt 40, 3) := by decide +kernel
theorem dX11_share_47 : decode cX11_share 47 = .ok (.aload_n 0, 1) := by decide +kernel
theorem dX11_share_48 : decode cX11_share 48 = .ok (.getfield 52, 3) := by decide +kernel
theorem dX11_share_51 : decode cX11_share 51 = .ok (.iload_n 2, 1) := by decide +kernel
theorem dX11_share_52 : decode cX11_share 52 = .ok (.iaload, 1) := by decide +kernel
theorem dX11_share_53 : decode cX11_share 53 = .ok (.iload_n 1, 1) := by decide +kernel
theorem dX11_share_54 : decode cX11_share 54 = .ok (.if_icmp .ge 30, 3) := by decide +kernel
theorem dX11_share_57 : decode cX11_share 57 = .ok (.aload_n 0, 1) := by decide +kernel
theorem dX11_share_58 : decode cX11_share 58 = .ok (.iload_n 2, 1) := by decide +kernel
theorem dX11_share_59 : decode cX11_share 59 = .ok (.aload_n 0, 1) := by decide +kernel
theorem dX11_share_60 : decode cX11_share 60 = .ok (.getfield 52, 3) := by decide +kernel
theorem dX11_share_63 : decode cX11_share 63 = .ok (.iload_n 2, 1) := by decide +kernel
theorem dX11_share_64 : decode cX11_share 64 = .ok (.iaload, 1) := by decide +kernel
theorem dX11_share_65 : decode cX11_share 65 = .ok (.invokevirtual 321, 3) := by decide +kernel
theorem dX11_share_68 : decode cX11_share 68 = .ok (.ifCond .ne 16, 3) := by decide +kernel
theorem dX11_share_71 : decode cX11_share 71 = .ok (.aload_n 0, 1) := by decide +kernel
theorem dX11_share_72 : decode cX11_share 72 = .ok (.getfield 52, 3) := by decide +kernel
theorem dX11_share_75 : decode cX11_share 75 = .ok (.iload_n 2, 1) := by decide +kernel
theorem dX11_share_76 : decode cX11_share 76 = .ok (.dup2, 1) := by decide +kernel
theorem dX11_share_77 : decode cX11_share 77 = .ok (.iaload, 1) := by decide +kernel
theorem dX11_share_78 : decode cX11_share 78 = .ok (.iconst 1, 1) := by decide +kernel
theorem dX11_share_79 : decode cX11_share 79 = .ok (.iadd, 1) := by decide +kernel
theorem dX11_share_80 : decode cX11_share 80 = .ok (.iastore, 1) := by decide +kernel
theorem dX11_share_81 : decode cX11_share 81 = .ok (.goto (-44), 3) := by decide +kernel
theorem dX11_share_84 : decode cX11_share 84 = .ok (.aload_n 0, 1) := by decide +kernel
theorem dX11_share_85 : decode cX11_share 85 = .ok (.getfield 52, 3) := by decide +kernel
theorem dX11_share_88 : decode cX11_share 88 = .ok (.iload_n 2, 1) := by decide +kernel
theorem dX11_share_89 : decode cX11_share 89 = .ok (.iaload, 1) := by decide +kernel
theorem dX11_share_90 : decode cX11_share 90 = .ok (.iload_n 3, 1) := by decide +kernel
theorem dX11_share_91 : decode cX11_share 91 = .ok (.if_icmp .gt 13, 3) := by decide +kernel
theorem dX11_share_94 : decode cX11_share 94 = .ok (.aload_n 0, 1) := by decide +kernel
theorem dX11_share_95 : decode cX11_share 95 = .ok (.getfield 52, 3) := by decide +kernel
theorem dX11_share_98 : decode cX11_share 98 = .ok (.iload_n 2, 1) := by decide +kernel
theorem dX11_share_99 : decode cX11_share 99 = .ok (.iaload, 1) := by decide +kernel
theorem dX11_share_100 : decode cX11_share 100 = .ok (.iload_n 1, 1) := by decide +kernel
theorem dX11_share_101 : decode cX11_share 101 = .ok (.if_icmp .lt 9, 3) := by decide +kernel
theorem dX11_share_104 : decode cX11_share 104 = .ok (.iinc 2 (-1), 3) := by decide +kernel
theorem dX11_share_107 : decode cX11_share 107 = .ok (.goto (-98), 3) := by decide +kernel
theorem dX11_share_110 : decode cX11_share 110 = .ok (.iinc 2 1, 3) := by decide +kernel
theorem dX11_share_113 : decode cX11_share 113 = .ok (.aload_n 0, 1) := by decide +kernel
theorem dX11_share_114 : decode cX11_share 114 = .ok (.getfield 52, 3) := by decide +kernel
theorem dX11_share_117 : decode cX11_share 117 = .ok (.iload_n 2, 1) := by decide +kernel
theorem dX11_share_118 : decode cX11_share 118 = .ok (.iconst (-1), 1) := by decide +kernel
theorem dX11_share_119 : decode cX11_share 119 = .ok (.iastore, 1) := by decide +kernel
theorem dX11_share_120 : decode cX11_share 120 = .ok (.goto (-111), 3) := by decide +kernel
theorem dX11_share_123 : decode cX11_share 123 = .ok (.iload_n 2, 1) := by decide +kernel
theorem dX11_share_124 : decode cX11_share 124 = .ok (.ifCond .lt 7, 3) := by decide +kernel
theorem dX11_share_127 : decode cX11_share 127 = .ok (.iconst 1, 1) := by decide +kernel
theorem dX11_share_128 : decode cX11_share 128 = .ok (.goto 4, 3) := by decide +kernel
theorem dX11_share_131 : decode cX11_share 131 = .ok (.iconst 0, 1) := by decide +kernel
theorem dX11_share_132 : decode cX11_share 132 = .ok (.ireturn, 1) := by decide +kernel
theorem dX11_saints_0 : decode cX11_saints 0 = .ok (.iload_n 1, 1) := by decide +kernel
theorem dX11_saints_1 : decode cX11_saints 1 = .ok (.iconst 0, 1) := by decide +kernel
theorem dX11_saints_2 : decode cX11_saints 2 = .ok (.iconst 1, 1) := by decide +kernel
theorem dX11_saints_3 : decode cX11_saints 3 = .ok (.aload_n 0, 1) := by decide +kernel
theorem dX11_saints_4 : decode cX11_saints 4 = .ok (.getfield 7, 3) := by decide +kernel
theorem dX11_saints_7 : decode cX11_saints 7 = .ok (.iconst 0, 1) := by decide +kernel
theorem dX11_saints_8 : decode cX11_saints 8 = .ok (.iaload, 1) := by decide +kernel
theorem dX11_saints_9 : decode cX11_saints 9 = .ok (.ishl, 1) := by decide +kernel
theorem dX11_saints_10 : decode cX11_saints 10 = .ok (.iconst 1, 1) := by decide +kernel
theorem dX11_saints_11 : decode cX11_saints 11 = .ok (.isub, 1) := by decide +kernel
theorem dX11_saints_12 : decode cX11_saints 12 = .ok (.invokestatic 75, 3) := by decide +kernel
theorem dX11_saints_15 : decode cX11_saints 15 = .ok (.ifCond .eq 16, 3) := by decide +kernel
theorem dX11_saints_18 : decode cX11_saints 18 = .ok (.iload_n 2, 1) := by decide +kernel
theorem dX11_saints_19 : decode cX11_saints 19 = .ok (.iconst (-1), 1) := by decide +kernel
theorem dX11_saints_20 : decode cX11_saints 20 = .ok (.if_icmp .eq 14, 3) := by decide +kernel
theorem dX11_saints_23 : decode cX11_saints 23 = .ok (.aload_n 0, 1) := by decide +kernel
theorem dX11_saints_24 : decode cX11_saints 24 = .ok (.iload_n 2, 1) := by decide +kernel
theorem dX11_saints_25 : decode cX11_saints 25 = .ok (.invokevirtual 91, 3) := by decide +kernel
theorem dX11_saints_28 : decode cX11_saints 28 = .ok (.ifCond .ne 6, 3) := by decide +kernel
theorem dX11_saints_31 : decode cX11_saints 31 = .ok (.bipush (-2), 2) := by decide +kernel
theorem dX11_saints_33 : decode cX11_saints 33 = .ok (.ireturn, 1) := by decide +kernel
theorem dX11_saints_34 : decode cX11_saints 34 = .ok (.aload_n 0, 1) := by decide +kernel
theorem dX11_saints_35 : decode cX11_saints 35 = .ok (.iload_n 1, 1) := by decide +kernel
theorem dX11_saints_36 : decode cX11_saints 36 = .ok (.invokevirtual 324, 3) := by decide +kernel
theorem dX11_saints_39 : decode cX11_saints 39 = .ok (.aload_n 0, 1) := by decide +kernel
theorem dX11_saints_40 : decode cX11_saints 40 = .ok (.getfield 309, 3) := by decide +kernel
theorem dX11_saints_43 : decode cX11_saints 43 = .ok (.bipush 12, 2) := by decide +kernel
theorem dX11_saints_45 : decode cX11_saints 45 = .ok (.if_icmp .le 6, 3) := by decide +kernel
theorem dX11_saints_48 : decode cX11_saints 48 = .ok (.bipush (-2), 2) := by decide +kernel
theorem dX11_saints_50 : decode cX11_saints 50 = .ok (.ireturn, 1) := by decide +kernel
theorem dX11_saints_51 : decode cX11_saints 51 = .ok (.aload_n 0, 1) := by decide +kernel
theorem dX11_saints_52 : decode cX11_saints 52 = .ok (.invokevirtual 327, 3) := by decide +kernel
theorem dX11_saints_55 : decode cX11_saints 55 = .ok (.iconst 0, 1) := by decide +kernel
theorem dX11_saints_56 : decode cX11_saints 56 = .ok (.istore_n 3, 1) := by decide +kernel
theorem dX11_saints_57 : decode cX11_saints 57 = .ok (.aload_n 0, 1) := by decide +kernel
theorem dX11_saints_58 : decode cX11_saints 58 = .ok (.iload_n 3, 1) := by decide +kernel
theorem dX11_saints_59 : decode cX11_saints 59 = .ok (.invokevirtual 330, 3) := by decide +kernel
theorem dX11_saints_62 : decode cX11_saints 62 = .ok (.ifCond .ne 9, 3) := by decide +kernel
theorem dX11_saints_65 : decode cX11_saints 65 = .ok (.iinc 3 1, 3) := by decide +kernel
theorem dX11_saints_68 : decode cX11_saints 68 = .ok (.goto (-11), 3) := by decide +kernel
theorem dX11_saints_71 : decode cX11_saints 71 = .ok (.iload_n 2, 1) := by decide +kernel
theorem dX11_saints_72 : decode cX11_saints 72 = .ok (.iconst (-1), 1) := by decide +kernel
theorem dX11_saints_73 : decode cX11_saints 73 = .ok (.if_icmp .ne 5, 3) := by decide +kernel
theorem dX11_saints_76 : decode cX11_saints 76 = .ok (.iload_n 3, 1) := by decide +kernel
theorem dX11_saints_77 : decode cX11_saints 77 = .ok (.ireturn, 1) := by decide +kernel
theorem dX11_saints_78 : decode cX11_saints 78 = .ok (.iconst 0, 1) := by decide +kernel
theorem dX11_saints_79 : decode cX11_saints 79 = .ok (.istore 4, 2) := by decide +kernel
theorem dX11_saints_81 : decode cX11_saints 81 = .ok (.iload 4, 2) := by decide +kernel
theorem dX11_saints_83 : decode cX11_saints 83 = .ok (.aload_n 0, 1) := by decide +kernel
theorem dX11_saints_84 : decode cX11_saints 84 = .ok (.getfield 309, 3) := by decide +kernel
theorem dX11_saints_87 : decode cX11_saints 87 = .ok (.if_icmp .ge 28, 3) := by decide +kernel
theorem dX11_saints_90 : decode cX11_saints 90 = .ok (.aload_n 0, 1) := by decide +kernel
theorem dX11_saints_91 : decode cX11_saints 91 = .ok (.getfield 43, 3) := by decide +kernel
theorem dX11_saints_94 : decode cX11_saints 94 = .ok (.iload 4, 2) := by decide +kernel
theorem dX11_saints_96 : decode cX11_saints 96 = .ok (.iaload, 1) := by decide +kernel
theorem dX11_saints_97 : decode cX11_saints 97 = .ok (.iload_n 2, 1) := by decide +kernel
theorem dX11_saints_98 : decode cX11_saints 98 = .ok (.if_icmp .ne 11, 3) := by decide +kernel
theorem dX11_saints_101 : decode cX11_saints 101 = .ok (.aload_n 0, 1) := by decide +kernel
theorem dX11_saints_102 : decode cX11_saints 102 = .ok (.getfield 52, 3) := by decide +kernel
theorem dX11_saints_105 : decode cX11_saints 105 = .ok (.iload 4, 2) := by decide +kernel
theorem dX11_saints_107 : decode cX11_saints 107 = .ok (.iaload, 1) := by decide +kernel
theorem dX11_saints_108 : decode cX11_saints 108 = .ok (.ireturn, 1) := by decide +kernel
theorem dX11_saints_109 : decode cX11_saints 109 = .ok (.iinc 4 1, 3) := by decide +kernel
theorem dX11_saints_112 : decode cX11_saints 112 = .ok (.goto (-31), 3) := by decide +kernel
theorem dX11_saints_115 : decode cX11_saints 115 = .ok (.iconst (-1), 1) := by decide +kernel
theorem dX11_saints_116 : decode cX11_saints 116 = .ok (.ireturn, 1) := by decide +kernel
theorem dX11_rules_0 : decode cX11_rules 0 = .ok (.iload_n 1, 1) := by decide +kernel
theorem dX11_rules_1 : decode cX11_rules 1 = .ok (.iconst 0, 1) := by decide +kernel
theorem dX11_rules_2 : decode cX11_rules 2 = .ok (.bipush 9, 2) := by decide +kernel
theorem dX11_rules_4 : decode cX11_rules 4 = .ok (.invokestatic 75, 3) := by decide +kernel
theorem dX11_rules_7 : decode cX11_rules 7 = .ok (.ifCond .eq 13, 3) := by decide +kernel
theorem dX11_rules_10 : decode cX11_rules 10 = .ok (.iload_n 2, 1) := by decide +kernel
theorem dX11_rules_11 : decode cX11_rules 11 = .ok (.iconst 1, 1) := by decide +kernel
theorem dX11_rules_12 : decode cX11_rules 12 = .ok (.bipush 99, 2) := by decide +kernel
theorem dX11_rules_14 : decode cX11_rules 14 = .ok (.invokestatic 75, 3) := by decide +kernel
theorem dX11_rules_17 : decode cX11_rules 17 = .ok (.ifCond .ne 5, 3) := by decide +kernel
theorem dX11_rules_20 : decode cX11_rules 20 = .ok (.iconst 0, 1) := by decide +kernel
theorem dX11_rules_21 : decode cX11_rules 21 = .ok (.ireturn, 1) := by decide +kernel
theorem dX11_rules_22 : decode cX11_rules 22 = .ok (.aload_n 0, 1) := by decide +kernel
theorem dX11_rules_23 : decode cX11_rules 23 = .ok (.getfield 7, 3) := by decide +kernel
theorem dX11_rules_26 : decode cX11_rules 26 = .ok (.bipush 7, 2) := by decide +kernel
theorem dX11_rules_28 : decode cX11_rules 28 = .ok (.iload_n 1, 1) := by decide +kernel
theorem dX11_rules_29 : decode cX11_rules 29 = .ok (.iastore, 1) := by decide +kernel
theorem dX11_rules_30 : decode cX11_rules 30 = .ok (.aload_n 0, 1) := by decide +kernel
theorem dX11_rules_31 : decode cX11_rules 31 = .ok (.getfield 7, 3) := by decide +kernel
theorem dX11_rules_34 : decode cX11_rules 34 = .ok (.bipush 8, 2) := by decide +kernel
theorem dX11_rules_36 : decode cX11_rules 36 = .ok (.iload_n 2, 1) := by decide +kernel
theorem dX11_rules_37 : decode cX11_rules 37 = .ok (.iastore, 1) := by decide +kernel
theorem dX11_rules_38 : decode cX11_rules 38 = .ok (.iconst 1, 1) := by decide +kernel
theorem dX11_rules_39 : decode cX11_rules 39 = .ok (.ireturn, 1) := by decide +kernel
theorem dX11_seen_0 : decode cX11_seen 0 = .ok (.aload_n 0, 1) := by decide +kernel
theorem dX11_seen_1 : decode cX11_seen 1 = .ok (.iload_n 1, 1) := by decide +kernel
theorem dX11_seen_2 : decode cX11_seen 2 = .ok (.invokevirtual 83, 3) := by decide +kernel
theorem dX11_seen_5 : decode cX11_seen 5 = .ok (.ifCond .eq 48, 3) := by decide +kernel
theorem dX11_seen_8 : decode cX11_seen 8 = .ok (.iload_n 2, 1) := by decide +kernel
theorem dX11_seen_9 : decode cX11_seen 9 = .ok (.iconst 0, 1) := by decide +kernel
theorem dX11_seen_10 : decode cX11_seen 10 = .ok (.bipush 19, 2) := by decide +kernel
theorem dX11_seen_12 : decode cX11_seen 12 = .ok (.invokestatic 75, 3) := by decide +kernel
theorem dX11_seen_15 : decode cX11_seen 15 = .ok (.ifCond .eq 38, 3) := by decide +kernel
theorem dX11_seen_18 : decode cX11_seen 18 = .ok (.iload_n 3, 1) := by decide +kernel
theorem dX11_seen_19 : decode cX11_seen 19 = .ok (.iconst 1, 1) := by decide +kernel
theorem dX11_seen_20 : decode cX11_seen 20 = .ok (.sipush 999, 3) := by decide +kernel
theorem dX11_seen_23 : decode cX11_seen 23 = .ok (.invokestatic 75, 3) := by decide +kernel
theorem dX11_seen_26 : decode cX11_seen 26 = .ok (.ifCond .eq 27, 3) := by decide +kernel
theorem dX11_seen_29 : decode cX11_seen 29 = .ok (.iload 4, 2) := by decide +kernel
theorem dX11_seen_31 : decode cX11_seen 31 = .ok (.iconst 0, 1) := by decide +kernel
theorem dX11_seen_32 : decode cX11_seen 32 = .ok (.sipush 999, 3) := by decide +kernel
theorem dX11_seen_35 : decode cX11_seen 35 = .ok (.invokestatic 75, 3) := by decide +kernel
theorem dX11_seen_38 : decode cX11_seen 38 = .ok (.ifCond .eq 15, 3) := by decide +kernel
theorem dX11_seen_41 : decode cX11_seen 41 = .ok (.aload_n 0, 1) := by decide +kernel
theorem dX11_seen_42 : decode cX11_seen 42 = .ok (.getfield 7, 3) := by decide +kernel
theorem dX11_seen_45 : decode cX11_seen 45 = .ok (.bipush 6, 2) := by decide +kernel
theorem dX11_seen_47 : decode cX11_seen 47 = .ok (.iaload, 1) := by decide +kernel
theorem dX11_seen_48 : decode cX11_seen 48 = .ok (.bipush 12, 2) := by decide +kernel
theorem dX11_seen_50 : decode cX11_seen 50 = .ok (.if_icmp .ne 5, 3) := by decide +kernel
theorem dX11_seen_53 : decode cX11_seen 53 = .ok (.iconst (-1), 1) := by decide +kernel
theorem dX11_seen_54 : decode cX11_seen 54 = .ok (.ireturn, 1) := by decide +kernel
theorem dX11_seen_55 : decode cX11_seen 55 = .ok (.bipush 126, 2) := by decide +kernel
theorem dX11_seen_57 : decode cX11_seen 57 = .ok (.iconst 4, 1) := by decide +kernel
theorem dX11_seen_58 : decode cX11_seen 58 = .ok (.aload_n 0, 1) := by decide +kernel
theorem dX11_seen_59 : decode cX11_seen 59 = .ok (.getfield 7, 3) := by decide +kernel
theorem dX11_seen_62 : decode cX11_seen 62 = .ok (.bipush 6, 2) := by decide +kernel
theorem dX11_seen_64 : decode cX11_seen 64 = .ok (.iaload, 1) := by decide +kernel
theorem dX11_seen_65 : decode cX11_seen 65 = .ok (.imul, 1) := by decide +kernel
theorem dX11_seen_66 : decode cX11_seen 66 = .ok (.iadd, 1) := by decide +kernel
theorem dX11_seen_67 : decode cX11_seen 67 = .ok (.istore 5, 2) := by decide +kernel
theorem dX11_seen_69 : decode cX11_seen 69 = .ok (.aload_n 0, 1) := by decide +kernel
theorem dX11_seen_70 : decode cX11_seen 70 = .ok (.getfield 7, 3) := by decide +kernel
theorem dX11_seen_73 : decode cX11_seen 73 = .ok (.iload 5, 2) := by decide +kernel
theorem dX11_seen_75 : decode cX11_seen 75 = .ok (.iload_n 1, 1) := by decide +kernel
theorem dX11_seen_76 : decode cX11_seen 76 = .ok (.iastore, 1) := by decide +kernel
theorem dX11_seen_77 : decode cX11_seen 77 = .ok (.aload_n 0, 1) := by decide +kernel
theorem dX11_seen_78 : decode cX11_seen 78 = .ok (.getfield 7, 3) := by decide +kernel
theorem dX11_seen_81 : decode cX11_seen 81 = .ok (.iload 5, 2) := by decide +kernel
theorem dX11_seen_83 : decode cX11_seen 83 = .ok (.iconst 1, 1) := by decide +kernel
theorem dX11_seen_84 : decode cX11_seen 84 = .ok (.iadd, 1) := by decide +kernel
theorem dX11_seen_85 : decode cX11_seen 85 = .ok (.iload_n 2, 1) := by decide +kernel
theorem dX11_seen_86 : decode cX11_seen 86 = .ok (.iastore, 1) := by decide +kernel
theorem dX11_seen_87 : decode cX11_seen 87 = .ok (.aload_n 0, 1) := by decide +kernel
theorem dX11_seen_88 : decode cX11_seen 88 = .ok (.getfield 7, 3) := by decide +kernel
theorem dX11_seen_91 : decode cX11_seen 91 = .ok (.iload 5, 2) := by decide +kernel
theorem dX11_seen_93 : decode cX11_seen 93 = .ok (.iconst 2, 1) := by decide +kernel
theorem dX11_seen_94 : decode cX11_seen 94 = .ok (.iadd, 1) := by decide +kernel
theorem dX11_seen_95 : decode cX11_seen 95 = .ok (.iload_n 3, 1) := by decide +kernel
theorem dX11_seen_96 : decode cX11_seen 96 = .ok (.iastore, 1) := by decide +kernel
theorem dX11_seen_97 : decode cX11_seen 97 = .ok (.aload_n 0, 1) := by decide +kernel
theorem dX11_seen_98 : decode cX11_seen 98 = .ok (.getfield 7, 3) := by decide +kernel
theorem dX11_seen_101 : decode cX11_seen 101 = .ok (.iload 5, 2) := by decide +kernel
theorem dX11_seen_103 : decode cX11_seen 103 = .ok (.iconst 3, 1) := by decide +kernel
theorem dX11_seen_104 : decode cX11_seen 104 = .ok (.iadd, 1) := by decide +kernel
theorem dX11_seen_105 : decode cX11_seen 105 = .ok (.iload 4, 2) := by decide +kernel
theorem dX11_seen_107 : decode cX11_seen 107 = .ok (.iastore, 1) := by decide +kernel
theorem dX11_seen_108 : decode cX11_seen 108 = .ok (.aload_n 0, 1) := by decide +kernel
theorem dX11_seen_109 : decode cX11_seen 109 = .ok (.getfield 7, 3) := by decide +kernel
theorem dX11_seen_112 : decode cX11_seen 112 = .ok (.bipush 6, 2) := by decide +kernel
theorem dX11_seen_114 : decode cX11_seen 114 = .ok (.dup2, 1) := by decide +kernel
theorem dX11_seen_115 : decode cX11_seen 115 = .ok (.iaload, 1) := by decide +kernel
theorem dX11_seen_116 : decode cX11_seen 116 = .ok (.iconst 1, 1) := by decide +kernel
theorem dX11_seen_117 : decode cX11_seen 117 = .ok (.iadd, 1) := by decide +kernel
theorem dX11_seen_118 : decode cX11_seen 118 = .ok (.iastore, 1) := by decide +kernel
theorem dX11_seen_119 : decode cX11_seen 119 = .ok (.aload_n 0, 1) := by decide +kernel
theorem dX11_seen_120 : decode cX11_seen 120 = .ok (.getfield 7, 3) := by decide +kernel
theorem dX11_seen_123 : decode cX11_seen 123 = .ok (.bipush 6, 2) := by decide +kernel
theorem dX11_seen_125 : decode cX11_seen 125 = .ok (.iaload, 1) := by decide +kernel
theorem dX11_seen_126 : decode cX11_seen 126 = .ok (.iconst 1, 1) := by decide +kernel
theorem dX11_seen_127 : decode cX11_seen 127 = .ok (.isub, 1) := by decide +kernel
theorem dX11_seen_128 : decode cX11_seen 128 = .ok (.ireturn, 1) := by decide +kernel
theorem dX11_forget_0 : decode cX11_forget 0 = .ok (.aload_n 0, 1) := by decide +kernel
theorem dX11_forget_1 : decode cX11_forget 1 = .ok (.getfield 7, 3) := by decide +kernel
theorem dX11_forget_4 : decode cX11_forget 4 = .ok (.bipush 6, 2) := by decide +kernel
theorem dX11_forget_6 : decode cX11_forget 6 = .ok (.iaload, 1) := by decide +kernel
theorem dX11_forget_7 : decode cX11_forget 7 = .ok (.istore_n 1, 1) := by decide +kernel
theorem dX11_forget_8 : decode cX11_forget 8 = .ok (.aload_n 0, 1) := by decide +kernel
theorem dX11_forget_9 : decode cX11_forget 9 = .ok (.getfield 7, 3) := by decide +kernel
theorem dX11_forget_12 : decode cX11_forget 12 = .ok (.bipush 6, 2) := by decide +kernel
theorem dX11_forget_14 : decode cX11_forget 14 = .ok (.iconst 0, 1) := by decide +kernel
theorem dX11_forget_15 : decode cX11_forget 15 = .ok (.iastore, 1) := by decide +kernel
theorem dX11_forget_16 : decode cX11_forget 16 = .ok (.iload_n 1, 1) := by decide +kernel
theorem dX11_forget_17 : decode cX11_forget 17 = .ok (.ireturn, 1) := by decide +kernel
theorem dX11_same_0 : decode cX11_same 0 = .ok (.iload_n 1, 1) := by decide +kernel
theorem dX11_same_1 : decode cX11_same 1 = .ok (.iconst 0, 1) := by decide +kernel
theorem dX11_same_2 : decode cX11_same 2 = .ok (.aload_n 0, 1) := by decide +kernel
theorem dX11_same_3 : decode cX11_same 3 = .ok (.getfield 7, 3) := by decide +kernel
theorem dX11_same_6 : decode cX11_same 6 = .ok (.bipush 6, 2) := by decide +kernel
theorem dX11_same_8 : decode cX11_same 8 = .ok (.iaload, 1) := by decide +kernel
theorem dX11_same_9 : decode cX11_same 9 = .ok (.iconst 1, 1) := by decide +kernel
theorem dX11_same_10 : decode cX11_same 10 = .ok (.isub, 1) := by decide +kernel
theorem dX11_same_11 : decode cX11_same 11 = .ok (.invokestatic 75, 3) := by decide +kernel
theorem dX11_same_14 : decode cX11_same 14 = .ok (.ifCond .eq 20, 3) := by decide +kernel
theorem dX11_same_17 : decode cX11_same 17 = .ok (.iload_n 2, 1) := by decide +kernel
theorem dX11_same_18 : decode cX11_same 18 = .ok (.iconst 0, 1) := by decide +kernel
theorem dX11_same_19 : decode cX11_same 19 = .ok (.aload_n 0, 1) := by decide +kernel
theorem dX11_same_20 : decode cX11_same 20 = .ok (.getfield 7, 3) := by decide +kernel
theorem dX11_same_23 : decode cX11_same 23 = .ok (.bipush 6, 2) := by decide +kernel
theorem dX11_same_25 : decode cX11_same 25 = .ok (.iaload, 1) := by decide +kernel
theorem dX11_same_26 : decode cX11_same 26 = .ok (.iconst 1, 1) := by decide +kernel
theorem dX11_same_27 : decode cX11_same 27 = .ok (.isub, 1) := by decide +kernel
theorem dX11_same_28 : decode cX11_same 28 = .ok (.invokestatic 75, 3) := by decide +kernel
theorem dX11_same_31 : decode cX11_same 31 = .ok (.ifCond .ne 5, 3) := by decide +kernel
theorem dX11_same_34 : decode cX11_same 34 = .ok (.iconst 0, 1) := by decide +kernel
theorem dX11_same_35 : decode cX11_same 35 = .ok (.ireturn, 1) := by decide +kernel
theorem dX11_same_36 : decode cX11_same 36 = .ok (.bipush 126, 2) := by decide +kernel
theorem dX11_same_38 : decode cX11_same 38 = .ok (.iconst 4, 1) := by decide +kernel
theorem dX11_same_39 : decode cX11_same 39 = .ok (.iload_n 1, 1) := by decide +kernel
theorem dX11_same_40 : decode cX11_same 40 = .ok (.imul, 1) := by decide +kernel
theorem dX11_same_41 : decode cX11_same 41 = .ok (.iadd, 1) := by decide +kernel
theorem dX11_same_42 : decode cX11_same 42 = .ok (.istore_n 3, 1) := by decide +kernel
theorem dX11_same_43 : decode cX11_same 43 = .ok (.bipush 126, 2) := by decide +kernel
theorem dX11_same_45 : decode cX11_same 45 = .ok (.iconst 4, 1) := by decide +kernel
theorem dX11_same_46 : decode cX11_same 46 = .ok (.iload_n 2, 1) := by decide +kernel
theorem dX11_same_47 : decode cX11_same 47 = .ok (.imul, 1) := by decide +kernel
theorem dX11_same_48 : decode cX11_same 48 = .ok (.iadd, 1) := by decide +kernel
theorem dX11_same_49 : decode cX11_same 49 = .ok (.istore 4, 2) := by decide +kernel
theorem dX11_same_51 : decode cX11_same 51 = .ok (.aload_n 0, 1) := by decide +kernel
theorem dX11_same_52 : decode cX11_same 52 = .ok (.getfield 7, 3) := by decide +kernel
theorem dX11_same_55 : decode cX11_same 55 = .ok (.iload 4, 2) := by decide +kernel
theorem dX11_same_57 : decode cX11_same 57 = .ok (.iconst 3, 1) := by decide +kernel
theorem dX11_same_58 : decode cX11_same 58 = .ok (.iadd, 1) := by decide +kernel
theorem dX11_same_59 : decode cX11_same 59 = .ok (.iaload, 1) := by decide +kernel
theorem dX11_same_60 : decode cX11_same 60 = .ok (.aload_n 0, 1) := by decide +kernel
theorem dX11_same_61 : decode cX11_same 61 = .ok (.getfield 7, 3) := by decide +kernel
theorem dX11_same_64 : decode cX11_same 64 = .ok (.iload_n 3, 1) := by decide +kernel
theorem dX11_same_65 : decode cX11_same 65 = .ok (.iconst 3, 1) := by decide +kernel
theorem dX11_same_66 : decode cX11_same 66 = .ok (.iadd, 1) := by decide +kernel
theorem dX11_same_67 : decode cX11_same 67 = .ok (.iaload, 1) := by decide +kernel
theorem dX11_same_68 : decode cX11_same 68 = .ok (.isub, 1) := by decide +kernel
theorem dX11_same_69 : decode cX11_same 69 = .ok (.istore 5, 2) := by decide +kernel
theorem dX11_same_71 : decode cX11_same 71 = .ok (.aload_n 0, 1) := by decide +kernel
theorem dX11_same_72 : decode cX11_same 72 = .ok (.getfield 7, 3) := by decide +kernel
theorem dX11_same_75 : decode cX11_same 75 = .ok (.iload_n 3, 1) := by decide +kernel
theorem dX11_same_76 : decode cX11_same 76 = .ok (.iconst 1, 1) := by decide +kernel
theorem dX11_same_77 : decode cX11_same 77 = .ok (.iadd, 1) := by decide +kernel
theorem dX11_same_78 : decode cX11_same 78 = .ok (.iaload, 1) := by decide +kernel
theorem dX11_same_79 : decode cX11_same 79 = .ok (.aload_n 0, 1) := by decide +kernel
theorem dX11_same_80 : decode cX11_same 80 = .ok (.getfield 7, 3) := by decide +kernel
theorem dX11_same_83 : decode cX11_same 83 = .ok (.iload 4, 2) := by decide +kernel
theorem dX11_same_85 : decode cX11_same 85 = .ok (.iconst 1, 1) := by decide +kernel
theorem dX11_same_86 : decode cX11_same 86 = .ok (.iadd, 1) := by decide +kernel
theorem dX11_same_87 : decode cX11_same 87 = .ok (.iaload, 1) := by decide +kernel
theorem dX11_same_88 : decode cX11_same 88 = .ok (.if_icmp .ne 43, 3) := by decide +kernel
theorem dX11_same_91 : decode cX11_same 91 = .ok (.iload 5, 2) := by decide +kernel
theorem dX11_same_93 : decode cX11_same 93 = .ok (.ifCond .le 38, 3) := by decide +kernel
theorem dX11_same_96 : decode cX11_same 96 = .ok (.aload_n 0, 1) := by decide +kernel
theorem dX11_same_97 : decode cX11_same 97 = .ok (.getfield 7, 3) := by decide +kernel
theorem dX11_same_100 : decode cX11_same 100 = .ok (.iload_n 3, 1) := by decide +kernel
theorem dX11_same_101 : decode cX11_same 101 = .ok (.iconst 2, 1) := by decide +kernel
theorem dX11_same_102 : decode cX11_same 102 = .ok (.iadd, 1) := by decide +kernel
theorem dX11_same_103 : decode cX11_same 103 = .ok (.iaload, 1) := by decide +kernel
theorem dX11_same_104 : decode cX11_same 104 = .ok (.aload_n 0, 1) := by decide +kernel
theorem dX11_same_105 : decode cX11_same 105 = .ok (.getfield 7, 3) := by decide +kernel
theorem dX11_same_108 : decode cX11_same 108 = .ok (.iload 4, 2) := by decide +kernel
theorem dX11_same_110 : decode cX11_same 110 = .ok (.iconst 2, 1) := by decide +kernel
theorem dX11_same_111 : decode cX11_same 111 = .ok (.iadd, 1) := by decide +kernel
theorem dX11_same_112 : decode cX11_same 112 = .ok (.iaload, 1) := by decide +kernel
theorem dX11_same_113 : decode cX11_same 113 = .ok (.isub, 1) := by decide +kernel
theorem dX11_same_114 : decode cX11_same 114 = .ok (.iconst 0, 1) := by decide +kernel
theorem dX11_same_115 : decode cX11_same 115 = .ok (.aload_n 0, 1) := by decide +kernel
theorem dX11_same_116 : decode cX11_same 116 = .ok (.getfield 7, 3) := by decide +kernel
theorem dX11_same_119 : decode cX11_same 119 = .ok (.bipush 7, 2) := by decide +kernel
theorem dX11_same_121 : decode cX11_same 121 = .ok (.iaload, 1) := by decide +kernel
theorem dX11_same_122 : decode cX11_same 122 = .ok (.iload 5, 2) := by decide +kernel
theorem dX11_same_124 : decode cX11_same 124 = .ok (.imul, 1) := by decide +kernel
theorem dX11_same_125 : decode cX11_same 125 = .ok (.invokestatic 75, 3) := by decide +kernel
theorem dX11_same_128 : decode cX11_same 128 = .ok (.ifCond .ne 5, 3) := by decide +kernel
theorem dX11_same_131 : decode cX11_same 131 = .ok (.iconst 0, 1) := by decide +kernel
theorem dX11_same_132 : decode cX11_same 132 = .ok (.ireturn, 1) := by decide +kernel
theorem dX11_same_133 : decode cX11_same 133 = .ok (.aload_n 0, 1) := by decide +kernel
theorem dX11_same_134 : decode cX11_same 134 = .ok (.aload_n 0, 1) := by decide +kernel
theorem dX11_same_135 : decode cX11_same 135 = .ok (.getfield 7, 3) := by decide +kernel
theorem dX11_same_138 : decode cX11_same 138 = .ok (.iload_n 3, 1) := by decide +kernel
theorem dX11_same_139 : decode cX11_same 139 = .ok (.iaload, 1) := by decide +kernel
theorem dX11_same_140 : decode cX11_same 140 = .ok (.aload_n 0, 1) := by decide +kernel
theorem dX11_same_141 : decode cX11_same 141 = .ok (.getfield 7, 3) := by decide +kernel
theorem dX11_same_144 : decode cX11_same 144 = .ok (.iload 4, 2) := by decide +kernel
theorem dX11_same_146 : decode cX11_same 146 = .ok (.iaload, 1) := by decide +kernel
theorem dX11_same_147 : decode cX11_same 147 = .ok (.invokevirtual 333, 3) := by decide +kernel
theorem dX11_same_150 : decode cX11_same 150 = .ok (.aload_n 0, 1) := by decide +kernel
theorem dX11_same_151 : decode cX11_same 151 = .ok (.getfield 7, 3) := by decide +kernel
theorem dX11_same_154 : decode cX11_same 154 = .ok (.bipush 8, 2) := by decide +kernel
theorem dX11_same_156 : decode cX11_same 156 = .ok (.iaload, 1) := by decide +kernel
theorem dX11_same_157 : decode cX11_same 157 = .ok (.idiv, 1) := by decide +kernel
theorem dX11_same_158 : decode cX11_same 158 = .ok (.iload 5, 2) := by decide +kernel
theorem dX11_same_160 : decode cX11_same 160 = .ok (.if_icmp .gt 7, 3) := by decide +kernel
theorem dX11_same_163 : decode cX11_same 163 = .ok (.iconst 1, 1) := by decide +kernel
theorem dX11_same_164 : decode cX11_same 164 = .ok (.goto 4, 3) := by decide +kernel
theorem dX11_same_167 : decode cX11_same 167 = .ok (.iconst 0, 1) := by decide +kernel
theorem dX11_same_168 : decode cX11_same 168 = .ok (.ireturn, 1) := by decide +kernel
theorem dX11_costOf_0 : decode cX11_costOf 0 = .ok (.iload_n 2, 1) := by decide +kernel
theorem dX11_costOf_1 : decode cX11_costOf 1 = .ok (.ifCond .ge 8, 3) := by decide +kernel
theorem dX11_costOf_4 : decode cX11_costOf 4 = .ok (.bipush 100, 2) := by decide +kernel
theorem dX11_costOf_6 : decode cX11_costOf 6 = .ok (.goto 33, 3) := by decide +kernel
theorem dX11_costOf_9 : decode cX11_costOf 9 = .ok (.aload_n 0, 1) := by decide +kernel
theorem dX11_costOf_10 : decode cX11_costOf 10 = .ok (.getfield 7, 3) := by decide +kernel
theorem dX11_costOf_13 : decode cX11_costOf 13 = .ok (.bipush 126, 2) := by decide +kernel
theorem dX11_costOf_15 : decode cX11_costOf 15 = .ok (.iconst 4, 1) := by decide +kernel
theorem dX11_costOf_16 : decode cX11_costOf 16 = .ok (.iload_n 1, 1) := by decide +kernel
theorem dX11_costOf_17 : decode cX11_costOf 17 = .ok (.imul, 1) := by decide +kernel
theorem dX11_costOf_18 : decode cX11_costOf 18 = .ok (.iadd, 1) := by decide +kernel
theorem dX11_costOf_19 : decode cX11_costOf 19 = .ok (.iaload, 1) := by decide +kernel
theorem dX11_costOf_20 : decode cX11_costOf 20 = .ok (.aload_n 0, 1) := by decide +kernel
theorem dX11_costOf_21 : decode cX11_costOf 21 = .ok (.getfield 7, 3) := by decide +kernel
theorem dX11_costOf_24 : decode cX11_costOf 24 = .ok (.bipush 126, 2) := by decide +kernel
theorem dX11_costOf_26 : decode cX11_costOf 26 = .ok (.iconst 4, 1) := by decide +kernel
theorem dX11_costOf_27 : decode cX11_costOf 27 = .ok (.iload_n 2, 1) := by decide +kernel
theorem dX11_costOf_28 : decode cX11_costOf 28 = .ok (.imul, 1) := by decide +kernel
theorem dX11_costOf_29 : decode cX11_costOf 29 = .ok (.iadd, 1) := by decide +kernel
theorem dX11_costOf_30 : decode cX11_costOf 30 = .ok (.iaload, 1) := by decide +kernel
theorem dX11_costOf_31 : decode cX11_costOf 31 = .ok (.if_icmp .eq 7, 3) := by decide +kernel
theorem dX11_costOf_34 : decode cX11_costOf 34 = .ok (.iconst 1, 1) := by decide +kernel
theorem dX11_costOf_35 : decode cX11_costOf 35 = .ok (.goto 4, 3) := by decide +kernel
theorem dX11_costOf_38 : decode cX11_costOf 38 = .ok (.iconst 0, 1) := by decide +kernel
theorem dX11_costOf_39 : decode cX11_costOf 39 = .ok (.ireturn, 1) := by decide +kernel
theorem dX11_mayBe_0 : decode cX11_mayBe 0 = .ok (.iload_n 2, 1) := by decide +kernel
theorem dX11_mayBe_1 : decode cX11_mayBe 1 = .ok (.ifCond .lt 25, 3) := by decide +kernel
theorem dX11_mayBe_4 : decode cX11_mayBe 4 = .ok (.iload_n 3, 1) := by decide +kernel
theorem dX11_mayBe_5 : decode cX11_mayBe 5 = .ok (.iload_n 2, 1) := by decide +kernel
theorem dX11_mayBe_6 : decode cX11_mayBe 6 = .ok (.ishr, 1) := by decide +kernel
theorem dX11_mayBe_7 : decode cX11_mayBe 7 = .ok (.iconst 1, 1) := by decide +kernel
theorem dX11_mayBe_8 : decode cX11_mayBe 8 = .ok (.iand, 1) := by decide +kernel
theorem dX11_mayBe_9 : decode cX11_mayBe 9 = .ok (.ifCond .ne 21, 3) := by decide +kernel
theorem dX11_mayBe_12 : decode cX11_mayBe 12 = .ok (.aload_n 0, 1) := by decide +kernel
theorem dX11_mayBe_13 : decode cX11_mayBe 13 = .ok (.getfield 62, 3) := by decide +kernel
theorem dX11_mayBe_16 : decode cX11_mayBe 16 = .ok (.bipush 12, 2) := by decide +kernel
theorem dX11_mayBe_18 : decode cX11_mayBe 18 = .ok (.iload_n 2, 1) := by decide +kernel
theorem dX11_mayBe_19 : decode cX11_mayBe 19 = .ok (.imul, 1) := by decide +kernel
theorem dX11_mayBe_20 : decode cX11_mayBe 20 = .ok (.iload_n 1, 1) := by decide +kernel
theorem dX11_mayBe_21 : decode cX11_mayBe 21 = .ok (.iadd, 1) := by decide +kernel
theorem dX11_mayBe_22 : decode cX11_mayBe 22 = .ok (.baload, 1) := by decide +kernel
theorem dX11_mayBe_23 : decode cX11_mayBe 23 = .ok (.ifCond .eq 7, 3) := by decide +kernel
theorem dX11_mayBe_26 : decode cX11_mayBe 26 = .ok (.iconst 1, 1) := by decide +kernel
theorem dX11_mayBe_27 : decode cX11_mayBe 27 = .ok (.goto 4, 3) := by decide +kernel
theorem dX11_mayBe_30 : decode cX11_mayBe 30 = .ok (.iconst 0, 1) := by decide +kernel
theorem dX11_mayBe_31 : decode cX11_mayBe 31 = .ok (.ireturn, 1) := by decide +kernel
theorem dX11_behind_0 : decode cX11_behind 0 = .ok (.sipush 4096, 3) := by decide +kernel
theorem dX11_behind_3 : decode cX11_behind 3 = .ok (.iload_n 1, 1) := by decide +kernel
theorem dX11_behind_4 : decode cX11_behind 4 = .ok (.iconst 1, 1) := by decide +kernel
theorem dX11_behind_5 : decode cX11_behind 5 = .ok (.iadd, 1) := by decide +kernel
theorem dX11_behind_6 : decode cX11_behind 6 = .ok (.imul, 1) := by decide +kernel
theorem dX11_behind_7 : decode cX11_behind 7 = .ok (.iload_n 2, 1) := by decide +kernel
theorem dX11_behind_8 : decode cX11_behind 8 = .ok (.ifCond .ge 7, 3) := by decide +kernel
theorem dX11_behind_11 : decode cX11_behind 11 = .ok (.iload_n 3, 1) := by decide +kernel
theorem dX11_behind_12 : decode cX11_behind 12 = .ok (.goto 8, 3) := by decide +kernel
theorem dX11_behind_15 : decode cX11_behind 15 = .ok (.iload_n 3, 1) := by decide +kernel
theorem dX11_behind_16 : decode cX11_behind 16 = .ok (.iconst 1, 1) := by decide +kernel
theorem dX11_behind_17 : decode cX11_behind 17 = .ok (.iload_n 2, 1) := by decide +kernel
theorem dX11_behind_18 : decode cX11_behind 18 = .ok (.ishl, 1) := by decide +kernel
theorem dX11_behind_19 : decode cX11_behind 19 = .ok (.ior, 1) := by decide +kernel
theorem dX11_behind_20 : decode cX11_behind 20 = .ok (.iadd, 1) := by decide +kernel
theorem dX11_behind_21 : decode cX11_behind 21 = .ok (.ireturn, 1) := by decide +kernel
theorem dX11_reckon_0 : decode cX11_reckon 0 = .ok (.aload_n 0, 1) := by decide +kernel
theorem dX11_reckon_1 : decode cX11_reckon 1 = .ok (.getfield 7, 3) := by decide +kernel
theorem dX11_reckon_4 : decode cX11_reckon 4 = .ok (.bipush 6, 2) := by decide +kernel
theorem dX11_reckon_6 : decode cX11_reckon 6 = .ok (.iaload, 1) := by decide +kernel
theorem dX11_reckon_7 : decode cX11_reckon 7 = .ok (.istore_n 1, 1) := by decide +kernel
theorem dX11_reckon_8 : decode cX11_reckon 8 = .ok (.iconst 0, 1) := by decide +kernel
theorem dX11_reckon_9 : decode cX11_reckon 9 = .ok (.istore_n 2, 1) := by decide +kernel
theorem dX11_reckon_10 : decode cX11_reckon 10 = .ok (.iload_n 2, 1) := by decide +kernel
theorem dX11_reckon_11 : decode cX11_reckon 11 = .ok (.iload_n 1, 1) := by decide +kernel
theorem dX11_reckon_12 : decode cX11_reckon 12 = .ok (.if_icmp .ge 39, 3) := by decide +kernel
theorem dX11_reckon_15 : decode cX11_reckon 15 = .ok (.iconst 0, 1) := by decide +kernel
theorem dX11_reckon_16 : decode cX11_reckon 16 = .ok (.istore_n 3, 1) := by decide +kernel
theorem dX11_reckon_17 : decode cX11_reckon 17 = .ok (.iload_n 3, 1) := by decide +kernel
theorem dX11_reckon_18 : decode cX11_reckon 18 = .ok (.iload_n 1, 1) := by decide +kernel
theorem dX11_reckon_19 : decode cX11_reckon 19 = .ok (.if_icmp .ge 26, 3) := by decide +kernel
theorem dX11_reckon_22 : decode cX11_reckon 22 = .ok (.aload_n 0, 1) := by decide +kernel
theorem dX11_reckon_23 : decode cX11_reckon 23 = .ok (.getfield 62, 3) := by decide +kernel
theorem dX11_reckon_26 : decode cX11_reckon 26 = .ok (.bipush 12, 2) := by decide +kernel
theorem dX11_reckon_28 : decode cX11_reckon 28 = .ok (.iload_n 2, 1) := by decide +kernel
theorem dX11_reckon_29 : decode cX11_reckon 29 = .ok (.imul, 1) := by decide +kernel
theorem dX11_reckon_30 : decode cX11_reckon 30 = .ok (.iload_n 3, 1) := by decide +kernel
theorem dX11_reckon_31 : decode cX11_reckon 31 = .ok (.iadd, 1) := by decide +kernel
theorem dX11_reckon_32 : decode cX11_reckon 32 = .ok (.aload_n 0, 1) := by decide +kernel
theorem dX11_reckon_33 : decode cX11_reckon 33 = .ok (.iload_n 2, 1) := by decide +kernel
theorem dX11_reckon_34 : decode cX11_reckon 34 = .ok (.iload_n 3, 1) := by decide +kernel
theorem dX11_reckon_35 : decode cX11_reckon 35 = .ok (.invokevirtual 336, 3) := by decide +kernel
theorem dX11_reckon_38 : decode cX11_reckon 38 = .ok (.bastore, 1) := by decide +kernel
theorem dX11_reckon_39 : decode cX11_reckon 39 = .ok (.iinc 3 1, 3) := by decide +kernel
theorem dX11_reckon_42 : decode cX11_reckon 42 = .ok (.goto (-25), 3) := by decide +kernel
theorem dX11_reckon_45 : decode cX11_reckon 45 = .ok (.iinc 2 1, 3) := by decide +kernel
theorem dX11_reckon_48 : decode cX11_reckon 48 = .ok (.goto (-38), 3) := by decide +kernel
theorem dX11_reckon_51 : decode cX11_reckon 51 = .ok (.iconst 0, 1) := by decide +kernel
theorem dX11_reckon_52 : decode cX11_reckon 52 = .ok (.istore_n 2, 1) := by decide +kernel
theorem dX11_reckon_53 : decode cX11_reckon 53 = .ok (.iload_n 2, 1) := by decide +kernel
theorem dX11_reckon_54 : decode cX11_reckon 54 = .ok (.iconst 1, 1) := by decide +kernel
theorem dX11_reckon_55 : decode cX11_reckon 55 = .ok (.iload_n 1, 1) := by decide +kernel
theorem dX11_reckon_56 : decode cX11_reckon 56 = .ok (.ishl, 1) := by decide +kernel
theorem dX11_reckon_57 : decode cX11_reckon 57 = .ok (.if_icmp .ge 35, 3) := by decide +kernel
theorem dX11_reckon_60 : decode cX11_reckon 60 = .ok (.aload_n 0, 1) := by decide +kernel
theorem dX11_reckon_61 : decode cX11_reckon 61 = .ok (.getfield 56, 3) := by decide +kernel
theorem dX11_reckon_64 : decode cX11_reckon 64 = .ok (.sipush 4096, 3) := by decide +kernel
theorem dX11_reckon_67 : decode cX11_reckon 67 = .ok (.iload_n 1, 1) := by decide +kernel
theorem dX11_reckon_68 : decode cX11_reckon 68 = .ok (.imul, 1) := by decide +kernel
theorem dX11_reckon_69 : decode cX11_reckon 69 = .ok (.iload_n 2, 1) := by decide +kernel
theorem dX11_reckon_70 : decode cX11_reckon 70 = .ok (.iadd, 1) := by decide +kernel
theorem dX11_reckon_71 : decode cX11_reckon 71 = .ok (.iconst 0, 1) := by decide +kernel
theorem dX11_reckon_72 : decode cX11_reckon 72 = .ok (.iastore, 1) := by decide +kernel
theorem dX11_reckon_73 : decode cX11_reckon 73 = .ok (.aload_n 0, 1) := by decide +kernel
theorem dX11_reckon_74 : decode cX11_reckon 74 = .ok (.getfield 59, 3) := by decide +kernel
theorem dX11_reckon_77 : decode cX11_reckon 77 = .ok (.sipush 4096, 3) := by decide +kernel
theorem dX11_reckon_80 : decode cX11_reckon 80 = .ok (.iload_n 1, 1) := by decide +kernel
theorem dX11_reckon_81 : decode cX11_reckon 81 = .ok (.imul, 1) := by decide +kernel
theorem dX11_reckon_82 : decode cX11_reckon 82 = .ok (.iload_n 2, 1) := by decide +kernel
theorem dX11_reckon_83 : decode cX11_reckon 83 = .ok (.iadd, 1) := by decide +kernel
theorem dX11_reckon_84 : decode cX11_reckon 84 = .ok (.lconst 1, 1) := by decide +kernel
theorem dX11_reckon_85 : decode cX11_reckon 85 = .ok (.lastore, 1) := by decide +kernel
theorem dX11_reckon_86 : decode cX11_reckon 86 = .ok (.iinc 2 1, 3) := by decide +kernel
theorem dX11_reckon_89 : decode cX11_reckon 89 = .ok (.goto (-36), 3) := by decide +kernel
theorem dX11_reckon_92 : decode cX11_reckon 92 = .ok (.iload_n 1, 1) := by decide +kernel
theorem dX11_reckon_93 : decode cX11_reckon 93 = .ok (.iconst 1, 1) := by decide +kernel
theorem dX11_reckon_94 : decode cX11_reckon 94 = .ok (.isub, 1) := by decide +kernel
theorem dX11_reckon_95 : decode cX11_reckon 95 = .ok (.istore_n 2, 1) := by decide +kernel
theorem dX11_reckon_96 : decode cX11_reckon 96 = .ok (.iload_n 2, 1) := by decide +kernel
theorem dX11_reckon_97 : decode cX11_reckon 97 = .ok (.ifCond .lt 30, 3) := by decide +kernel
theorem dX11_reckon_100 : decode cX11_reckon 100 = .ok (.iconst 0, 1) := by decide +kernel
theorem dX11_reckon_101 : decode cX11_reckon 101 = .ok (.istore_n 3, 1) := by decide +kernel
theorem dX11_reckon_102 : decode cX11_reckon 102 = .ok (.iload_n 3, 1) := by decide +kernel
theorem dX11_reckon_103 : decode cX11_reckon 103 = .ok (.iconst 1, 1) := by decide +kernel
theorem dX11_reckon_104 : decode cX11_reckon 104 = .ok (.iload_n 1, 1) := by decide +kernel
theorem dX11_reckon_105 : decode cX11_reckon 105 = .ok (.ishl, 1) := by decide +kernel
theorem dX11_reckon_106 : decode cX11_reckon 106 = .ok (.if_icmp .ge 15, 3) := by decide +kernel
theorem dX11_reckon_109 : decode cX11_reckon 109 = .ok (.aload_n 0, 1) := by decide +kernel
theorem dX11_reckon_110 : decode cX11_reckon 110 = .ok (.iload_n 2, 1) := by decide +kernel
theorem dX11_reckon_111 : decode cX11_reckon 111 = .ok (.iload_n 3, 1) := by decide +kernel
theorem dX11_reckon_112 : decode cX11_reckon 112 = .ok (.invokevirtual 339, 3) := by decide +kernel
theorem dX11_reckon_115 : decode cX11_reckon 115 = .ok (.iinc 3 1, 3) := by decide +kernel
theorem dX11_reckon_118 : decode cX11_reckon 118 = .ok (.goto (-16), 3) := by decide +kernel
theorem dX11_reckon_121 : decode cX11_reckon 121 = .ok (.iinc 2 (-1), 3) := by decide +kernel
theorem dX11_reckon_124 : decode cX11_reckon 124 = .ok (.goto (-28), 3) := by decide +kernel
theorem dX11_reckon_127 : decode cX11_reckon 127 = .ok (.return_, 1) := by decide +kernel
theorem dX11_reckonOne_0 : decode cX11_reckonOne 0 = .ok (.ldc_w 342, 3) := by decide +kernel
theorem dX11_reckonOne_3 : decode cX11_reckonOne 3 = .ok (.istore_n 3, 1) := by decide +kernel
theorem dX11_reckonOne_4 : decode cX11_reckonOne 4 = .ok (.lconst 0, 1) := by decide +kernel
theorem dX11_reckonOne_5 : decode cX11_reckonOne 5 = .ok (.lstore 4, 2) := by decide +kernel
theorem dX11_reckonOne_7 : decode cX11_reckonOne 7 = .ok (.iconst (-1), 1) := by decide +kernel
theorem dX11_reckonOne_8 : decode cX11_reckonOne 8 = .ok (.istore 6, 2) := by decide +kernel
theorem dX11_reckonOne_10 : decode cX11_reckonOne 10 = .ok (.iload 6, 2) := by decide +kernel
theorem dX11_reckonOne_12 : decode cX11_reckonOne 12 = .ok (.aload_n 0, 1) := by decide +kernel
theorem dX11_reckonOne_13 : decode cX11_reckonOne 13 = .ok (.getfield 7, 3) := by decide +kernel
theorem dX11_reckonOne_16 : decode cX11_reckonOne 16 = .ok (.bipush 6, 2) := by decide +kernel
theorem dX11_reckonOne_18 : decode cX11_reckonOne 18 = .ok (.iaload, 1) := by decide +kernel
theorem dX11_reckonOne_19 : decode cX11_reckonOne 19 = .ok (.if_icmp .ge 90, 3) := by decide +kernel
theorem dX11_reckonOne_22 : decode cX11_reckonOne 22 = .ok (.aload_n 0, 1) := by decide +kernel
theorem dX11_reckonOne_23 : decode cX11_reckonOne 23 = .ok (.iload_n 1, 1) := by decide +kernel
theorem dX11_reckonOne_24 : decode cX11_reckonOne 24 = .ok (.iload 6, 2) := by decide +kernel
theorem dX11_reckonOne_26 : decode cX11_reckonOne 26 = .ok (.iload_n 2, 1) := by decide +kernel
theorem dX11_reckonOne_27 : decode cX11_reckonOne 27 = .ok (.invokevirtual 343, 3) := by decide +kernel
theorem dX11_reckonOne_30 : decode cX11_reckonOne 30 = .ok (.ifCond .ne 6, 3) := by decide +kernel
theorem dX11_reckonOne_33 : decode cX11_reckonOne 33 = .ok (.goto 70, 3) := by decide +kernel
theorem dX11_reckonOne_36 : decode cX11_reckonOne 36 = .ok (.aload_n 0, 1) := by decide +kernel
theorem dX11_reckonOne_37 : decode cX11_reckonOne 37 = .ok (.iload_n 1, 1) := by decide +kernel
theorem dX11_reckonOne_38 : decode cX11_reckonOne 38 = .ok (.iload 6, 2) := by decide +kernel
theorem dX11_reckonOne_40 : decode cX11_reckonOne 40 = .ok (.iload_n 2, 1) := by decide +kernel
theorem dX11_reckonOne_41 : decode cX11_reckonOne 41 = .ok (.invokevirtual 346, 3) := by decide +kernel
theorem dX11_reckonOne_44 : decode cX11_reckonOne 44 = .ok (.istore 7, 2) := by decide +kernel
theorem dX11_reckonOne_46 : decode cX11_reckonOne 46 = .ok (.aload_n 0, 1) := by decide +kernel
theorem dX11_reckonOne_47 : decode cX11_reckonOne 47 = .ok (.iload_n 1, 1) := by decide +kernel
theorem dX11_reckonOne_48 : decode cX11_reckonOne 48 = .ok (.iload 6, 2) := by decide +kernel
theorem dX11_reckonOne_50 : decode cX11_reckonOne 50 = .ok (.invokevirtual 349, 3) := by decide +kernel
theorem dX11_reckonOne_53 : decode cX11_reckonOne 53 = .ok (.aload_n 0, 1) := by decide +kernel
theorem dX11_reckonOne_54 : decode cX11_reckonOne 54 = .ok (.getfield 56, 3) := by decide +kernel
theorem dX11_reckonOne_57 : decode cX11_reckonOne 57 = .ok (.iload 7, 2) := by decide +kernel
theorem dX11_reckonOne_59 : decode cX11_reckonOne 59 = .ok (.iaload, 1) := by decide +kernel
theorem dX11_reckonOne_60 : decode cX11_reckonOne 60 = .ok (.iadd, 1) := by decide +kernel
theorem dX11_reckonOne_61 : decode cX11_reckonOne 61 = .ok (.istore 8, 2) := by decide +kernel
theorem dX11_reckonOne_63 : decode cX11_reckonOne 63 = .ok (.iload 8, 2) := by decide +kernel
theorem dX11_reckonOne_65 : decode cX11_reckonOne 65 = .ok (.iload_n 3, 1) := by decide +kernel
theorem dX11_reckonOne_66 : decode cX11_reckonOne 66 = .ok (.if_icmp .le 6, 3) := by decide +kernel
theorem dX11_reckonOne_69 : decode cX11_reckonOne 69 = .ok (.goto 34, 3) := by decide +kernel
theorem dX11_reckonOne_72 : decode cX11_reckonOne 72 = .ok (.iload 8, 2) := by decide +kernel
theorem dX11_reckonOne_74 : decode cX11_reckonOne 74 = .ok (.iload_n 3, 1) := by decide +kernel
theorem dX11_reckonOne_75 : decode cX11_reckonOne 75 = .ok (.if_icmp .ne 16, 3) := by decide +kernel
theorem dX11_reckonOne_78 : decode cX11_reckonOne 78 = .ok (.lload 4, 2) := by decide +kernel
theorem dX11_reckonOne_80 : decode cX11_reckonOne 80 = .ok (.aload_n 0, 1) := by decide +kernel
theorem dX11_reckonOne_81 : decode cX11_reckonOne 81 = .ok (.getfield 59, 3) := by decide +kernel
theorem dX11_reckonOne_84 : decode cX11_reckonOne 84 = .ok (.iload 7, 2) := by decide +kernel
theorem dX11_reckonOne_86 : decode cX11_reckonOne 86 = .ok (.laload, 1) := by decide +kernel
theorem dX11_reckonOne_87 : decode cX11_reckonOne 87 = .ok (.ladd, 1) := by decide +kernel
theorem dX11_reckonOne_88 : decode cX11_reckonOne 88 = .ok (.goto 10, 3) := by decide +kernel
theorem dX11_reckonOne_91 : decode cX11_reckonOne 91 = .ok (.aload_n 0, 1) := by decide +kernel
theorem dX11_reckonOne_92 : decode cX11_reckonOne 92 = .ok (.getfield 59, 3) := by decide +kernel
theorem dX11_reckonOne_95 : decode cX11_reckonOne 95 = .ok (.iload 7, 2) := by decide +kernel
theorem dX11_reckonOne_97 : decode cX11_reckonOne 97 = .ok (.laload, 1) := by decide +kernel
theorem dX11_reckonOne_98 : decode cX11_reckonOne 98 = .ok (.lstore 4, 2) := by decide +kernel
theorem dX11_reckonOne_100 : decode cX11_reckonOne 100 = .ok (.iload 8, 2) := by decide +kernel
theorem dX11_reckonOne_102 : decode cX11_reckonOne 102 = .ok (.istore_n 3, 1) := by decide +kernel
theorem dX11_reckonOne_103 : decode cX11_reckonOne 103 = .ok (.iinc 6 1, 3) := by decide +kernel
theorem dX11_reckonOne_106 : decode cX11_reckonOne 106 = .ok (.goto (-96), 3) := by decide +kernel
theorem dX11_reckonOne_109 : decode cX11_reckonOne 109 = .ok (.aload_n 0, 1) := by decide +kernel
theorem dX11_reckonOne_110 : decode cX11_reckonOne 110 = .ok (.getfield 56, 3) := by decide +kernel
theorem dX11_reckonOne_113 : decode cX11_reckonOne 113 = .ok (.sipush 4096, 3) := by decide +kernel
theorem dX11_reckonOne_116 : decode cX11_reckonOne 116 = .ok (.iload_n 1, 1) := by decide +kernel
theorem dX11_reckonOne_117 : decode cX11_reckonOne 117 = .ok (.imul, 1) := by decide +kernel
theorem dX11_reckonOne_118 : decode cX11_reckonOne 118 = .ok (.iload_n 2, 1) := by decide +kernel
theorem dX11_reckonOne_119 : decode cX11_reckonOne 119 = .ok (.iadd, 1) := by decide +kernel
theorem dX11_reckonOne_120 : decode cX11_reckonOne 120 = .ok (.iload_n 3, 1) := by decide +kernel
theorem dX11_reckonOne_121 : decode cX11_reckonOne 121 = .ok (.iastore, 1) := by decide +kernel
theorem dX11_reckonOne_122 : decode cX11_reckonOne 122 = .ok (.aload_n 0, 1) := by decide +kernel
theorem dX11_reckonOne_123 : decode cX11_reckonOne 123 = .ok (.getfield 59, 3) := by decide +kernel
theorem dX11_reckonOne_126 : decode cX11_reckonOne 126 = .ok (.sipush 4096, 3) := by decide +kernel
theorem dX11_reckonOne_129 : decode cX11_reckonOne 129 = .ok (.iload_n 1, 1) := by decide +kernel
theorem dX11_reckonOne_130 : decode cX11_reckonOne 130 = .ok (.imul, 1) := by decide +kernel
theorem dX11_reckonOne_131 : decode cX11_reckonOne 131 = .ok (.iload_n 2, 1) := by decide +kernel
theorem dX11_reckonOne_132 : decode cX11_reckonOne 132 = .ok (.iadd, 1) := by decide +kernel
theorem dX11_reckonOne_133 : decode cX11_reckonOne 133 = .ok (.lload 4, 2) := by decide +kernel
theorem dX11_reckonOne_135 : decode cX11_reckonOne 135 = .ok (.lastore, 1) := by decide +kernel
theorem dX11_reckonOne_136 : decode cX11_reckonOne 136 = .ok (.return_, 1) := by decide +kernel
theorem dX11_best_0 : decode cX11_best 0 = .ok (.iload_n 1, 1) := by decide +kernel
theorem dX11_best_1 : decode cX11_best 1 = .ok (.iconst 0, 1) := by decide +kernel
theorem dX11_best_2 : decode cX11_best 2 = .ok (.iconst 1, 1) := by decide +kernel
theorem dX11_best_3 : decode cX11_best 3 = .ok (.invokestatic 75, 3) := by decide +kernel
theorem dX11_best_6 : decode cX11_best 6 = .ok (.ifCond .ne 5, 3) := by decide +kernel
theorem dX11_best_9 : decode cX11_best 9 = .ok (.iconst (-1), 1) := by decide +kernel
theorem dX11_best_10 : decode cX11_best 10 = .ok (.ireturn, 1) := by decide +kernel
theorem dX11_best_11 : decode cX11_best 11 = .ok (.aload_n 0, 1) := by decide +kernel
theorem dX11_best_12 : decode cX11_best 12 = .ok (.invokevirtual 352, 3) := by decide +kernel
theorem dX11_best_15 : decode cX11_best 15 = .ok (.iload_n 1, 1) := by decide +kernel
theorem dX11_best_16 : decode cX11_best 16 = .ok (.ifCond .ne 15, 3) := by decide +kernel
theorem dX11_best_19 : decode cX11_best 19 = .ok (.aload_n 0, 1) := by decide +kernel
theorem dX11_best_20 : decode cX11_best 20 = .ok (.getfield 56, 3) := by decide +kernel
theorem dX11_best_23 : decode cX11_best 23 = .ok (.iconst 0, 1) := by decide +kernel
theorem dX11_best_24 : decode cX11_best 24 = .ok (.iaload, 1) := by decide +kernel
theorem dX11_best_25 : decode cX11_best 25 = .ok (.bipush 100, 2) := by decide +kernel
theorem dX11_best_27 : decode cX11_best 27 = .ok (.idiv, 1) := by decide +kernel
theorem dX11_best_28 : decode cX11_best 28 = .ok (.goto 12, 3) := by decide +kernel
theorem dX11_best_31 : decode cX11_best 31 = .ok (.aload_n 0, 1) := by decide +kernel
theorem dX11_best_32 : decode cX11_best 32 = .ok (.getfield 56, 3) := by decide +kernel
theorem dX11_best_35 : decode cX11_best 35 = .ok (.iconst 0, 1) := by decide +kernel
theorem dX11_best_36 : decode cX11_best 36 = .ok (.iaload, 1) := by decide +kernel
theorem dX11_best_37 : decode cX11_best 37 = .ok (.bipush 100, 2) := by decide +kernel
theorem dX11_best_39 : decode cX11_best 39 = .ok (.irem, 1) := by decide +kernel
theorem dX11_best_40 : decode cX11_best 40 = .ok (.ireturn, 1) := by decide +kernel
theorem dX11_histories_0 : decode cX11_histories 0 = .ok (.aload_n 0, 1) := by decide +kernel
theorem dX11_histories_1 : decode cX11_histories 1 = .ok (.invokevirtual 352, 3) := by decide +kernel
theorem dX11_histories_4 : decode cX11_histories 4 = .ok (.aload_n 0, 1) := by decide +kernel
theorem dX11_histories_5 : decode cX11_histories 5 = .ok (.getfield 59, 3) := by decide +kernel
theorem dX11_histories_8 : decode cX11_histories 8 = .ok (.iconst 0, 1) := by decide +kernel
theorem dX11_histories_9 : decode cX11_histories 9 = .ok (.laload, 1) := by decide +kernel
theorem dX11_histories_10 : decode cX11_histories 10 = .ok (.lreturn, 1) := by decide +kernel
theorem dX11_led_0 : decode cX11_led 0 = .ok (.iload_n 1, 1) := by decide +kernel
theorem dX11_led_1 : decode cX11_led 1 = .ok (.iconst 0, 1) := by decide +kernel
theorem dX11_led_2 : decode cX11_led 2 = .ok (.aload_n 0, 1) := by decide +kernel
theorem dX11_led_3 : decode cX11_led 3 = .ok (.getfield 7, 3) := by decide +kernel
theorem dX11_led_6 : decode cX11_led 6 = .ok (.bipush 6, 2) := by decide +kernel
theorem dX11_led_8 : decode cX11_led 8 = .ok (.iaload, 1) := by decide +kernel
theorem dX11_led_9 : decode cX11_led 9 = .ok (.iconst 1, 1) := by decide +kernel
theorem dX11_led_10 : decode cX11_led 10 = .ok (.isub, 1) := by decide +kernel
theorem dX11_led_11 : decode cX11_led 11 = .ok (.invokestatic 75, 3) := by decide +kernel
theorem dX11_led_14 : decode cX11_led 14 = .ok (.ifCond .ne 6, 3) := by decide +kernel
theorem dX11_led_17 : decode cX11_led 17 = .ok (.bipush (-2), 2) := by decide +kernel
theorem dX11_led_19 : decode cX11_led 19 = .ok (.ireturn, 1) := by decide +kernel
theorem dX11_led_20 : decode cX11_led 20 = .ok (.aload_n 0, 1) := by decide +kernel
theorem dX11_led_21 : decode cX11_led 21 = .ok (.invokevirtual 352, 3) := by decide +kernel
theorem dX11_led_24 : decode cX11_led 24 = .ok (.iconst 0, 1) := by decide +kernel
theorem dX11_led_25 : decode cX11_led 25 = .ok (.istore_n 2, 1) := by decide +kernel
theorem dX11_led_26 : decode cX11_led 26 = .ok (.iconst 0, 1) := by decide +kernel
theorem dX11_led_27 : decode cX11_led 27 = .ok (.istore_n 3, 1) := by decide +kernel
theorem dX11_led_28 : decode cX11_led 28 = .ok (.iload_n 3, 1) := by decide +kernel
theorem dX11_led_29 : decode cX11_led 29 = .ok (.aload_n 0, 1) := by decide +kernel
theorem dX11_led_30 : decode cX11_led 30 = .ok (.getfield 7, 3) := by decide +kernel
theorem dX11_led_33 : decode cX11_led 33 = .ok (.bipush 6, 2) := by decide +kernel
theorem dX11_led_35 : decode cX11_led 35 = .ok (.iaload, 1) := by decide +kernel
theorem dX11_led_36 : decode cX11_led 36 = .ok (.if_icmp .ge 90, 3) := by decide +kernel
theorem dX11_led_39 : decode cX11_led 39 = .ok (.iconst (-1), 1) := by decide +kernel
theorem dX11_led_40 : decode cX11_led 40 = .ok (.istore 4, 2) := by decide +kernel
theorem dX11_led_42 : decode cX11_led 42 = .ok (.aload_n 0, 1) := by decide +kernel
theorem dX11_led_43 : decode cX11_led 43 = .ok (.iload_n 3, 1) := by decide +kernel
theorem dX11_led_44 : decode cX11_led 44 = .ok (.iload 4, 2) := by decide +kernel
theorem dX11_led_46 : decode cX11_led 46 = .ok (.iload_n 2, 1) := by decide +kernel
theorem dX11_led_47 : decode cX11_led 47 = .ok (.invokevirtual 343, 3) := by decide +kernel
theorem dX11_led_50 : decode cX11_led 50 = .ok (.ifCond .eq 39, 3) := by decide +kernel
theorem dX11_led_53 : decode cX11_led 53 = .ok (.aload_n 0, 1) := by decide +kernel
theorem dX11_led_54 : decode cX11_led 54 = .ok (.iload_n 3, 1) := by decide +kernel
theorem dX11_led_55 : decode cX11_led 55 = .ok (.iload 4, 2) := by decide +kernel
theorem dX11_led_57 : decode cX11_led 57 = .ok (.invokevirtual 349, 3) := by decide +kernel
theorem dX11_led_60 : decode cX11_led 60 = .ok (.aload_n 0, 1) := by decide +kernel
theorem dX11_led_61 : decode cX11_led 61 = .ok (.getfield 56, 3) := by decide +kernel
theorem dX11_led_64 : decode cX11_led 64 = .ok (.aload_n 0, 1) := by decide +kernel
theorem dX11_led_65 : decode cX11_led 65 = .ok (.iload_n 3, 1) := by decide +kernel
theorem dX11_led_66 : decode cX11_led 66 = .ok (.iload 4, 2) := by decide +kernel
theorem dX11_led_68 : decode cX11_led 68 = .ok (.iload_n 2, 1) := by decide +kernel
theorem dX11_led_69 : decode cX11_led 69 = .ok (.invokevirtual 346, 3) := by decide +kernel
theorem dX11_led_72 : decode cX11_led 72 = .ok (.iaload, 1) := by decide +kernel
theorem dX11_led_73 : decode cX11_led 73 = .ok (.iadd, 1) := by decide +kernel
theorem dX11_led_74 : decode cX11_led 74 = .ok (.aload_n 0, 1) := by decide +kernel
theorem dX11_led_75 : decode cX11_led 75 = .ok (.getfield 56, 3) := by decide +kernel
theorem dX11_led_78 : decode cX11_led 78 = .ok (.sipush 4096, 3) := by decide +kernel
theorem dX11_led_81 : decode cX11_led 81 = .ok (.iload_n 3, 1) := by decide +kernel
theorem dX11_led_82 : decode cX11_led 82 = .ok (.imul, 1) := by decide +kernel
theorem dX11_led_83 : decode cX11_led 83 = .ok (.iload_n 2, 1) := by decide +kernel
theorem dX11_led_84 : decode cX11_led 84 = .ok (.iadd, 1) := by decide +kernel
theorem dX11_led_85 : decode cX11_led 85 = .ok (.iaload, 1) := by decide +kernel
theorem dX11_led_86 : decode cX11_led 86 = .ok (.if_icmp .eq 9, 3) := by decide +kernel
theorem dX11_led_89 : decode cX11_led 89 = .ok (.iinc 4 1, 3) := by decide +kernel
theorem dX11_led_92 : decode cX11_led 92 = .ok (.goto (-50), 3) := by decide +kernel
theorem dX11_led_95 : decode cX11_led 95 = .ok (.iload_n 3, 1) := by decide +kernel
theorem dX11_led_96 : decode cX11_led 96 = .ok (.iload_n 1, 1) := by decide +kernel
theorem dX11_led_97 : decode cX11_led 97 = .ok (.if_icmp .ne 6, 3) := by decide +kernel
theorem dX11_led_100 : decode cX11_led 100 = .ok (.iload 4, 2) := by decide +kernel
theorem dX11_led_102 : decode cX11_led 102 = .ok (.ireturn, 1) := by decide +kernel
theorem dX11_led_103 : decode cX11_led 103 = .ok (.aload_n 0, 1) := by decide +kernel
theorem dX11_led_104 : decode cX11_led 104 = .ok (.iload_n 3, 1) := by decide +kernel
theorem dX11_led_105 : decode cX11_led 105 = .ok (.iload 4, 2) := by decide +kernel
theorem dX11_led_107 : decode cX11_led 107 = .ok (.iload_n 2, 1) := by decide +kernel
theorem dX11_led_108 : decode cX11_led 108 = .ok (.invokevirtual 346, 3) := by decide +kernel
theorem dX11_led_111 : decode cX11_led 111 = .ok (.sipush 4096, 3) := by decide +kernel
theorem dX11_led_114 : decode cX11_led 114 = .ok (.iload_n 3, 1) := by decide +kernel
theorem dX11_led_115 : decode cX11_led 115 = .ok (.iconst 1, 1) := by decide +kernel
theorem dX11_led_116 : decode cX11_led 116 = .ok (.iadd, 1) := by decide +kernel
theorem dX11_led_117 : decode cX11_led 117 = .ok (.imul, 1) := by decide +kernel
theorem dX11_led_118 : decode cX11_led 118 = .ok (.isub, 1) := by decide +kernel
theorem dX11_led_119 : decode cX11_led 119 = .ok (.istore_n 2, 1) := by decide +kernel
theorem dX11_led_120 : decode cX11_led 120 = .ok (.iinc 3 1, 3) := by decide +kernel
theorem dX11_led_123 : decode cX11_led 123 = .ok (.goto (-95), 3) := by decide +kernel
theorem dX11_led_126 : decode cX11_led 126 = .ok (.iconst (-1), 1) := by decide +kernel
theorem dX11_led_127 : decode cX11_led 127 = .ok (.ireturn, 1) := by decide +kernel
theorem dX11_power_0 : decode cX11_power 0 = .ok (.lconst 1, 1) := by decide +kernel
theorem dX11_power_1 : decode cX11_power 1 = .ok (.lstore_n 2, 1) := by decide +kernel
theorem dX11_power_2 : decode cX11_power 2 = .ok (.iconst 0, 1) := by decide +kernel
theorem dX11_power_3 : decode cX11_power 3 = .ok (.istore 4, 2) := by decide +kernel
theorem dX11_power_5 : decode cX11_power 5 = .ok (.iload 4, 2) := by decide +kernel
theorem dX11_power_7 : decode cX11_power 7 = .ok (.iload_n 1, 1) := by decide +kernel
theorem dX11_power_8 : decode cX11_power 8 = .ok (.if_icmp .ge 14, 3) := by decide +kernel
theorem dX11_power_11 : decode cX11_power 11 = .ok (.lload_n 2, 1) := by decide +kernel
theorem dX11_power_12 : decode cX11_power 12 = .ok (.iload_n 0, 1) := by decide +kernel
theorem dX11_power_13 : decode cX11_power 13 = .ok (.i2l, 1) := by decide +kernel
theorem dX11_power_14 : decode cX11_power 14 = .ok (.lmul, 1) := by decide +kernel
theorem dX11_power_15 : decode cX11_power 15 = .ok (.lstore_n 2, 1) := by decide +kernel
theorem dX11_power_16 : decode cX11_power 16 = .ok (.iinc 4 1, 3) := by decide +kernel
theorem dX11_power_19 : decode cX11_power 19 = .ok (.goto (-14), 3) := by decide +kernel
theorem dX11_power_22 : decode cX11_power 22 = .ok (.lload_n 2, 1) := by decide +kernel
theorem dX11_power_23 : decode cX11_power 23 = .ok (.lreturn, 1) := by decide +kernel
theorem dX11_common_0 : decode cX11_common 0 = .ok (.lload_n 0, 1) := by decide +kernel
theorem dX11_common_1 : decode cX11_common 1 = .ok (.lstore 4, 2) := by decide +kernel
theorem dX11_common_3 : decode cX11_common 3 = .ok (.lload_n 2, 1) := by decide +kernel
theorem dX11_common_4 : decode cX11_common 4 = .ok (.lstore 6, 2) := by decide +kernel
theorem dX11_common_6 : decode cX11_common 6 = .ok (.lload 6, 2) := by decide +kernel
theorem dX11_common_8 : decode cX11_common 8 = .ok (.lconst 0, 1) := by decide +kernel
theorem dX11_common_9 : decode cX11_common 9 = .ok (.lcmp, 1) := by decide +kernel
theorem dX11_common_10 : decode cX11_common 10 = .ok (.ifCond .eq 21, 3) := by decide +kernel
theorem dX11_common_13 : decode cX11_common 13 = .ok (.lload 4, 2) := by decide +kernel
theorem dX11_common_15 : decode cX11_common 15 = .ok (.lload 6, 2) := by decide +kernel
theorem dX11_common_17 : decode cX11_common 17 = .ok (.lrem, 1) := by decide +kernel
theorem dX11_common_18 : decode cX11_common 18 = .ok (.lstore 8, 2) := by decide +kernel
theorem dX11_common_20 : decode cX11_common 20 = .ok (.lload 6, 2) := by decide +kernel
theorem dX11_common_22 : decode cX11_common 22 = .ok (.lstore 4, 2) := by decide +kernel
theorem dX11_common_24 : decode cX11_common 24 = .ok (.lload 8, 2) := by decide +kernel
theorem dX11_common_26 : decode cX11_common 26 = .ok (.lstore 6, 2) := by decide +kernel
theorem dX11_common_28 : decode cX11_common 28 = .ok (.goto (-22), 3) := by decide +kernel
theorem dX11_common_31 : decode cX11_common 31 = .ok (.lload 4, 2) := by decide +kernel
theorem dX11_common_33 : decode cX11_common 33 = .ok (.lreturn, 1) := by decide +kernel
theorem dX11_choices_0 : decode cX11_choices 0 = .ok (.lconst 1, 1) := by decide +kernel
theorem dX11_choices_1 : decode cX11_choices 1 = .ok (.lstore_n 2, 1) := by decide +kernel
theorem dX11_choices_2 : decode cX11_choices 2 = .ok (.iconst 1, 1) := by decide +kernel
theorem dX11_choices_3 : decode cX11_choices 3 = .ok (.istore 4, 2) := by decide +kernel
theorem dX11_choices_5 : decode cX11_choices 5 = .ok (.iload 4, 2) := by decide +kernel
theorem dX11_choices_7 : decode cX11_choices 7 = .ok (.iload_n 1, 1) := by decide +kernel
theorem dX11_choices_8 : decode cX11_choices 8 = .ok (.if_icmp .gt 23, 3) := by decide +kernel
theorem dX11_choices_11 : decode cX11_choices 11 = .ok (.lload_n 2, 1) := by decide +kernel
theorem dX11_choices_12 : decode cX11_choices 12 = .ok (.iload_n 0, 1) := by decide +kernel
theorem dX11_choices_13 : decode cX11_choices 13 = .ok (.iload_n 1, 1) := by decide +kernel
theorem dX11_choices_14 : decode cX11_choices 14 = .ok (.isub, 1) := by decide +kernel
theorem dX11_choices_15 : decode cX11_choices 15 = .ok (.iload 4, 2) := by decide +kernel
theorem dX11_choices_17 : decode cX11_choices 17 = .ok (.iadd, 1) := by decide +kernel
theorem dX11_choices_18 : decode cX11_choices 18 = .ok (.i2l, 1) := by decide +kernel
theorem dX11_choices_19 : decode cX11_choices 19 = .ok (.lmul, 1) := by decide +kernel
theorem dX11_choices_20 : decode cX11_choices 20 = .ok (.iload 4, 2) := by decide +kernel
theorem dX11_choices_22 : decode cX11_choices 22 = .ok (.i2l, 1) := by decide +kernel
theorem dX11_choices_23 : decode cX11_choices 23 = .ok (.ldiv, 1) := by decide +kernel
theorem dX11_choices_24 : decode cX11_choices 24 = .ok (.lstore_n 2, 1) := by decide +kernel
theorem dX11_choices_25 : decode cX11_choices 25 = .ok (.iinc 4 1, 3) := by decide +kernel
theorem dX11_choices_28 : decode cX11_choices 28 = .ok (.goto (-23), 3) := by decide +kernel
theorem dX11_choices_31 : decode cX11_choices 31 = .ok (.lload_n 2, 1) := by decide +kernel
theorem dX11_choices_32 : decode cX11_choices 32 = .ok (.lreturn, 1) := by decide +kernel
theorem dX11_chance_0 : decode cX11_chance 0 = .ok (.iload_n 1, 1) := by decide +kernel
theorem dX11_chance_1 : decode cX11_chance 1 = .ok (.iconst 0, 1) := by decide +kernel
theorem dX11_chance_2 : decode cX11_chance 2 = .ok (.bipush 20, 2) := by decide +kernel
theorem dX11_chance_4 : decode cX11_chance 4 = .ok (.invokestatic 75, 3) := by decide +kernel
theorem dX11_chance_7 : decode cX11_chance 7 = .ok (.ifCond .eq 32, 3) := by decide +kernel
theorem dX11_chance_10 : decode cX11_chance 10 = .ok (.iload_n 2, 1) := by decide +kernel
theorem dX11_chance_11 : decode cX11_chance 11 = .ok (.iconst 0, 1) := by decide +kernel
theorem dX11_chance_12 : decode cX11_chance 12 = .ok (.iload_n 1, 1) := by decide +kernel
theorem dX11_chance_13 : decode cX11_chance 13 = .ok (.invokestatic 75, 3) := by decide +kernel
theorem dX11_chance_16 : decode cX11_chance 16 = .ok (.ifCond .eq 23, 3) := by decide +kernel
theorem dX11_chance_19 : decode cX11_chance 19 = .ok (.iload_n 3, 1) := by decide +kernel
theorem dX11_chance_20 : decode cX11_chance 20 = .ok (.iconst 0, 1) := by decide +kernel
theorem dX11_chance_21 : decode cX11_chance 21 = .ok (.bipush 6, 2) := by decide +kernel
theorem dX11_chance_23 : decode cX11_chance 23 = .ok (.invokestatic 75, 3) := by decide +kernel
theorem dX11_chance_26 : decode cX11_chance 26 = .ok (.ifCond .eq 13, 3) := by decide +kernel
theorem dX11_chance_29 : decode cX11_chance 29 = .ok (.iload 4, 2) := by decide +kernel
theorem dX11_chance_31 : decode cX11_chance 31 = .ok (.iconst 0, 1) := by decide +kernel
theorem dX11_chance_32 : decode cX11_chance 32 = .ok (.iconst 1, 1) := by decide +kernel
theorem dX11_chance_33 : decode cX11_chance 33 = .ok (.invokestatic 75, 3) := by decide +kernel
theorem dX11_chance_36 : decode cX11_chance 36 = .ok (.ifCond .ne 7, 3) := by decide +kernel
theorem dX11_chance_39 : decode cX11_chance 39 = .ok (.ldc2_w 355, 3) := by decide +kernel
theorem dX11_chance_42 : decode cX11_chance 42 = .ok (.lreturn, 1) := by decide +kernel
theorem dX11_chance_43 : decode cX11_chance 43 = .ok (.lconst 0, 1) := by decide +kernel
theorem dX11_chance_44 : decode cX11_chance 44 = .ok (.lstore 5, 2) := by decide +kernel
theorem dX11_chance_46 : decode cX11_chance 46 = .ok (.iload_n 2, 1) := by decide +kernel
theorem dX11_chance_47 : decode cX11_chance 47 = .ok (.istore 7, 2) := by decide +kernel
theorem dX11_chance_49 : decode cX11_chance 49 = .ok (.iload 7, 2) := by decide +kernel
theorem dX11_chance_51 : decode cX11_chance 51 = .ok (.iload_n 1, 1) := by decide +kernel
theorem dX11_chance_52 : decode cX11_chance 52 = .ok (.if_icmp .gt 39, 3) := by decide +kernel
theorem dX11_chance_55 : decode cX11_chance 55 = .ok (.lload 5, 2) := by decide +kernel
theorem dX11_chance_57 : decode cX11_chance 57 = .ok (.iload_n 1, 1) := by decide +kernel
theorem dX11_chance_58 : decode cX11_chance 58 = .ok (.iload 7, 2) := by decide +kernel
theorem dX11_chance_60 : decode cX11_chance 60 = .ok (.invokestatic 357, 3) := by decide +kernel
theorem dX11_chance_63 : decode cX11_chance 63 = .ok (.iload_n 3, 1) := by decide +kernel
theorem dX11_chance_64 : decode cX11_chance 64 = .ok (.iload 7, 2) := by decide +kernel
theorem dX11_chance_66 : decode cX11_chance 66 = .ok (.invokestatic 361, 3) := by decide +kernel
theorem dX11_chance_69 : decode cX11_chance 69 = .ok (.lmul, 1) := by decide +kernel
theorem dX11_chance_70 : decode cX11_chance 70 = .ok (.bipush 6, 2) := by decide +kernel
theorem dX11_chance_72 : decode cX11_chance 72 = .ok (.iload_n 3, 1) := by decide +kernel
theorem dX11_chance_73 : decode cX11_chance 73 = .ok (.isub, 1) := by decide +kernel
theorem dX11_chance_74 : decode cX11_chance 74 = .ok (.iload_n 1, 1) := by decide +kernel
theorem dX11_chance_75 : decode cX11_chance 75 = .ok (.iload 7, 2) := by decide +kernel
theorem dX11_chance_77 : decode cX11_chance 77 = .ok (.isub, 1) := by decide +kernel
theorem dX11_chance_78 : decode cX11_chance 78 = .ok (.invokestatic 361, 3) := by decide +kernel
theorem dX11_chance_81 : decode cX11_chance 81 = .ok (.lmul, 1) := by decide +kernel
theorem dX11_chance_82 : decode cX11_chance 82 = .ok (.ladd, 1) := by decide +kernel
theorem dX11_chance_83 : decode cX11_chance 83 = .ok (.lstore 5, 2) := by decide +kernel
theorem dX11_chance_85 : decode cX11_chance 85 = .ok (.iinc 7 1, 3) := by decide +kernel
theorem dX11_chance_88 : decode cX11_chance 88 = .ok (.goto (-39), 3) := by decide +kernel
theorem dX11_chance_91 : decode cX11_chance 91 = .ok (.bipush 6, 2) := by decide +kernel
theorem dX11_chance_93 : decode cX11_chance 93 = .ok (.iload_n 1, 1) := by decide +kernel
theorem dX11_chance_94 : decode cX11_chance 94 = .ok (.invokestatic 361, 3) := by decide +kernel
theorem dX11_chance_97 : decode cX11_chance 97 = .ok (.lstore 7, 2) := by decide +kernel
theorem dX11_chance_99 : decode cX11_chance 99 = .ok (.iload 4, 2) := by decide +kernel
theorem dX11_chance_101 : decode cX11_chance 101 = .ok (.ifCond .ne 8, 3) := by decide +kernel
theorem dX11_chance_104 : decode cX11_chance 104 = .ok (.lload 5, 2) := by decide +kernel
theorem dX11_chance_106 : decode cX11_chance 106 = .ok (.goto 5, 3) := by decide +kernel
theorem dX11_chance_109 : decode cX11_chance 109 = .ok (.lload 7, 2) := by decide +kernel
theorem dX11_chance_111 : decode cX11_chance 111 = .ok (.lload 5, 2) := by decide +kernel
theorem dX11_chance_113 : decode cX11_chance 113 = .ok (.lload 7, 2) := by decide +kernel
theorem dX11_chance_115 : decode cX11_chance 115 = .ok (.invokestatic 364, 3) := by decide +kernel
theorem dX11_chance_118 : decode cX11_chance 118 = .ok (.ldiv, 1) := by decide +kernel
theorem dX11_chance_119 : decode cX11_chance 119 = .ok (.lreturn, 1) := by decide +kernel
theorem dX11_milesOf_0 : decode cX11_milesOf 0 = .ok (.iconst 0, 1) := by decide +kernel
theorem dX11_milesOf_1 : decode cX11_milesOf 1 = .ok (.istore_n 2, 1) := by decide +kernel
theorem dX11_milesOf_2 : decode cX11_milesOf 2 = .ok (.iconst 0, 1) := by decide +kernel
theorem dX11_milesOf_3 : decode cX11_milesOf 3 = .ok (.istore_n 3, 1) := by decide +kernel
theorem dX11_milesOf_4 : decode cX11_milesOf 4 = .ok (.iload_n 3, 1) := by decide +kernel
theorem dX11_milesOf_5 : decode cX11_milesOf 5 = .ok (.iload_n 1, 1) := by decide +kernel
theorem dX11_milesOf_6 : decode cX11_milesOf 6 = .ok (.if_icmp .ge 41, 3) := by decide +kernel
theorem dX11_milesOf_9 : decode cX11_milesOf 9 = .ok (.iload_n 2, 1) := by decide +kernel
theorem dX11_milesOf_10 : decode cX11_milesOf 10 = .ok (.aload_n 0, 1) := by decide +kernel
theorem dX11_milesOf_11 : decode cX11_milesOf 11 = .ok (.aload_n 0, 1) := by decide +kernel
theorem dX11_milesOf_12 : decode cX11_milesOf 12 = .ok (.getfield 65, 3) := by decide +kernel
theorem dX11_milesOf_15 : decode cX11_milesOf 15 = .ok (.iload_n 3, 1) := by decide +kernel
theorem dX11_milesOf_16 : decode cX11_milesOf 16 = .ok (.iaload, 1) := by decide +kernel
theorem dX11_milesOf_17 : decode cX11_milesOf 17 = .ok (.aload_n 0, 1) := by decide +kernel
theorem dX11_milesOf_18 : decode cX11_milesOf 18 = .ok (.getfield 65, 3) := by decide +kernel
theorem dX11_milesOf_21 : decode cX11_milesOf 21 = .ok (.iload_n 3, 1) := by decide +kernel
theorem dX11_milesOf_22 : decode cX11_milesOf 22 = .ok (.iconst 1, 1) := by decide +kernel
theorem dX11_milesOf_23 : decode cX11_milesOf 23 = .ok (.iadd, 1) := by decide +kernel
theorem dX11_milesOf_24 : decode cX11_milesOf 24 = .ok (.iload_n 1, 1) := by decide +kernel
theorem dX11_milesOf_25 : decode cX11_milesOf 25 = .ok (.if_icmp .ne 7, 3) := by decide +kernel
theorem dX11_milesOf_28 : decode cX11_milesOf 28 = .ok (.iconst 0, 1) := by decide +kernel
theorem dX11_milesOf_29 : decode cX11_milesOf 29 = .ok (.goto 6, 3) := by decide +kernel
theorem dX11_milesOf_32 : decode cX11_milesOf 32 = .ok (.iload_n 3, 1) := by decide +kernel
theorem dX11_milesOf_33 : decode cX11_milesOf 33 = .ok (.iconst 1, 1) := by decide +kernel
theorem dX11_milesOf_34 : decode cX11_milesOf 34 = .ok (.iadd, 1) := by decide +kernel
theorem dX11_milesOf_35 : decode cX11_milesOf 35 = .ok (.iaload, 1) := by decide +kernel
theorem dX11_milesOf_36 : decode cX11_milesOf 36 = .ok (.invokevirtual 333, 3) := by decide +kernel
theorem dX11_milesOf_39 : decode cX11_milesOf 39 = .ok (.iadd, 1) := by decide +kernel
theorem dX11_milesOf_40 : decode cX11_milesOf 40 = .ok (.istore_n 2, 1) := by decide +kernel
theorem dX11_milesOf_41 : decode cX11_milesOf 41 = .ok (.iinc 3 1, 3) := by decide +kernel
theorem dX11_milesOf_44 : decode cX11_milesOf 44 = .ok (.goto (-40), 3) := by decide +kernel
theorem dX11_milesOf_47 : decode cX11_milesOf 47 = .ok (.iload_n 2, 1) := by decide +kernel
theorem dX11_milesOf_48 : decode cX11_milesOf 48 = .ok (.ireturn, 1) := by decide +kernel
theorem dX11_nextOrder_0 : decode cX11_nextOrder 0 = .ok (.iload_n 1, 1) := by decide +kernel
theorem dX11_nextOrder_1 : decode cX11_nextOrder 1 = .ok (.iconst 2, 1) := by decide +kernel
theorem dX11_nextOrder_2 : decode cX11_nextOrder 2 = .ok (.isub, 1) := by decide +kernel
theorem dX11_nextOrder_3 : decode cX11_nextOrder 3 = .ok (.istore_n 2, 1) := by decide +kernel
theorem dX11_nextOrder_4 : decode cX11_nextOrder 4 = .ok (.iload_n 2, 1) := by decide +kernel
theorem dX11_nextOrder_5 : decode cX11_nextOrder 5 = .ok (.iconst 1, 1) := by decide +kernel
theorem dX11_nextOrder_6 : decode cX11_nextOrder 6 = .ok (.if_icmp .lt 26, 3) := by decide +kernel
theorem dX11_nextOrder_9 : decode cX11_nextOrder 9 = .ok (.aload_n 0, 1) := by decide +kernel
theorem dX11_nextOrder_10 : decode cX11_nextOrder 10 = .ok (.getfield 65, 3) := by decide +kernel
theorem dX11_nextOrder_13 : decode cX11_nextOrder 13 = .ok (.iload_n 2, 1) := by decide +kernel
theorem dX11_nextOrder_14 : decode cX11_nextOrder 14 = .ok (.iaload, 1) := by decide +kernel
theorem dX11_nextOrder_15 : decode cX11_nextOrder 15 = .ok (.aload_n 0, 1) := by decide +kernel
theorem dX11_nextOrder_16 : decode cX11_nextOrder 16 = .ok (.getfield 65, 3) := by decide +kernel
theorem dX11_nextOrder_19 : decode cX11_nextOrder 19 = .ok (.iload_n 2, 1) := by decide +kernel
theorem dX11_nextOrder_20 : decode cX11_nextOrder 20 = .ok (.iconst 1, 1) := by decide +kernel
theorem dX11_nextOrder_21 : decode cX11_nextOrder 21 = .ok (.iadd, 1) := by decide +kernel
theorem dX11_nextOrder_22 : decode cX11_nextOrder 22 = .ok (.iaload, 1) := by decide +kernel
theorem dX11_nextOrder_23 : decode cX11_nextOrder 23 = .ok (.if_icmp .le 9, 3) := by decide +kernel
theorem dX11_nextOrder_26 : decode cX11_nextOrder 26 = .ok (.iinc 2 (-1), 3) := by decide +kernel
theorem dX11_nextOrder_29 : decode cX11_nextOrder 29 = .ok (.goto (-25), 3) := by decide +kernel
theorem dX11_nextOrder_32 : decode cX11_nextOrder 32 = .ok (.iload_n 2, 1) := by decide +kernel
theorem dX11_nextOrder_33 : decode cX11_nextOrder 33 = .ok (.iconst 1, 1) := by decide +kernel
theorem dX11_nextOrder_34 : decode cX11_nextOrder 34 = .ok (.if_icmp .ge 5, 3) := by decide +kernel
theorem dX11_nextOrder_37 : decode cX11_nextOrder 37 = .ok (.iconst 0, 1) := by decide +kernel
theorem dX11_nextOrder_38 : decode cX11_nextOrder 38 = .ok (.ireturn, 1) := by decide +kernel
theorem dX11_nextOrder_39 : decode cX11_nextOrder 39 = .ok (.iload_n 1, 1) := by decide +kernel
theorem dX11_nextOrder_40 : decode cX11_nextOrder 40 = .ok (.iconst 1, 1) := by decide +kernel
theorem dX11_nextOrder_41 : decode cX11_nextOrder 41 = .ok (.isub, 1) := by decide +kernel
theorem dX11_nextOrder_42 : decode cX11_nextOrder 42 = .ok (.istore_n 3, 1) := by decide +kernel
theorem dX11_nextOrder_43 : decode cX11_nextOrder 43 = .ok (.aload_n 0, 1) := by decide +kernel
theorem dX11_nextOrder_44 : decode cX11_nextOrder 44 = .ok (.getfield 65, 3) := by decide +kernel
theorem dX11_nextOrder_47 : decode cX11_nextOrder 47 = .ok (.iload_n 3, 1) := by decide +kernel
theorem dX11_nextOrder_48 : decode cX11_nextOrder 48 = .ok (.iaload, 1) := by decide +kernel
theorem dX11_nextOrder_49 : decode cX11_nextOrder 49 = .ok (.aload_n 0, 1) := by decide +kernel
theorem dX11_nextOrder_50 : decode cX11_nextOrder 50 = .ok (.getfield 65, 3) := by decide +kernel
theorem dX11_nextOrder_53 : decode cX11_nextOrder 53 = .ok (.iload_n 2, 1) := by decide +kernel
theorem dX11_nextOrder_54 : decode cX11_nextOrder 54 = .ok (.iaload, 1) := by decide +kernel
theorem dX11_nextOrder_55 : decode cX11_nextOrder 55 = .ok (.if_icmp .ge 9, 3) := by decide +kernel
theorem dX11_nextOrder_58 : decode cX11_nextOrder 58 = .ok (.iinc 3 (-1), 3) := by decide +kernel
theorem dX11_nextOrder_61 : decode cX11_nextOrder 61 = .ok (.goto (-18), 3) := by decide +kernel
theorem dX11_nextOrder_64 : decode cX11_nextOrder 64 = .ok (.aload_n 0, 1) := by decide +kernel
theorem dX11_nextOrder_65 : decode cX11_nextOrder 65 = .ok (.iload_n 2, 1) := by decide +kernel
theorem dX11_nextOrder_66 : decode cX11_nextOrder 66 = .ok (.iload_n 3, 1) := by decide +kernel
theorem dX11_nextOrder_67 : decode cX11_nextOrder 67 = .ok (.invokevirtual 368, 3) := by decide +kernel
theorem dX11_nextOrder_70 : decode cX11_nextOrder 70 = .ok (.iload_n 2, 1) := by decide +kernel
theorem dX11_nextOrder_71 : decode cX11_nextOrder 71 = .ok (.iconst 1, 1) := by decide +kernel
theorem dX11_nextOrder_72 : decode cX11_nextOrder 72 = .ok (.iadd, 1) := by decide +kernel
theorem dX11_nextOrder_73 : decode cX11_nextOrder 73 = .ok (.istore 4, 2) := by decide +kernel
theorem dX11_nextOrder_75 : decode cX11_nextOrder 75 = .ok (.iload_n 1, 1) := by decide +kernel
theorem dX11_nextOrder_76 : decode cX11_nextOrder 76 = .ok (.iconst 1, 1) := by decide +kernel
theorem dX11_nextOrder_77 : decode cX11_nextOrder 77 = .ok (.isub, 1) := by decide +kernel
theorem dX11_nextOrder_78 : decode cX11_nextOrder 78 = .ok (.istore 5, 2) := by decide +kernel
theorem dX11_nextOrder_80 : decode cX11_nextOrder 80 = .ok (.iload 4, 2) := by decide +kernel
theorem dX11_nextOrder_82 : decode cX11_nextOrder 82 = .ok (.iload 5, 2) := by decide +kernel
theorem dX11_nextOrder_84 : decode cX11_nextOrder 84 = .ok (.if_icmp .ge 20, 3) := by decide +kernel
theorem dX11_nextOrder_87 : decode cX11_nextOrder 87 = .ok (.aload_n 0, 1) := by decide +kernel
theorem dX11_nextOrder_88 : decode cX11_nextOrder 88 = .ok (.iload 4, 2) := by decide +kernel
theorem dX11_nextOrder_90 : decode cX11_nextOrder 90 = .ok (.iload 5, 2) := by decide +kernel
theorem dX11_nextOrder_92 : decode cX11_nextOrder 92 = .ok (.invokevirtual 368, 3) := by decide +kernel
theorem dX11_nextOrder_95 : decode cX11_nextOrder 95 = .ok (.iinc 4 1, 3) := by decide +kernel
theorem dX11_nextOrder_98 : decode cX11_nextOrder 98 = .ok (.iinc 5 (-1), 3) := by decide +kernel
theorem dX11_nextOrder_101 : decode cX11_nextOrder 101 = .ok (.goto (-21), 3) := by decide +kernel
theorem dX11_nextOrder_104 : decode cX11_nextOrder 104 = .ok (.iconst 1, 1) := by decide +kernel
theorem dX11_nextOrder_105 : decode cX11_nextOrder 105 = .ok (.ireturn, 1) := by decide +kernel
theorem dX11_exchange_0 : decode cX11_exchange 0 = .ok (.aload_n 0, 1) := by decide +kernel
theorem dX11_exchange_1 : decode cX11_exchange 1 = .ok (.getfield 65, 3) := by decide +kernel
theorem dX11_exchange_4 : decode cX11_exchange 4 = .ok (.iload_n 1, 1) := by decide +kernel
theorem dX11_exchange_5 : decode cX11_exchange 5 = .ok (.iaload, 1) := by decide +kernel
theorem dX11_exchange_6 : decode cX11_exchange 6 = .ok (.istore_n 3, 1) := by decide +kernel
theorem dX11_exchange_7 : decode cX11_exchange 7 = .ok (.aload_n 0, 1) := by decide +kernel
theorem dX11_exchange_8 : decode cX11_exchange 8 = .ok (.getfield 65, 3) := by decide +kernel
theorem dX11_exchange_11 : decode cX11_exchange 11 = .ok (.iload_n 1, 1) := by decide +kernel
theorem dX11_exchange_12 : decode cX11_exchange 12 = .ok (.aload_n 0, 1) := by decide +kernel
theorem dX11_exchange_13 : decode cX11_exchange 13 = .ok (.getfield 65, 3) := by decide +kernel
theorem dX11_exchange_16 : decode cX11_exchange 16 = .ok (.iload_n 2, 1) := by decide +kernel
theorem dX11_exchange_17 : decode cX11_exchange 17 = .ok (.iaload, 1) := by decide +kernel
theorem dX11_exchange_18 : decode cX11_exchange 18 = .ok (.iastore, 1) := by decide +kernel
theorem dX11_exchange_19 : decode cX11_exchange 19 = .ok (.aload_n 0, 1) := by decide +kernel
theorem dX11_exchange_20 : decode cX11_exchange 20 = .ok (.getfield 65, 3) := by decide +kernel
theorem dX11_exchange_23 : decode cX11_exchange 23 = .ok (.iload_n 2, 1) := by decide +kernel
theorem dX11_exchange_24 : decode cX11_exchange 24 = .ok (.iload_n 3, 1) := by decide +kernel
theorem dX11_exchange_25 : decode cX11_exchange 25 = .ok (.iastore, 1) := by decide +kernel
theorem dX11_exchange_26 : decode cX11_exchange 26 = .ok (.return_, 1) := by decide +kernel
theorem dX11_round_0 : decode cX11_round 0 = .ok (.iload_n 1, 1) := by decide +kernel
theorem dX11_round_1 : decode cX11_round 1 = .ok (.iconst 1, 1) := by decide +kernel
theorem dX11_round_2 : decode cX11_round 2 = .ok (.iconst 1, 1) := by decide +kernel
theorem dX11_round_3 : decode cX11_round 3 = .ok (.aload_n 0, 1) := by decide +kernel
theorem dX11_round_4 : decode cX11_round 4 = .ok (.getfield 7, 3) := by decide +kernel
theorem dX11_round_7 : decode cX11_round 7 = .ok (.iconst 0, 1) := by decide +kernel
theorem dX11_round_8 : decode cX11_round 8 = .ok (.iaload, 1) := by decide +kernel
theorem dX11_round_9 : decode cX11_round 9 = .ok (.ishl, 1) := by decide +kernel
theorem dX11_round_10 : decode cX11_round 10 = .ok (.iconst 1, 1) := by decide +kernel
theorem dX11_round_11 : decode cX11_round 11 = .ok (.isub, 1) := by decide +kernel
theorem dX11_round_12 : decode cX11_round 12 = .ok (.invokestatic 75, 3) := by decide +kernel
theorem dX11_round_15 : decode cX11_round 15 = .ok (.ifCond .eq 25, 3) := by decide +kernel
theorem dX11_round_18 : decode cX11_round 18 = .ok (.iload_n 1, 1) := by decide +kernel
theorem dX11_round_19 : decode cX11_round 19 = .ok (.invokestatic 303, 3) := by decide +kernel
theorem dX11_round_22 : decode cX11_round 22 = .ok (.bipush 8, 2) := by decide +kernel
theorem dX11_round_24 : decode cX11_round 24 = .ok (.if_icmp .gt 16, 3) := by decide +kernel
theorem dX11_round_27 : decode cX11_round 27 = .ok (.iload_n 2, 1) := by decide +kernel
theorem dX11_round_28 : decode cX11_round 28 = .ok (.iconst (-1), 1) := by decide +kernel
theorem dX11_round_29 : decode cX11_round 29 = .ok (.if_icmp .lt 11, 3) := by decide +kernel
theorem dX11_round_32 : decode cX11_round 32 = .ok (.iload_n 2, 1) := by decide +kernel
theorem dX11_round_33 : decode cX11_round 33 = .ok (.iload_n 1, 1) := by decide +kernel
theorem dX11_round_34 : decode cX11_round 34 = .ok (.invokestatic 303, 3) := by decide +kernel
theorem dX11_round_37 : decode cX11_round 37 = .ok (.if_icmp .lt 5, 3) := by decide +kernel
theorem dX11_round_40 : decode cX11_round 40 = .ok (.iconst (-1), 1) := by decide +kernel
theorem dX11_round_41 : decode cX11_round 41 = .ok (.ireturn, 1) := by decide +kernel
theorem dX11_round_42 : decode cX11_round 42 = .ok (.iconst 0, 1) := by decide +kernel
theorem dX11_round_43 : decode cX11_round 43 = .ok (.istore_n 3, 1) := by decide +kernel
theorem dX11_round_44 : decode cX11_round 44 = .ok (.iconst 0, 1) := by decide +kernel
theorem dX11_round_45 : decode cX11_round 45 = .ok (.istore 4, 2) := by decide +kernel
theorem dX11_round_47 : decode cX11_round 47 = .ok (.iload 4, 2) := by decide +kernel
theorem dX11_round_49 : decode cX11_round 49 = .ok (.aload_n 0, 1) := by decide +kernel
theorem dX11_round_50 : decode cX11_round 50 = .ok (.getfield 7, 3) := by decide +kernel
theorem dX11_round_53 : decode cX11_round 53 = .ok (.iconst 0, 1) := by decide +kernel
theorem dX11_round_54 : decode cX11_round 54 = .ok (.iaload, 1) := by decide +kernel
theorem dX11_round_55 : decode cX11_round 55 = .ok (.if_icmp .ge 32, 3) := by decide +kernel
theorem dX11_round_58 : decode cX11_round 58 = .ok (.iload_n 1, 1) := by decide +kernel
theorem dX11_round_59 : decode cX11_round 59 = .ok (.iload 4, 2) := by decide +kernel
theorem dX11_round_61 : decode cX11_round 61 = .ok (.ishr, 1) := by decide +kernel
theorem dX11_round_62 : decode cX11_round 62 = .ok (.iconst 1, 1) := by decide +kernel
theorem dX11_round_63 : decode cX11_round 63 = .ok (.iand, 1) := by decide +kernel
theorem dX11_round_64 : decode cX11_round 64 = .ok (.ifCond .ne 6, 3) := by decide +kernel
theorem dX11_round_67 : decode cX11_round 67 = .ok (.goto 14, 3) := by decide +kernel
theorem dX11_round_70 : decode cX11_round 70 = .ok (.aload_n 0, 1) := by decide +kernel
theorem dX11_round_71 : decode cX11_round 71 = .ok (.getfield 65, 3) := by decide +kernel
theorem dX11_round_74 : decode cX11_round 74 = .ok (.iload_n 3, 1) := by decide +kernel
theorem dX11_round_75 : decode cX11_round 75 = .ok (.iload 4, 2) := by decide +kernel
theorem dX11_round_77 : decode cX11_round 77 = .ok (.iastore, 1) := by decide +kernel
theorem dX11_round_78 : decode cX11_round 78 = .ok (.iinc 3 1, 3) := by decide +kernel
theorem dX11_round_81 : decode cX11_round 81 = .ok (.iinc 4 1, 3) := by decide +kernel
theorem dX11_round_84 : decode cX11_round 84 = .ok (.goto (-37), 3) := by decide +kernel
theorem dX11_round_87 : decode cX11_round 87 = .ok (.iconst (-1), 1) := by decide +kernel
theorem dX11_round_88 : decode cX11_round 88 = .ok (.istore 4, 2) := by decide +kernel
theorem dX11_round_90 : decode cX11_round 90 = .ok (.iconst 1, 1) := by decide +kernel
theorem dX11_round_91 : decode cX11_round 91 = .ok (.istore 5, 2) := by decide +kernel
theorem dX11_round_93 : decode cX11_round 93 = .ok (.iload 5, 2) := by decide +kernel
theorem dX11_round_95 : decode cX11_round 95 = .ok (.ifCond .eq 65, 3) := by decide +kernel
theorem dX11_round_98 : decode cX11_round 98 = .ok (.aload_n 0, 1) := by decide +kernel
theorem dX11_round_99 : decode cX11_round 99 = .ok (.iload_n 3, 1) := by decide +kernel
theorem dX11_round_100 : decode cX11_round 100 = .ok (.invokevirtual 371, 3) := by decide +kernel
theorem dX11_round_103 : decode cX11_round 103 = .ok (.istore 6, 2) := by decide +kernel
theorem dX11_round_105 : decode cX11_round 105 = .ok (.iload 4, 2) := by decide +kernel
theorem dX11_round_107 : decode cX11_round 107 = .ok (.ifCond .lt 10, 3) := by decide +kernel
theorem dX11_round_110 : decode cX11_round 110 = .ok (.iload 6, 2) := by decide +kernel
theorem dX11_round_112 : decode cX11_round 112 = .ok (.iload 4, 2) := by decide +kernel
theorem dX11_round_114 : decode cX11_round 114 = .ok (.if_icmp .ge 36, 3) := by decide +kernel
theorem dX11_round_117 : decode cX11_round 117 = .ok (.iload 6, 2) := by decide +kernel
theorem dX11_round_119 : decode cX11_round 119 = .ok (.istore 4, 2) := by decide +kernel
theorem dX11_round_121 : decode cX11_round 121 = .ok (.iconst 0, 1) := by decide +kernel
theorem dX11_round_122 : decode cX11_round 122 = .ok (.istore 7, 2) := by decide +kernel
theorem dX11_round_124 : decode cX11_round 124 = .ok (.iload 7, 2) := by decide +kernel
theorem dX11_round_126 : decode cX11_round 126 = .ok (.iload_n 3, 1) := by decide +kernel
theorem dX11_round_127 : decode cX11_round 127 = .ok (.if_icmp .ge 23, 3) := by decide +kernel
theorem dX11_round_130 : decode cX11_round 130 = .ok (.aload_n 0, 1) := by decide +kernel
theorem dX11_round_131 : decode cX11_round 131 = .ok (.getfield 68, 3) := by decide +kernel
theorem dX11_round_134 : decode cX11_round 134 = .ok (.iload 7, 2) := by decide +kernel
theorem dX11_round_136 : decode cX11_round 136 = .ok (.aload_n 0, 1) := by decide +kernel
theorem dX11_round_137 : decode cX11_round 137 = .ok (.getfield 65, 3) := by decide +kernel
theorem dX11_round_140 : decode cX11_round 140 = .ok (.iload 7, 2) := by decide +kernel
theorem dX11_round_142 : decode cX11_round 142 = .ok (.iaload, 1) := by decide +kernel
theorem dX11_round_143 : decode cX11_round 143 = .ok (.iastore, 1) := by decide +kernel
theorem dX11_round_144 : decode cX11_round 144 = .ok (.iinc 7 1, 3) := by decide +kernel
theorem dX11_round_147 : decode cX11_round 147 = .ok (.goto (-23), 3) := by decide +kernel
theorem dX11_round_150 : decode cX11_round 150 = .ok (.aload_n 0, 1) := by decide +kernel
theorem dX11_round_151 : decode cX11_round 151 = .ok (.iload_n 3, 1) := by decide +kernel
theorem dX11_round_152 : decode cX11_round 152 = .ok (.invokevirtual 374, 3) := by decide +kernel
theorem dX11_round_155 : decode cX11_round 155 = .ok (.istore 5, 2) := by decide +kernel
theorem dX11_round_157 : decode cX11_round 157 = .ok (.goto (-64), 3) := by decide +kernel
theorem dX11_round_160 : decode cX11_round 160 = .ok (.iload_n 2, 1) := by decide +kernel
theorem dX11_round_161 : decode cX11_round 161 = .ok (.iconst (-1), 1) := by decide +kernel
theorem dX11_round_162 : decode cX11_round 162 = .ok (.if_icmp .ne 8, 3) := by decide +kernel
theorem dX11_round_165 : decode cX11_round 165 = .ok (.iload 4, 2) := by decide +kernel
theorem dX11_round_167 : decode cX11_round 167 = .ok (.goto 9, 3) := by decide +kernel
theorem dX11_round_170 : decode cX11_round 170 = .ok (.aload_n 0, 1) := by decide +kernel
theorem dX11_round_171 : decode cX11_round 171 = .ok (.getfield 68, 3) := by decide +kernel
theorem dX11_round_174 : decode cX11_round 174 = .ok (.iload_n 2, 1) := by decide +kernel
theorem dX11_round_175 : decode cX11_round 175 = .ok (.iaload, 1) := by decide +kernel
theorem dX11_round_176 : decode cX11_round 176 = .ok (.ireturn, 1) := by decide +kernel
theorem dX11_draw_0 : decode cX11_draw 0 = .ok (.aload_n 0, 1) := by decide +kernel
theorem dX11_draw_1 : decode cX11_draw 1 = .ok (.getfield 377, 3) := by decide +kernel
theorem dX11_draw_4 : decode cX11_draw 4 = .ok (.iload_n 1, 1) := by decide +kernel
theorem dX11_draw_5 : decode cX11_draw 5 = .ok (.irem, 1) := by decide +kernel
theorem dX11_draw_6 : decode cX11_draw 6 = .ok (.istore_n 2, 1) := by decide +kernel
theorem dX11_draw_7 : decode cX11_draw 7 = .ok (.aload_n 0, 1) := by decide +kernel
theorem dX11_draw_8 : decode cX11_draw 8 = .ok (.aload_n 0, 1) := by decide +kernel
theorem dX11_draw_9 : decode cX11_draw 9 = .ok (.getfield 377, 3) := by decide +kernel
theorem dX11_draw_12 : decode cX11_draw 12 = .ok (.i2l, 1) := by decide +kernel
theorem dX11_draw_13 : decode cX11_draw 13 = .ok (.ldc2_w 380, 3) := by decide +kernel
theorem dX11_draw_16 : decode cX11_draw 16 = .ok (.lmul, 1) := by decide +kernel
theorem dX11_draw_17 : decode cX11_draw 17 = .ok (.ldc2_w 382, 3) := by decide +kernel
theorem dX11_draw_20 : decode cX11_draw 20 = .ok (.ladd, 1) := by decide +kernel
theorem dX11_draw_21 : decode cX11_draw 21 = .ok (.ldc2_w 384, 3) := by decide +kernel
theorem dX11_draw_24 : decode cX11_draw 24 = .ok (.lrem, 1) := by decide +kernel
theorem dX11_draw_25 : decode cX11_draw 25 = .ok (.l2i, 1) := by decide +kernel
theorem dX11_draw_26 : decode cX11_draw 26 = .ok (.putfield 377, 3) := by decide +kernel
theorem dX11_draw_29 : decode cX11_draw 29 = .ok (.iload_n 2, 1) := by decide +kernel
theorem dX11_draw_30 : decode cX11_draw 30 = .ok (.ireturn, 1) := by decide +kernel
theorem dX11_isHolyTown_0 : decode cX11_isHolyTown 0 = .ok (.iconst 0, 1) := by decide +kernel
theorem dX11_isHolyTown_1 : decode cX11_isHolyTown 1 = .ok (.istore_n 2, 1) := by decide +kernel
theorem dX11_isHolyTown_2 : decode cX11_isHolyTown 2 = .ok (.iload_n 2, 1) := by decide +kernel
theorem dX11_isHolyTown_3 : decode cX11_isHolyTown 3 = .ok (.aload_n 0, 1) := by decide +kernel
theorem dX11_isHolyTown_4 : decode cX11_isHolyTown 4 = .ok (.getfield 7, 3) := by decide +kernel
theorem dX11_isHolyTown_7 : decode cX11_isHolyTown 7 = .ok (.iconst 1, 1) := by decide +kernel
theorem dX11_isHolyTown_8 : decode cX11_isHolyTown 8 = .ok (.iaload, 1) := by decide +kernel
theorem dX11_isHolyTown_9 : decode cX11_isHolyTown 9 = .ok (.if_icmp .ge 34, 3) := by decide +kernel
theorem dX11_isHolyTown_12 : decode cX11_isHolyTown 12 = .ok (.aload_n 0, 1) := by decide +kernel
theorem dX11_isHolyTown_13 : decode cX11_isHolyTown 13 = .ok (.getfield 7, 3) := by decide +kernel
theorem dX11_isHolyTown_16 : decode cX11_isHolyTown 16 = .ok (.iload_n 2, 1) := by decide +kernel
theorem dX11_isHolyTown_17 : decode cX11_isHolyTown 17 = .ok (.invokestatic 87, 3) := by decide +kernel
theorem dX11_isHolyTown_20 : decode cX11_isHolyTown 20 = .ok (.iconst 3, 1) := by decide +kernel
theorem dX11_isHolyTown_21 : decode cX11_isHolyTown 21 = .ok (.iadd, 1) := by decide +kernel
theorem dX11_isHolyTown_22 : decode cX11_isHolyTown 22 = .ok (.iaload, 1) := by decide +kernel
theorem dX11_isHolyTown_23 : decode cX11_isHolyTown 23 = .ok (.iload_n 1, 1) := by decide +kernel
theorem dX11_isHolyTown_24 : decode cX11_isHolyTown 24 = .ok (.if_icmp .ne 13, 3) := by decide +kernel
theorem dX11_isHolyTown_27 : decode cX11_isHolyTown 27 = .ok (.aload_n 0, 1) := by decide +kernel
theorem dX11_isHolyTown_28 : decode cX11_isHolyTown 28 = .ok (.iload_n 2, 1) := by decide +kernel
theorem dX11_isHolyTown_29 : decode cX11_isHolyTown 29 = .ok (.invokevirtual 306, 3) := by decide +kernel
theorem dX11_isHolyTown_32 : decode cX11_isHolyTown 32 = .ok (.ifCond .eq 5, 3) := by decide +kernel
theorem dX11_isHolyTown_35 : decode cX11_isHolyTown 35 = .ok (.iconst 1, 1) := by decide +kernel
theorem dX11_isHolyTown_36 : decode cX11_isHolyTown 36 = .ok (.ireturn, 1) := by decide +kernel
theorem dX11_isHolyTown_37 : decode cX11_isHolyTown 37 = .ok (.iinc 2 1, 3) := by decide +kernel
theorem dX11_isHolyTown_40 : decode cX11_isHolyTown 40 = .ok (.goto (-38), 3) := by decide +kernel
theorem dX11_isHolyTown_43 : decode cX11_isHolyTown 43 = .ok (.iconst 0, 1) := by decide +kernel
theorem dX11_isHolyTown_44 : decode cX11_isHolyTown 44 = .ok (.ireturn, 1) := by decide +kernel
theorem dX11_pilgrims_0 : decode cX11_pilgrims 0 = .ok (.iload_n 1, 1) := by decide +kernel
theorem dX11_pilgrims_1 : decode cX11_pilgrims 1 = .ok (.iconst 0, 1) := by decide +kernel
theorem dX11_pilgrims_2 : decode cX11_pilgrims 2 = .ok (.sipush 9999, 3) := by decide +kernel
theorem dX11_pilgrims_5 : decode cX11_pilgrims 5 = .ok (.invokestatic 75, 3) := by decide +kernel
theorem dX11_pilgrims_8 : decode cX11_pilgrims 8 = .ok (.ifCond .eq 32, 3) := by decide +kernel
theorem dX11_pilgrims_11 : decode cX11_pilgrims 11 = .ok (.iload_n 2, 1) := by decide +kernel
theorem dX11_pilgrims_12 : decode cX11_pilgrims 12 = .ok (.iconst 1, 1) := by decide +kernel
theorem dX11_pilgrims_13 : decode cX11_pilgrims 13 = .ok (.bipush 99, 2) := by decide +kernel
theorem dX11_pilgrims_15 : decode cX11_pilgrims 15 = .ok (.invokestatic 75, 3) := by decide +kernel
theorem dX11_pilgrims_18 : decode cX11_pilgrims 18 = .ok (.ifCond .eq 22, 3) := by decide +kernel
theorem dX11_pilgrims_21 : decode cX11_pilgrims 21 = .ok (.iload_n 3, 1) := by decide +kernel
theorem dX11_pilgrims_22 : decode cX11_pilgrims 22 = .ok (.iconst 0, 1) := by decide +kernel
theorem dX11_pilgrims_23 : decode cX11_pilgrims 23 = .ok (.bipush 6, 2) := by decide +kernel
theorem dX11_pilgrims_25 : decode cX11_pilgrims 25 = .ok (.invokestatic 75, 3) := by decide +kernel
theorem dX11_pilgrims_28 : decode cX11_pilgrims 28 = .ok (.ifCond .eq 12, 3) := by decide +kernel
theorem dX11_pilgrims_31 : decode cX11_pilgrims 31 = .ok (.aload_n 0, 1) := by decide +kernel
theorem dX11_pilgrims_32 : decode cX11_pilgrims 32 = .ok (.iload 4, 2) := by decide +kernel
theorem dX11_pilgrims_34 : decode cX11_pilgrims 34 = .ok (.invokevirtual 83, 3) := by decide +kernel
theorem dX11_pilgrims_37 : decode cX11_pilgrims 37 = .ok (.ifCond .ne 5, 3) := by decide +kernel
theorem dX11_pilgrims_40 : decode cX11_pilgrims 40 = .ok (.iconst (-1), 1) := by decide +kernel
theorem dX11_pilgrims_41 : decode cX11_pilgrims 41 = .ok (.ireturn, 1) := by decide +kernel
theorem dX11_pilgrims_42 : decode cX11_pilgrims 42 = .ok (.aload_n 0, 1) := by decide +kernel
theorem dX11_pilgrims_43 : decode cX11_pilgrims 43 = .ok (.iload_n 1, 1) := by decide +kernel
theorem dX11_pilgrims_44 : decode cX11_pilgrims 44 = .ok (.bipush 7, 2) := by decide +kernel
theorem dX11_pilgrims_46 : decode cX11_pilgrims 46 = .ok (.imul, 1) := by decide +kernel
theorem dX11_pilgrims_47 : decode cX11_pilgrims 47 = .ok (.bipush 15, 2) := by decide +kernel
theorem dX11_pilgrims_49 : decode cX11_pilgrims 49 = .ok (.iadd, 1) := by decide +kernel
theorem dX11_pilgrims_50 : decode cX11_pilgrims 50 = .ok (.putfield 377, 3) := by decide +kernel
theorem dX11_pilgrims_53 : decode cX11_pilgrims 53 = .ok (.iconst 0, 1) := by decide +kernel
theorem dX11_pilgrims_54 : decode cX11_pilgrims 54 = .ok (.istore 5, 2) := by decide +kernel
theorem dX11_pilgrims_56 : decode cX11_pilgrims 56 = .ok (.iconst 0, 1) := by decide +kernel
theorem dX11_pilgrims_57 : decode cX11_pilgrims 57 = .ok (.istore 6, 2) := by decide +kernel
theorem dX11_pilgrims_59 : decode cX11_pilgrims 59 = .ok (.iload 6, 2) := by decide +kernel
theorem dX11_pilgrims_61 : decode cX11_pilgrims 61 = .ok (.iload_n 2, 1) := by decide +kernel
theorem dX11_pilgrims_62 : decode cX11_pilgrims 62 = .ok (.if_icmp .ge 50, 3) := by decide +kernel
theorem dX11_pilgrims_65 : decode cX11_pilgrims 65 = .ok (.aload_n 0, 1) := by decide +kernel
theorem dX11_pilgrims_66 : decode cX11_pilgrims 66 = .ok (.aload_n 0, 1) := by decide +kernel
theorem dX11_pilgrims_67 : decode cX11_pilgrims 67 = .ok (.getfield 7, 3) := by decide +kernel
theorem dX11_pilgrims_70 : decode cX11_pilgrims 70 = .ok (.iconst 0, 1) := by decide +kernel
theorem dX11_pilgrims_71 : decode cX11_pilgrims 71 = .ok (.iaload, 1) := by decide +kernel
theorem dX11_pilgrims_72 : decode cX11_pilgrims 72 = .ok (.invokevirtual 386, 3) := by decide +kernel
theorem dX11_pilgrims_75 : decode cX11_pilgrims 75 = .ok (.istore 7, 2) := by decide +kernel
theorem dX11_pilgrims_77 : decode cX11_pilgrims 77 = .ok (.aload_n 0, 1) := by decide +kernel
theorem dX11_pilgrims_78 : decode cX11_pilgrims 78 = .ok (.iload 7, 2) := by decide +kernel
theorem dX11_pilgrims_80 : decode cX11_pilgrims 80 = .ok (.invokevirtual 389, 3) := by decide +kernel
theorem dX11_pilgrims_83 : decode cX11_pilgrims 83 = .ok (.ifCond .eq 23, 3) := by decide +kernel
theorem dX11_pilgrims_86 : decode cX11_pilgrims 86 = .ok (.aload_n 0, 1) := by decide +kernel
theorem dX11_pilgrims_87 : decode cX11_pilgrims 87 = .ok (.bipush 6, 2) := by decide +kernel
theorem dX11_pilgrims_89 : decode cX11_pilgrims 89 = .ok (.invokevirtual 386, 3) := by decide +kernel
theorem dX11_pilgrims_92 : decode cX11_pilgrims 92 = .ok (.iload_n 3, 1) := by decide +kernel
theorem dX11_pilgrims_93 : decode cX11_pilgrims 93 = .ok (.if_icmp .ge 13, 3) := by decide +kernel
theorem dX11_pilgrims_96 : decode cX11_pilgrims 96 = .ok (.iload 7, 2) := by decide +kernel
theorem dX11_pilgrims_98 : decode cX11_pilgrims 98 = .ok (.iload 4, 2) := by decide +kernel
theorem dX11_pilgrims_100 : decode cX11_pilgrims 100 = .ok (.if_icmp .ne 6, 3) := by decide +kernel
theorem dX11_pilgrims_103 : decode cX11_pilgrims 103 = .ok (.iinc 5 1, 3) := by decide +kernel
theorem dX11_pilgrims_106 : decode cX11_pilgrims 106 = .ok (.iinc 6 1, 3) := by decide +kernel
theorem dX11_pilgrims_109 : decode cX11_pilgrims 109 = .ok (.goto (-50), 3) := by decide +kernel
theorem dX11_pilgrims_112 : decode cX11_pilgrims 112 = .ok (.iload 5, 2) := by decide +kernel
theorem dX11_pilgrims_114 : decode cX11_pilgrims 114 = .ok (.ireturn, 1) := by decide +kernel
theorem dX11_image_0 : decode cX11_image 0 = .ok (.aload_n 0, 1) := by decide +kernel
theorem dX11_image_1 : decode cX11_image 1 = .ok (.getfield 7, 3) := by decide +kernel
theorem dX11_image_4 : decode cX11_image 4 = .ok (.aload_n 0, 1) := by decide +kernel
theorem dX11_image_5 : decode cX11_image 5 = .ok (.getfield 13, 3) := by decide +kernel
theorem dX11_image_8 : decode cX11_image 8 = .ok (.invokestatic 71, 3) := by decide +kernel
theorem dX11_image_11 : decode cX11_image 11 = .ok (.aload_n 0, 1) := by decide +kernel
theorem dX11_image_12 : decode cX11_image 12 = .ok (.getfield 7, 3) := by decide +kernel
theorem dX11_image_15 : decode cX11_image 15 = .ok (.iconst 2, 1) := by decide +kernel
theorem dX11_image_16 : decode cX11_image 16 = .ok (.iaload, 1) := by decide +kernel
theorem dX11_image_17 : decode cX11_image 17 = .ok (.ireturn, 1) := by decide +kernel
theorem dX11_back_0 : decode cX11_back 0 = .ok (.aload_n 0, 1) := by decide +kernel
theorem dX11_back_1 : decode cX11_back 1 = .ok (.getfield 13, 3) := by decide +kernel
theorem dX11_back_4 : decode cX11_back 4 = .ok (.aload_n 0, 1) := by decide +kernel
theorem dX11_back_5 : decode cX11_back 5 = .ok (.getfield 7, 3) := by decide +kernel
theorem dX11_back_8 : decode cX11_back 8 = .ok (.invokestatic 71, 3) := by decide +kernel
theorem dX11_back_11 : decode cX11_back 11 = .ok (.aload_n 0, 1) := by decide +kernel
theorem dX11_back_12 : decode cX11_back 12 = .ok (.getfield 7, 3) := by decide +kernel
theorem dX11_back_15 : decode cX11_back 15 = .ok (.iconst 2, 1) := by decide +kernel
theorem dX11_back_16 : decode cX11_back 16 = .ok (.iaload, 1) := by decide +kernel
theorem dX11_back_17 : decode cX11_back 17 = .ok (.ireturn, 1) := by decide +kernel
theorem dX11_bonesAt_0 : decode cX11_bonesAt 0 = .ok (.iconst 0, 1) := by decide +kernel
theorem dX11_bonesAt_1 : decode cX11_bonesAt 1 = .ok (.istore_n 2, 1) := by decide +kernel
theorem dX11_bonesAt_2 : decode cX11_bonesAt 2 = .ok (.iconst 0, 1) := by decide +kernel
theorem dX11_bonesAt_3 : decode cX11_bonesAt 3 = .ok (.istore_n 3, 1) := by decide +kernel
theorem dX11_bonesAt_4 : decode cX11_bonesAt 4 = .ok (.iload_n 3, 1) := by decide +kernel
theorem dX11_bonesAt_5 : decode cX11_bonesAt 5 = .ok (.aload_n 0, 1) := by decide +kernel
theorem dX11_bonesAt_6 : decode cX11_bonesAt 6 = .ok (.getfield 7, 3) := by decide +kernel
theorem dX11_bonesAt_9 : decode cX11_bonesAt 9 = .ok (.iconst 1, 1) := by decide +kernel
theorem dX11_bonesAt_10 : decode cX11_bonesAt 10 = .ok (.iaload, 1) := by decide +kernel
theorem dX11_bonesAt_11 : decode cX11_bonesAt 11 = .ok (.if_icmp .ge 32, 3) := by decide +kernel
theorem dX11_bonesAt_14 : decode cX11_bonesAt 14 = .ok (.iload_n 2, 1) := by decide +kernel
theorem dX11_bonesAt_15 : decode cX11_bonesAt 15 = .ok (.aload_n 0, 1) := by decide +kernel
theorem dX11_bonesAt_16 : decode cX11_bonesAt 16 = .ok (.getfield 7, 3) := by decide +kernel
theorem dX11_bonesAt_19 : decode cX11_bonesAt 19 = .ok (.iload_n 3, 1) := by decide +kernel
theorem dX11_bonesAt_20 : decode cX11_bonesAt 20 = .ok (.invokestatic 87, 3) := by decide +kernel
theorem dX11_bonesAt_23 : decode cX11_bonesAt 23 = .ok (.iconst 3, 1) := by decide +kernel
theorem dX11_bonesAt_24 : decode cX11_bonesAt 24 = .ok (.iadd, 1) := by decide +kernel
theorem dX11_bonesAt_25 : decode cX11_bonesAt 25 = .ok (.iaload, 1) := by decide +kernel
theorem dX11_bonesAt_26 : decode cX11_bonesAt 26 = .ok (.iload_n 1, 1) := by decide +kernel
theorem dX11_bonesAt_27 : decode cX11_bonesAt 27 = .ok (.if_icmp .ne 7, 3) := by decide +kernel
theorem dX11_bonesAt_30 : decode cX11_bonesAt 30 = .ok (.iconst 1, 1) := by decide +kernel
theorem dX11_bonesAt_31 : decode cX11_bonesAt 31 = .ok (.goto 4, 3) := by decide +kernel
theorem dX11_bonesAt_34 : decode cX11_bonesAt 34 = .ok (.iconst 0, 1) := by decide +kernel
theorem dX11_bonesAt_35 : decode cX11_bonesAt 35 = .ok (.iadd, 1) := by decide +kernel
theorem dX11_bonesAt_36 : decode cX11_bonesAt 36 = .ok (.istore_n 2, 1) := by decide +kernel
theorem dX11_bonesAt_37 : decode cX11_bonesAt 37 = .ok (.iinc 3 1, 3) := by decide +kernel
theorem dX11_bonesAt_40 : decode cX11_bonesAt 40 = .ok (.goto (-36), 3) := by decide +kernel
theorem dX11_bonesAt_43 : decode cX11_bonesAt 43 = .ok (.iload_n 2, 1) := by decide +kernel
theorem dX11_bonesAt_44 : decode cX11_bonesAt 44 = .ok (.ireturn, 1) := by decide +kernel
theorem dX11_about_0 : decode cX11_about 0 = .ok (.iload_n 1, 1) := by decide +kernel
theorem dX11_about_1 : decode cX11_about 1 = .ok (.bipush 10, 2) := by decide +kernel
theorem dX11_about_3 : decode cX11_about 3 = .ok (.bipush 9, 2) := by decide +kernel
theorem dX11_about_5 : decode cX11_about 5 = .ok (.aload_n 0, 1) := by decide +kernel
theorem dX11_about_6 : decode cX11_about 6 = .ok (.getfield 7, 3) := by decide +kernel
theorem dX11_about_9 : decode cX11_about 9 = .ok (.iconst 0, 1) := by decide +kernel
theorem dX11_about_10 : decode cX11_about 10 = .ok (.iaload, 1) := by decide +kernel
theorem dX11_about_11 : decode cX11_about 11 = .ok (.iadd, 1) := by decide +kernel
theorem dX11_about_12 : decode cX11_about 12 = .ok (.invokestatic 75, 3) := by decide +kernel
theorem dX11_about_15 : decode cX11_about 15 = .ok (.ifCond .eq 12, 3) := by decide +kernel
theorem dX11_about_18 : decode cX11_about 18 = .ok (.aload_n 0, 1) := by decide +kernel
theorem dX11_about_19 : decode cX11_about 19 = .ok (.iload_n 1, 1) := by decide +kernel
theorem dX11_about_20 : decode cX11_about 20 = .ok (.bipush 10, 2) := by decide +kernel
theorem dX11_about_22 : decode cX11_about 22 = .ok (.isub, 1) := by decide +kernel
theorem dX11_about_23 : decode cX11_about 23 = .ok (.invokevirtual 97, 3) := by decide +kernel
theorem dX11_about_26 : decode cX11_about 26 = .ok (.ireturn, 1) := by decide +kernel
theorem dX11_about_27 : decode cX11_about 27 = .ok (.iload_n 1, 1) := by decide +kernel
theorem dX11_about_28 : decode cX11_about 28 = .ok (.bipush 20, 2) := by decide +kernel
theorem dX11_about_30 : decode cX11_about 30 = .ok (.bipush 19, 2) := by decide +kernel
theorem dX11_about_32 : decode cX11_about 32 = .ok (.aload_n 0, 1) := by decide +kernel
theorem dX11_about_33 : decode cX11_about 33 = .ok (.getfield 7, 3) := by decide +kernel
theorem dX11_about_36 : decode cX11_about 36 = .ok (.iconst 0, 1) := by decide +kernel
theorem dX11_about_37 : decode cX11_about 37 = .ok (.iaload, 1) := by decide +kernel
theorem dX11_about_38 : decode cX11_about 38 = .ok (.iadd, 1) := by decide +kernel
theorem dX11_about_39 : decode cX11_about 39 = .ok (.invokestatic 75, 3) := by decide +kernel
theorem dX11_about_42 : decode cX11_about 42 = .ok (.ifCond .eq 12, 3) := by decide +kernel
theorem dX11_about_45 : decode cX11_about 45 = .ok (.aload_n 0, 1) := by decide +kernel
theorem dX11_about_46 : decode cX11_about 46 = .ok (.iload_n 1, 1) := by decide +kernel
theorem dX11_about_47 : decode cX11_about 47 = .ok (.bipush 20, 2) := by decide +kernel
theorem dX11_about_49 : decode cX11_about 49 = .ok (.isub, 1) := by decide +kernel
theorem dX11_about_50 : decode cX11_about 50 = .ok (.invokevirtual 392, 3) := by decide +kernel
theorem dX11_about_53 : decode cX11_about 53 = .ok (.ireturn, 1) := by decide +kernel
theorem dX11_about_54 : decode cX11_about 54 = .ok (.iload_n 1, 1) := by decide +kernel
theorem dX11_about_55 : decode cX11_about 55 = .ok (.tableswitch 65 0 9 #[53, 53, 53, 53, 53, 53, 53, 53, 53, 60], 53) := by decide +kernel
theorem dX11_about_108 : decode cX11_about 108 = .ok (.aload_n 0, 1) := by decide +kernel
theorem dX11_about_109 : decode cX11_about 109 = .ok (.getfield 7, 3) := by decide +kernel
theorem dX11_about_112 : decode cX11_about 112 = .ok (.iload_n 1, 1) := by decide +kernel
theorem dX11_about_113 : decode cX11_about 113 = .ok (.iaload, 1) := by decide +kernel
theorem dX11_about_114 : decode cX11_about 114 = .ok (.ireturn, 1) := by decide +kernel
theorem dX11_about_115 : decode cX11_about 115 = .ok (.aload_n 0, 1) := by decide +kernel
theorem dX11_about_116 : decode cX11_about 116 = .ok (.getfield 114, 3) := by decide +kernel
theorem dX11_about_119 : decode cX11_about 119 = .ok (.ireturn, 1) := by decide +kernel
theorem dX11_about_120 : decode cX11_about 120 = .ok (.bipush (-2), 2) := by decide +kernel
theorem dX11_about_122 : decode cX11_about 122 = .ok (.ireturn, 1) := by decide +kernel
