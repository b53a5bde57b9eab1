theorem d_R_init_0 : decode b_R_init 0 = .ok (.aload_n 0, 1) := by decide +kernel
theorem d_R_init_1 : decode b_R_init 1 = .ok (.invokespecial 1, 3) := by decide +kernel
theorem d_R_init_4 : decode b_R_init 4 = .ok (.aload_n 0, 1) := by decide +kernel
theorem d_R_init_5 : decode b_R_init 5 = .ok (.iconst 1, 1) := by decide +kernel
theorem d_R_init_6 : decode b_R_init 6 = .ok (.putfield 7, 3) := by decide +kernel
theorem d_R_init_9 : decode b_R_init 9 = .ok (.aload_n 0, 1) := by decide +kernel
theorem d_R_init_10 : decode b_R_init 10 = .ok (.bipush 12, 2) := by decide +kernel
theorem d_R_init_12 : decode b_R_init 12 = .ok (.newarray .int, 2) := by decide +kernel
theorem d_R_init_14 : decode b_R_init 14 = .ok (.putfield 13, 3) := by decide +kernel
theorem d_R_init_17 : decode b_R_init 17 = .ok (.aload_n 0, 1) := by decide +kernel
theorem d_R_init_18 : decode b_R_init 18 = .ok (.bipush 12, 2) := by decide +kernel
theorem d_R_init_20 : decode b_R_init 20 = .ok (.newarray .boolean, 2) := by decide +kernel
theorem d_R_init_22 : decode b_R_init 22 = .ok (.putfield 17, 3) := by decide +kernel
theorem d_R_init_25 : decode b_R_init 25 = .ok (.aload_n 0, 1) := by decide +kernel
theorem d_R_init_26 : decode b_R_init 26 = .ok (.bipush 12, 2) := by decide +kernel
theorem d_R_init_28 : decode b_R_init 28 = .ok (.newarray .int, 2) := by decide +kernel
theorem d_R_init_30 : decode b_R_init 30 = .ok (.putfield 21, 3) := by decide +kernel
theorem d_R_init_33 : decode b_R_init 33 = .ok (.aload_n 0, 1) := by decide +kernel
theorem d_R_init_34 : decode b_R_init 34 = .ok (.sipush 576, 3) := by decide +kernel
theorem d_R_init_37 : decode b_R_init 37 = .ok (.newarray .int, 2) := by decide +kernel
theorem d_R_init_39 : decode b_R_init 39 = .ok (.putfield 24, 3) := by decide +kernel
theorem d_R_init_42 : decode b_R_init 42 = .ok (.aload_n 0, 1) := by decide +kernel
theorem d_R_init_43 : decode b_R_init 43 = .ok (.bipush 12, 2) := by decide +kernel
theorem d_R_init_45 : decode b_R_init 45 = .ok (.newarray .int, 2) := by decide +kernel
theorem d_R_init_47 : decode b_R_init 47 = .ok (.putfield 27, 3) := by decide +kernel
theorem d_R_init_50 : decode b_R_init 50 = .ok (.aload_n 0, 1) := by decide +kernel
theorem d_R_init_51 : decode b_R_init 51 = .ok (.bipush 48, 2) := by decide +kernel
theorem d_R_init_53 : decode b_R_init 53 = .ok (.newarray .int, 2) := by decide +kernel
theorem d_R_init_55 : decode b_R_init 55 = .ok (.putfield 30, 3) := by decide +kernel
theorem d_R_init_58 : decode b_R_init 58 = .ok (.aload_n 0, 1) := by decide +kernel
theorem d_R_init_59 : decode b_R_init 59 = .ok (.bipush 12, 2) := by decide +kernel
theorem d_R_init_61 : decode b_R_init 61 = .ok (.newarray .int, 2) := by decide +kernel
theorem d_R_init_63 : decode b_R_init 63 = .ok (.putfield 33, 3) := by decide +kernel
theorem d_R_init_66 : decode b_R_init 66 = .ok (.aload_n 0, 1) := by decide +kernel
theorem d_R_init_67 : decode b_R_init 67 = .ok (.bipush 12, 2) := by decide +kernel
theorem d_R_init_69 : decode b_R_init 69 = .ok (.newarray .int, 2) := by decide +kernel
theorem d_R_init_71 : decode b_R_init 71 = .ok (.putfield 36, 3) := by decide +kernel
theorem d_R_init_74 : decode b_R_init 74 = .ok (.aload_n 0, 1) := by decide +kernel
theorem d_R_init_75 : decode b_R_init 75 = .ok (.sipush 144, 3) := by decide +kernel
theorem d_R_init_78 : decode b_R_init 78 = .ok (.newarray .int, 2) := by decide +kernel
theorem d_R_init_80 : decode b_R_init 80 = .ok (.putfield 39, 3) := by decide +kernel
theorem d_R_init_83 : decode b_R_init 83 = .ok (.aload_n 0, 1) := by decide +kernel
theorem d_R_init_84 : decode b_R_init 84 = .ok (.bipush 12, 2) := by decide +kernel
theorem d_R_init_86 : decode b_R_init 86 = .ok (.newarray .int, 2) := by decide +kernel
theorem d_R_init_88 : decode b_R_init 88 = .ok (.putfield 42, 3) := by decide +kernel
theorem d_R_init_91 : decode b_R_init 91 = .ok (.aload_n 0, 1) := by decide +kernel
theorem d_R_init_92 : decode b_R_init 92 = .ok (.bipush 12, 2) := by decide +kernel
theorem d_R_init_94 : decode b_R_init 94 = .ok (.newarray .int, 2) := by decide +kernel
theorem d_R_init_96 : decode b_R_init 96 = .ok (.putfield 45, 3) := by decide +kernel
theorem d_R_init_99 : decode b_R_init 99 = .ok (.aload_n 0, 1) := by decide +kernel
theorem d_R_init_100 : decode b_R_init 100 = .ok (.bipush 12, 2) := by decide +kernel
theorem d_R_init_102 : decode b_R_init 102 = .ok (.newarray .int, 2) := by decide +kernel
theorem d_R_init_104 : decode b_R_init 104 = .ok (.putfield 48, 3) := by decide +kernel
theorem d_R_init_107 : decode b_R_init 107 = .ok (.aload_n 0, 1) := by decide +kernel
theorem d_R_init_108 : decode b_R_init 108 = .ok (.sipush 144, 3) := by decide +kernel
theorem d_R_init_111 : decode b_R_init 111 = .ok (.newarray .int, 2) := by decide +kernel
theorem d_R_init_113 : decode b_R_init 113 = .ok (.putfield 51, 3) := by decide +kernel
theorem d_R_init_116 : decode b_R_init 116 = .ok (.aload_n 0, 1) := by decide +kernel
theorem d_R_init_117 : decode b_R_init 117 = .ok (.bipush 12, 2) := by decide +kernel
theorem d_R_init_119 : decode b_R_init 119 = .ok (.newarray .int, 2) := by decide +kernel
theorem d_R_init_121 : decode b_R_init 121 = .ok (.putfield 54, 3) := by decide +kernel
theorem d_R_init_124 : decode b_R_init 124 = .ok (.aload_n 0, 1) := by decide +kernel
theorem d_R_init_125 : decode b_R_init 125 = .ok (.bipush 12, 2) := by decide +kernel
theorem d_R_init_127 : decode b_R_init 127 = .ok (.newarray .int, 2) := by decide +kernel
theorem d_R_init_129 : decode b_R_init 129 = .ok (.putfield 57, 3) := by decide +kernel
theorem d_R_init_132 : decode b_R_init 132 = .ok (.aload_n 0, 1) := by decide +kernel
theorem d_R_init_133 : decode b_R_init 133 = .ok (.sipush 384, 3) := by decide +kernel
theorem d_R_init_136 : decode b_R_init 136 = .ok (.newarray .int, 2) := by decide +kernel
theorem d_R_init_138 : decode b_R_init 138 = .ok (.putfield 60, 3) := by decide +kernel
theorem d_R_init_141 : decode b_R_init 141 = .ok (.aload_n 0, 1) := by decide +kernel
theorem d_R_init_142 : decode b_R_init 142 = .ok (.sipush 768, 3) := by decide +kernel
theorem d_R_init_145 : decode b_R_init 145 = .ok (.newarray .int, 2) := by decide +kernel
theorem d_R_init_147 : decode b_R_init 147 = .ok (.putfield 63, 3) := by decide +kernel
theorem d_R_init_150 : decode b_R_init 150 = .ok (.aload_n 0, 1) := by decide +kernel
theorem d_R_init_151 : decode b_R_init 151 = .ok (.bipush 32, 2) := by decide +kernel
theorem d_R_init_153 : decode b_R_init 153 = .ok (.newarray .boolean, 2) := by decide +kernel
theorem d_R_init_155 : decode b_R_init 155 = .ok (.putfield 66, 3) := by decide +kernel
theorem d_R_init_158 : decode b_R_init 158 = .ok (.aload_n 0, 1) := by decide +kernel
theorem d_R_init_159 : decode b_R_init 159 = .ok (.iload_n 1, 1) := by decide +kernel
theorem d_R_init_160 : decode b_R_init 160 = .ok (.iconst 1, 1) := by decide +kernel
theorem d_R_init_161 : decode b_R_init 161 = .ok (.if_icmp .ge 7, 3) := by decide +kernel
theorem d_R_init_164 : decode b_R_init 164 = .ok (.iconst 1, 1) := by decide +kernel
theorem d_R_init_165 : decode b_R_init 165 = .ok (.goto 15, 3) := by decide +kernel
theorem d_R_init_168 : decode b_R_init 168 = .ok (.iload_n 1, 1) := by decide +kernel
theorem d_R_init_169 : decode b_R_init 169 = .ok (.bipush 6, 2) := by decide +kernel
theorem d_R_init_171 : decode b_R_init 171 = .ok (.if_icmp .le 8, 3) := by decide +kernel
theorem d_R_init_174 : decode b_R_init 174 = .ok (.bipush 6, 2) := by decide +kernel
theorem d_R_init_176 : decode b_R_init 176 = .ok (.goto 4, 3) := by decide +kernel
theorem d_R_init_179 : decode b_R_init 179 = .ok (.iload_n 1, 1) := by decide +kernel
theorem d_R_init_180 : decode b_R_init 180 = .ok (.putfield 69, 3) := by decide +kernel
theorem d_R_init_183 : decode b_R_init 183 = .ok (.aload_n 0, 1) := by decide +kernel
theorem d_R_init_184 : decode b_R_init 184 = .ok (.iload_n 2, 1) := by decide +kernel
theorem d_R_init_185 : decode b_R_init 185 = .ok (.iconst 2, 1) := by decide +kernel
theorem d_R_init_186 : decode b_R_init 186 = .ok (.if_icmp .ge 7, 3) := by decide +kernel
theorem d_R_init_189 : decode b_R_init 189 = .ok (.iconst 2, 1) := by decide +kernel
theorem d_R_init_190 : decode b_R_init 190 = .ok (.goto 15, 3) := by decide +kernel
theorem d_R_init_193 : decode b_R_init 193 = .ok (.iload_n 2, 1) := by decide +kernel
theorem d_R_init_194 : decode b_R_init 194 = .ok (.bipush 16, 2) := by decide +kernel
theorem d_R_init_196 : decode b_R_init 196 = .ok (.if_icmp .le 8, 3) := by decide +kernel
theorem d_R_init_199 : decode b_R_init 199 = .ok (.bipush 16, 2) := by decide +kernel
theorem d_R_init_201 : decode b_R_init 201 = .ok (.goto 4, 3) := by decide +kernel
theorem d_R_init_204 : decode b_R_init 204 = .ok (.iload_n 2, 1) := by decide +kernel
theorem d_R_init_205 : decode b_R_init 205 = .ok (.putfield 72, 3) := by decide +kernel
theorem d_R_init_208 : decode b_R_init 208 = .ok (.return_, 1) := by decide +kernel
theorem d_R_isNode_0 : decode b_R_isNode 0 = .ok (.iload_n 1, 1) := by decide +kernel
theorem d_R_isNode_1 : decode b_R_isNode 1 = .ok (.ifCond .lt 15, 3) := by decide +kernel
theorem d_R_isNode_4 : decode b_R_isNode 4 = .ok (.iload_n 1, 1) := by decide +kernel
theorem d_R_isNode_5 : decode b_R_isNode 5 = .ok (.aload_n 0, 1) := by decide +kernel
theorem d_R_isNode_6 : decode b_R_isNode 6 = .ok (.getfield 7, 3) := by decide +kernel
theorem d_R_isNode_9 : decode b_R_isNode 9 = .ok (.if_icmp .ge 7, 3) := by decide +kernel
theorem d_R_isNode_12 : decode b_R_isNode 12 = .ok (.iconst 1, 1) := by decide +kernel
theorem d_R_isNode_13 : decode b_R_isNode 13 = .ok (.goto 4, 3) := by decide +kernel
theorem d_R_isNode_16 : decode b_R_isNode 16 = .ok (.iconst 0, 1) := by decide +kernel
theorem d_R_isNode_17 : decode b_R_isNode 17 = .ok (.ireturn, 1) := by decide +kernel
theorem d_R_leafNode_0 : decode b_R_leafNode 0 = .ok (.aload_n 0, 1) := by decide +kernel
theorem d_R_leafNode_1 : decode b_R_leafNode 1 = .ok (.iload_n 1, 1) := by decide +kernel
theorem d_R_leafNode_2 : decode b_R_leafNode 2 = .ok (.invokevirtual 75, 3) := by decide +kernel
theorem d_R_leafNode_5 : decode b_R_leafNode 5 = .ok (.ifCond .eq 16, 3) := by decide +kernel
theorem d_R_leafNode_8 : decode b_R_leafNode 8 = .ok (.aload_n 0, 1) := by decide +kernel
theorem d_R_leafNode_9 : decode b_R_leafNode 9 = .ok (.getfield 17, 3) := by decide +kernel
theorem d_R_leafNode_12 : decode b_R_leafNode 12 = .ok (.iload_n 1, 1) := by decide +kernel
theorem d_R_leafNode_13 : decode b_R_leafNode 13 = .ok (.baload, 1) := by decide +kernel
theorem d_R_leafNode_14 : decode b_R_leafNode 14 = .ok (.ifCond .eq 7, 3) := by decide +kernel
theorem d_R_leafNode_17 : decode b_R_leafNode 17 = .ok (.iconst 1, 1) := by decide +kernel
theorem d_R_leafNode_18 : decode b_R_leafNode 18 = .ok (.goto 4, 3) := by decide +kernel
theorem d_R_leafNode_21 : decode b_R_leafNode 21 = .ok (.iconst 0, 1) := by decide +kernel
theorem d_R_leafNode_22 : decode b_R_leafNode 22 = .ok (.ireturn, 1) := by decide +kernel
theorem d_R_attach_0 : decode b_R_attach 0 = .ok (.aload_n 0, 1) := by decide +kernel
theorem d_R_attach_1 : decode b_R_attach 1 = .ok (.iload_n 1, 1) := by decide +kernel
theorem d_R_attach_2 : decode b_R_attach 2 = .ok (.invokevirtual 75, 3) := by decide +kernel
theorem d_R_attach_5 : decode b_R_attach 5 = .ok (.ifCond .eq 21, 3) := by decide +kernel
theorem d_R_attach_8 : decode b_R_attach 8 = .ok (.aload_n 0, 1) := by decide +kernel
theorem d_R_attach_9 : decode b_R_attach 9 = .ok (.getfield 17, 3) := by decide +kernel
theorem d_R_attach_12 : decode b_R_attach 12 = .ok (.iload_n 1, 1) := by decide +kernel
theorem d_R_attach_13 : decode b_R_attach 13 = .ok (.baload, 1) := by decide +kernel
theorem d_R_attach_14 : decode b_R_attach 14 = .ok (.ifCond .ne 12, 3) := by decide +kernel
theorem d_R_attach_17 : decode b_R_attach 17 = .ok (.aload_n 0, 1) := by decide +kernel
theorem d_R_attach_18 : decode b_R_attach 18 = .ok (.getfield 7, 3) := by decide +kernel
theorem d_R_attach_21 : decode b_R_attach 21 = .ok (.bipush 12, 2) := by decide +kernel
theorem d_R_attach_23 : decode b_R_attach 23 = .ok (.if_icmp .ne 5, 3) := by decide +kernel
theorem d_R_attach_26 : decode b_R_attach 26 = .ok (.iconst (-1), 1) := by decide +kernel
theorem d_R_attach_27 : decode b_R_attach 27 = .ok (.ireturn, 1) := by decide +kernel
theorem d_R_attach_28 : decode b_R_attach 28 = .ok (.aload_n 0, 1) := by decide +kernel
theorem d_R_attach_29 : decode b_R_attach 29 = .ok (.getfield 13, 3) := by decide +kernel
theorem d_R_attach_32 : decode b_R_attach 32 = .ok (.aload_n 0, 1) := by decide +kernel
theorem d_R_attach_33 : decode b_R_attach 33 = .ok (.getfield 7, 3) := by decide +kernel
theorem d_R_attach_36 : decode b_R_attach 36 = .ok (.iload_n 1, 1) := by decide +kernel
theorem d_R_attach_37 : decode b_R_attach 37 = .ok (.iastore, 1) := by decide +kernel
theorem d_R_attach_38 : decode b_R_attach 38 = .ok (.aload_n 0, 1) := by decide +kernel
theorem d_R_attach_39 : decode b_R_attach 39 = .ok (.getfield 17, 3) := by decide +kernel
theorem d_R_attach_42 : decode b_R_attach 42 = .ok (.aload_n 0, 1) := by decide +kernel
theorem d_R_attach_43 : decode b_R_attach 43 = .ok (.getfield 7, 3) := by decide +kernel
theorem d_R_attach_46 : decode b_R_attach 46 = .ok (.iload_n 2, 1) := by decide +kernel
theorem d_R_attach_47 : decode b_R_attach 47 = .ok (.bastore, 1) := by decide +kernel
theorem d_R_attach_48 : decode b_R_attach 48 = .ok (.aload_n 0, 1) := by decide +kernel
theorem d_R_attach_49 : decode b_R_attach 49 = .ok (.dup, 1) := by decide +kernel
theorem d_R_attach_50 : decode b_R_attach 50 = .ok (.getfield 7, 3) := by decide +kernel
theorem d_R_attach_53 : decode b_R_attach 53 = .ok (.iconst 1, 1) := by decide +kernel
theorem d_R_attach_54 : decode b_R_attach 54 = .ok (.iadd, 1) := by decide +kernel
theorem d_R_attach_55 : decode b_R_attach 55 = .ok (.putfield 7, 3) := by decide +kernel
theorem d_R_attach_58 : decode b_R_attach 58 = .ok (.aload_n 0, 1) := by decide +kernel
theorem d_R_attach_59 : decode b_R_attach 59 = .ok (.getfield 7, 3) := by decide +kernel
theorem d_R_attach_62 : decode b_R_attach 62 = .ok (.iconst 1, 1) := by decide +kernel
theorem d_R_attach_63 : decode b_R_attach 63 = .ok (.isub, 1) := by decide +kernel
theorem d_R_attach_64 : decode b_R_attach 64 = .ok (.ireturn, 1) := by decide +kernel
theorem d_R_add_0 : decode b_R_add 0 = .ok (.aload_n 0, 1) := by decide +kernel
theorem d_R_add_1 : decode b_R_add 1 = .ok (.iload_n 1, 1) := by decide +kernel
theorem d_R_add_2 : decode b_R_add 2 = .ok (.invokevirtual 79, 3) := by decide +kernel
theorem d_R_add_5 : decode b_R_add 5 = .ok (.ifCond .eq 31, 3) := by decide +kernel
theorem d_R_add_8 : decode b_R_add 8 = .ok (.iload_n 2, 1) := by decide +kernel
theorem d_R_add_9 : decode b_R_add 9 = .ok (.ifCond .lt 27, 3) := by decide +kernel
theorem d_R_add_12 : decode b_R_add 12 = .ok (.iload_n 2, 1) := by decide +kernel
theorem d_R_add_13 : decode b_R_add 13 = .ok (.bipush 31, 2) := by decide +kernel
theorem d_R_add_15 : decode b_R_add 15 = .ok (.if_icmp .gt 21, 3) := by decide +kernel
theorem d_R_add_18 : decode b_R_add 18 = .ok (.aload_n 0, 1) := by decide +kernel
theorem d_R_add_19 : decode b_R_add 19 = .ok (.getfield 27, 3) := by decide +kernel
theorem d_R_add_22 : decode b_R_add 22 = .ok (.iload_n 1, 1) := by decide +kernel
theorem d_R_add_23 : decode b_R_add 23 = .ok (.iaload, 1) := by decide +kernel
theorem d_R_add_24 : decode b_R_add 24 = .ok (.aload_n 0, 1) := by decide +kernel
theorem d_R_add_25 : decode b_R_add 25 = .ok (.getfield 33, 3) := by decide +kernel
theorem d_R_add_28 : decode b_R_add 28 = .ok (.iload_n 1, 1) := by decide +kernel
theorem d_R_add_29 : decode b_R_add 29 = .ok (.iaload, 1) := by decide +kernel
theorem d_R_add_30 : decode b_R_add 30 = .ok (.iadd, 1) := by decide +kernel
theorem d_R_add_31 : decode b_R_add 31 = .ok (.bipush 48, 2) := by decide +kernel
theorem d_R_add_33 : decode b_R_add 33 = .ok (.if_icmp .lt 5, 3) := by decide +kernel
theorem d_R_add_36 : decode b_R_add 36 = .ok (.iconst 0, 1) := by decide +kernel
theorem d_R_add_37 : decode b_R_add 37 = .ok (.ireturn, 1) := by decide +kernel
theorem d_R_add_38 : decode b_R_add 38 = .ok (.aload_n 0, 1) := by decide +kernel
theorem d_R_add_39 : decode b_R_add 39 = .ok (.getfield 30, 3) := by decide +kernel
theorem d_R_add_42 : decode b_R_add 42 = .ok (.iconst 4, 1) := by decide +kernel
theorem d_R_add_43 : decode b_R_add 43 = .ok (.iload_n 1, 1) := by decide +kernel
theorem d_R_add_44 : decode b_R_add 44 = .ok (.imul, 1) := by decide +kernel
theorem d_R_add_45 : decode b_R_add 45 = .ok (.aload_n 0, 1) := by decide +kernel
theorem d_R_add_46 : decode b_R_add 46 = .ok (.getfield 33, 3) := by decide +kernel
theorem d_R_add_49 : decode b_R_add 49 = .ok (.iload_n 1, 1) := by decide +kernel
theorem d_R_add_50 : decode b_R_add 50 = .ok (.iaload, 1) := by decide +kernel
theorem d_R_add_51 : decode b_R_add 51 = .ok (.iadd, 1) := by decide +kernel
theorem d_R_add_52 : decode b_R_add 52 = .ok (.iload_n 2, 1) := by decide +kernel
theorem d_R_add_53 : decode b_R_add 53 = .ok (.iastore, 1) := by decide +kernel
theorem d_R_add_54 : decode b_R_add 54 = .ok (.aload_n 0, 1) := by decide +kernel
theorem d_R_add_55 : decode b_R_add 55 = .ok (.getfield 33, 3) := by decide +kernel
theorem d_R_add_58 : decode b_R_add 58 = .ok (.iload_n 1, 1) := by decide +kernel
theorem d_R_add_59 : decode b_R_add 59 = .ok (.dup2, 1) := by decide +kernel
theorem d_R_add_60 : decode b_R_add 60 = .ok (.iaload, 1) := by decide +kernel
theorem d_R_add_61 : decode b_R_add 61 = .ok (.iconst 1, 1) := by decide +kernel
theorem d_R_add_62 : decode b_R_add 62 = .ok (.iadd, 1) := by decide +kernel
theorem d_R_add_63 : decode b_R_add 63 = .ok (.iastore, 1) := by decide +kernel
theorem d_R_add_64 : decode b_R_add 64 = .ok (.aload_n 0, 1) := by decide +kernel
theorem d_R_add_65 : decode b_R_add 65 = .ok (.getfield 33, 3) := by decide +kernel
theorem d_R_add_68 : decode b_R_add 68 = .ok (.iload_n 1, 1) := by decide +kernel
theorem d_R_add_69 : decode b_R_add 69 = .ok (.iaload, 1) := by decide +kernel
theorem d_R_add_70 : decode b_R_add 70 = .ok (.iconst 4, 1) := by decide +kernel
theorem d_R_add_71 : decode b_R_add 71 = .ok (.if_icmp .ne 8, 3) := by decide +kernel
theorem d_R_add_74 : decode b_R_add 74 = .ok (.aload_n 0, 1) := by decide +kernel
theorem d_R_add_75 : decode b_R_add 75 = .ok (.iload_n 1, 1) := by decide +kernel
theorem d_R_add_76 : decode b_R_add 76 = .ok (.invokevirtual 82, 3) := by decide +kernel
theorem d_R_add_79 : decode b_R_add 79 = .ok (.iconst 1, 1) := by decide +kernel
theorem d_R_add_80 : decode b_R_add 80 = .ok (.ireturn, 1) := by decide +kernel
theorem d_R_writeBlock_0 : decode b_R_writeBlock 0 = .ok (.iconst 0, 1) := by decide +kernel
theorem d_R_writeBlock_1 : decode b_R_writeBlock 1 = .ok (.istore_n 2, 1) := by decide +kernel
theorem d_R_writeBlock_2 : decode b_R_writeBlock 2 = .ok (.iload_n 2, 1) := by decide +kernel
theorem d_R_writeBlock_3 : decode b_R_writeBlock 3 = .ok (.aload_n 0, 1) := by decide +kernel
theorem d_R_writeBlock_4 : decode b_R_writeBlock 4 = .ok (.getfield 33, 3) := by decide +kernel
theorem d_R_writeBlock_7 : decode b_R_writeBlock 7 = .ok (.iload_n 1, 1) := by decide +kernel
theorem d_R_writeBlock_8 : decode b_R_writeBlock 8 = .ok (.iaload, 1) := by decide +kernel
theorem d_R_writeBlock_9 : decode b_R_writeBlock 9 = .ok (.if_icmp .ge 45, 3) := by decide +kernel
theorem d_R_writeBlock_12 : decode b_R_writeBlock 12 = .ok (.aload_n 0, 1) := by decide +kernel
theorem d_R_writeBlock_13 : decode b_R_writeBlock 13 = .ok (.getfield 24, 3) := by decide +kernel
theorem d_R_writeBlock_16 : decode b_R_writeBlock 16 = .ok (.bipush 48, 2) := by decide +kernel
theorem d_R_writeBlock_18 : decode b_R_writeBlock 18 = .ok (.iload_n 1, 1) := by decide +kernel
theorem d_R_writeBlock_19 : decode b_R_writeBlock 19 = .ok (.imul, 1) := by decide +kernel
theorem d_R_writeBlock_20 : decode b_R_writeBlock 20 = .ok (.aload_n 0, 1) := by decide +kernel
theorem d_R_writeBlock_21 : decode b_R_writeBlock 21 = .ok (.getfield 27, 3) := by decide +kernel
theorem d_R_writeBlock_24 : decode b_R_writeBlock 24 = .ok (.iload_n 1, 1) := by decide +kernel
theorem d_R_writeBlock_25 : decode b_R_writeBlock 25 = .ok (.iaload, 1) := by decide +kernel
theorem d_R_writeBlock_26 : decode b_R_writeBlock 26 = .ok (.iadd, 1) := by decide +kernel
theorem d_R_writeBlock_27 : decode b_R_writeBlock 27 = .ok (.aload_n 0, 1) := by decide +kernel
theorem d_R_writeBlock_28 : decode b_R_writeBlock 28 = .ok (.getfield 30, 3) := by decide +kernel
theorem d_R_writeBlock_31 : decode b_R_writeBlock 31 = .ok (.iconst 4, 1) := by decide +kernel
theorem d_R_writeBlock_32 : decode b_R_writeBlock 32 = .ok (.iload_n 1, 1) := by decide +kernel
theorem d_R_writeBlock_33 : decode b_R_writeBlock 33 = .ok (.imul, 1) := by decide +kernel
theorem d_R_writeBlock_34 : decode b_R_writeBlock 34 = .ok (.iload_n 2, 1) := by decide +kernel
theorem d_R_writeBlock_35 : decode b_R_writeBlock 35 = .ok (.iadd, 1) := by decide +kernel
theorem d_R_writeBlock_36 : decode b_R_writeBlock 36 = .ok (.iaload, 1) := by decide +kernel
theorem d_R_writeBlock_37 : decode b_R_writeBlock 37 = .ok (.iastore, 1) := by decide +kernel
theorem d_R_writeBlock_38 : decode b_R_writeBlock 38 = .ok (.aload_n 0, 1) := by decide +kernel
theorem d_R_writeBlock_39 : decode b_R_writeBlock 39 = .ok (.getfield 27, 3) := by decide +kernel
theorem d_R_writeBlock_42 : decode b_R_writeBlock 42 = .ok (.iload_n 1, 1) := by decide +kernel
theorem d_R_writeBlock_43 : decode b_R_writeBlock 43 = .ok (.dup2, 1) := by decide +kernel
theorem d_R_writeBlock_44 : decode b_R_writeBlock 44 = .ok (.iaload, 1) := by decide +kernel
theorem d_R_writeBlock_45 : decode b_R_writeBlock 45 = .ok (.iconst 1, 1) := by decide +kernel
theorem d_R_writeBlock_46 : decode b_R_writeBlock 46 = .ok (.iadd, 1) := by decide +kernel
theorem d_R_writeBlock_47 : decode b_R_writeBlock 47 = .ok (.iastore, 1) := by decide +kernel
theorem d_R_writeBlock_48 : decode b_R_writeBlock 48 = .ok (.iinc 2 1, 3) := by decide +kernel
theorem d_R_writeBlock_51 : decode b_R_writeBlock 51 = .ok (.goto (-49), 3) := by decide +kernel
theorem d_R_writeBlock_54 : decode b_R_writeBlock 54 = .ok (.aload_n 0, 1) := by decide +kernel
theorem d_R_writeBlock_55 : decode b_R_writeBlock 55 = .ok (.getfield 33, 3) := by decide +kernel
theorem d_R_writeBlock_58 : decode b_R_writeBlock 58 = .ok (.iload_n 1, 1) := by decide +kernel
theorem d_R_writeBlock_59 : decode b_R_writeBlock 59 = .ok (.iconst 0, 1) := by decide +kernel
theorem d_R_writeBlock_60 : decode b_R_writeBlock 60 = .ok (.iastore, 1) := by decide +kernel
theorem d_R_writeBlock_61 : decode b_R_writeBlock 61 = .ok (.return_, 1) := by decide +kernel
theorem d_R_flush_0 : decode b_R_flush 0 = .ok (.aload_n 0, 1) := by decide +kernel
theorem d_R_flush_1 : decode b_R_flush 1 = .ok (.iload_n 1, 1) := by decide +kernel
theorem d_R_flush_2 : decode b_R_flush 2 = .ok (.invokevirtual 79, 3) := by decide +kernel
theorem d_R_flush_5 : decode b_R_flush 5 = .ok (.ifCond .ne 5, 3) := by decide +kernel
theorem d_R_flush_8 : decode b_R_flush 8 = .ok (.iconst (-1), 1) := by decide +kernel
theorem d_R_flush_9 : decode b_R_flush 9 = .ok (.ireturn, 1) := by decide +kernel
theorem d_R_flush_10 : decode b_R_flush 10 = .ok (.aload_n 0, 1) := by decide +kernel
theorem d_R_flush_11 : decode b_R_flush 11 = .ok (.getfield 33, 3) := by decide +kernel
theorem d_R_flush_14 : decode b_R_flush 14 = .ok (.iload_n 1, 1) := by decide +kernel
theorem d_R_flush_15 : decode b_R_flush 15 = .ok (.iaload, 1) := by decide +kernel
theorem d_R_flush_16 : decode b_R_flush 16 = .ok (.istore_n 2, 1) := by decide +kernel
theorem d_R_flush_17 : decode b_R_flush 17 = .ok (.aload_n 0, 1) := by decide +kernel
theorem d_R_flush_18 : decode b_R_flush 18 = .ok (.iload_n 1, 1) := by decide +kernel
theorem d_R_flush_19 : decode b_R_flush 19 = .ok (.invokevirtual 82, 3) := by decide +kernel
theorem d_R_flush_22 : decode b_R_flush 22 = .ok (.iload_n 2, 1) := by decide +kernel
theorem d_R_flush_23 : decode b_R_flush 23 = .ok (.ireturn, 1) := by decide +kernel
theorem d_R_crash_0 : decode b_R_crash 0 = .ok (.aload_n 0, 1) := by decide +kernel
theorem d_R_crash_1 : decode b_R_crash 1 = .ok (.iload_n 1, 1) := by decide +kernel
theorem d_R_crash_2 : decode b_R_crash 2 = .ok (.invokevirtual 75, 3) := by decide +kernel
theorem d_R_crash_5 : decode b_R_crash 5 = .ok (.ifCond .ne 5, 3) := by decide +kernel
theorem d_R_crash_8 : decode b_R_crash 8 = .ok (.iconst 0, 1) := by decide +kernel
theorem d_R_crash_9 : decode b_R_crash 9 = .ok (.ireturn, 1) := by decide +kernel
theorem d_R_crash_10 : decode b_R_crash 10 = .ok (.aload_n 0, 1) := by decide +kernel
theorem d_R_crash_11 : decode b_R_crash 11 = .ok (.getfield 33, 3) := by decide +kernel
theorem d_R_crash_14 : decode b_R_crash 14 = .ok (.iload_n 1, 1) := by decide +kernel
theorem d_R_crash_15 : decode b_R_crash 15 = .ok (.iconst 0, 1) := by decide +kernel
theorem d_R_crash_16 : decode b_R_crash 16 = .ok (.iastore, 1) := by decide +kernel
theorem d_R_crash_17 : decode b_R_crash 17 = .ok (.iconst 1, 1) := by decide +kernel
theorem d_R_crash_18 : decode b_R_crash 18 = .ok (.istore_n 2, 1) := by decide +kernel
theorem d_R_crash_19 : decode b_R_crash 19 = .ok (.iload_n 2, 1) := by decide +kernel
theorem d_R_crash_20 : decode b_R_crash 20 = .ok (.aload_n 0, 1) := by decide +kernel
theorem d_R_crash_21 : decode b_R_crash 21 = .ok (.getfield 7, 3) := by decide +kernel
theorem d_R_crash_24 : decode b_R_crash 24 = .ok (.if_icmp .ge 35, 3) := by decide +kernel
theorem d_R_crash_27 : decode b_R_crash 27 = .ok (.aload_n 0, 1) := by decide +kernel
theorem d_R_crash_28 : decode b_R_crash 28 = .ok (.getfield 36, 3) := by decide +kernel
theorem d_R_crash_31 : decode b_R_crash 31 = .ok (.iload_n 2, 1) := by decide +kernel
theorem d_R_crash_32 : decode b_R_crash 32 = .ok (.aload_n 0, 1) := by decide +kernel
theorem d_R_crash_33 : decode b_R_crash 33 = .ok (.getfield 13, 3) := by decide +kernel
theorem d_R_crash_36 : decode b_R_crash 36 = .ok (.iload_n 2, 1) := by decide +kernel
theorem d_R_crash_37 : decode b_R_crash 37 = .ok (.iaload, 1) := by decide +kernel
theorem d_R_crash_38 : decode b_R_crash 38 = .ok (.iload_n 1, 1) := by decide +kernel
theorem d_R_crash_39 : decode b_R_crash 39 = .ok (.if_icmp .ne 7, 3) := by decide +kernel
theorem d_R_crash_42 : decode b_R_crash 42 = .ok (.iconst 0, 1) := by decide +kernel
theorem d_R_crash_43 : decode b_R_crash 43 = .ok (.goto 9, 3) := by decide +kernel
theorem d_R_crash_46 : decode b_R_crash 46 = .ok (.aload_n 0, 1) := by decide +kernel
theorem d_R_crash_47 : decode b_R_crash 47 = .ok (.getfield 36, 3) := by decide +kernel
theorem d_R_crash_50 : decode b_R_crash 50 = .ok (.iload_n 2, 1) := by decide +kernel
theorem d_R_crash_51 : decode b_R_crash 51 = .ok (.iaload, 1) := by decide +kernel
theorem d_R_crash_52 : decode b_R_crash 52 = .ok (.iastore, 1) := by decide +kernel
theorem d_R_crash_53 : decode b_R_crash 53 = .ok (.iinc 2 1, 3) := by decide +kernel
theorem d_R_crash_56 : decode b_R_crash 56 = .ok (.goto (-37), 3) := by decide +kernel
theorem d_R_crash_59 : decode b_R_crash 59 = .ok (.iconst 1, 1) := by decide +kernel
theorem d_R_crash_60 : decode b_R_crash 60 = .ok (.ireturn, 1) := by decide +kernel
theorem d_R_placeOf_0 : decode b_R_placeOf 0 = .ok (.iconst 0, 1) := by decide +kernel
theorem d_R_placeOf_1 : decode b_R_placeOf 1 = .ok (.istore_n 2, 1) := by decide +kernel
theorem d_R_placeOf_2 : decode b_R_placeOf 2 = .ok (.iload_n 2, 1) := by decide +kernel
theorem d_R_placeOf_3 : decode b_R_placeOf 3 = .ok (.bipush 12, 2) := by decide +kernel
theorem d_R_placeOf_5 : decode b_R_placeOf 5 = .ok (.if_icmp .ge 25, 3) := by decide +kernel
theorem d_R_placeOf_8 : decode b_R_placeOf 8 = .ok (.iload_n 1, 1) := by decide +kernel
theorem d_R_placeOf_9 : decode b_R_placeOf 9 = .ok (.ifCond .le 15, 3) := by decide +kernel
theorem d_R_placeOf_12 : decode b_R_placeOf 12 = .ok (.aload_n 0, 1) := by decide +kernel
theorem d_R_placeOf_13 : decode b_R_placeOf 13 = .ok (.getfield 42, 3) := by decide +kernel
theorem d_R_placeOf_16 : decode b_R_placeOf 16 = .ok (.iload_n 2, 1) := by decide +kernel
theorem d_R_placeOf_17 : decode b_R_placeOf 17 = .ok (.iaload, 1) := by decide +kernel
theorem d_R_placeOf_18 : decode b_R_placeOf 18 = .ok (.iload_n 1, 1) := by decide +kernel
theorem d_R_placeOf_19 : decode b_R_placeOf 19 = .ok (.if_icmp .ne 5, 3) := by decide +kernel
theorem d_R_placeOf_22 : decode b_R_placeOf 22 = .ok (.iload_n 2, 1) := by decide +kernel
theorem d_R_placeOf_23 : decode b_R_placeOf 23 = .ok (.ireturn, 1) := by decide +kernel
theorem d_R_placeOf_24 : decode b_R_placeOf 24 = .ok (.iinc 2 1, 3) := by decide +kernel
theorem d_R_placeOf_27 : decode b_R_placeOf 27 = .ok (.goto (-25), 3) := by decide +kernel
theorem d_R_placeOf_30 : decode b_R_placeOf 30 = .ok (.iconst (-1), 1) := by decide +kernel
theorem d_R_placeOf_31 : decode b_R_placeOf 31 = .ok (.ireturn, 1) := by decide +kernel
theorem d_R_freePlace_0 : decode b_R_freePlace 0 = .ok (.iconst 0, 1) := by decide +kernel
theorem d_R_freePlace_1 : decode b_R_freePlace 1 = .ok (.istore_n 1, 1) := by decide +kernel
theorem d_R_freePlace_2 : decode b_R_freePlace 2 = .ok (.iload_n 1, 1) := by decide +kernel
theorem d_R_freePlace_3 : decode b_R_freePlace 3 = .ok (.bipush 12, 2) := by decide +kernel
theorem d_R_freePlace_5 : decode b_R_freePlace 5 = .ok (.if_icmp .ge 20, 3) := by decide +kernel
theorem d_R_freePlace_8 : decode b_R_freePlace 8 = .ok (.aload_n 0, 1) := by decide +kernel
theorem d_R_freePlace_9 : decode b_R_freePlace 9 = .ok (.getfield 42, 3) := by decide +kernel
theorem d_R_freePlace_12 : decode b_R_freePlace 12 = .ok (.iload_n 1, 1) := by decide +kernel
theorem d_R_freePlace_13 : decode b_R_freePlace 13 = .ok (.iaload, 1) := by decide +kernel
theorem d_R_freePlace_14 : decode b_R_freePlace 14 = .ok (.ifCond .ne 5, 3) := by decide +kernel
theorem d_R_freePlace_17 : decode b_R_freePlace 17 = .ok (.iload_n 1, 1) := by decide +kernel
theorem d_R_freePlace_18 : decode b_R_freePlace 18 = .ok (.ireturn, 1) := by decide +kernel
theorem d_R_freePlace_19 : decode b_R_freePlace 19 = .ok (.iinc 1 1, 3) := by decide +kernel
theorem d_R_freePlace_22 : decode b_R_freePlace 22 = .ok (.goto (-20), 3) := by decide +kernel
theorem d_R_freePlace_25 : decode b_R_freePlace 25 = .ok (.iconst (-1), 1) := by decide +kernel
theorem d_R_freePlace_26 : decode b_R_freePlace 26 = .ok (.ireturn, 1) := by decide +kernel
theorem d_R_report_0 : decode b_R_report 0 = .ok (.aload_n 0, 1) := by decide +kernel
theorem d_R_report_1 : decode b_R_report 1 = .ok (.invokevirtual 86, 3) := by decide +kernel
theorem d_R_report_4 : decode b_R_report 4 = .ok (.istore_n 2, 1) := by decide +kernel
theorem d_R_report_5 : decode b_R_report 5 = .ok (.aload_n 0, 1) := by decide +kernel
theorem d_R_report_6 : decode b_R_report 6 = .ok (.iload_n 1, 1) := by decide +kernel
theorem d_R_report_7 : decode b_R_report 7 = .ok (.invokevirtual 75, 3) := by decide +kernel
theorem d_R_report_10 : decode b_R_report 10 = .ok (.ifCond .eq 11, 3) := by decide +kernel
theorem d_R_report_13 : decode b_R_report 13 = .ok (.iload_n 1, 1) := by decide +kernel
theorem d_R_report_14 : decode b_R_report 14 = .ok (.ifCond .eq 7, 3) := by decide +kernel
theorem d_R_report_17 : decode b_R_report 17 = .ok (.iload_n 2, 1) := by decide +kernel
theorem d_R_report_18 : decode b_R_report 18 = .ok (.ifCond .ge 5, 3) := by decide +kernel
theorem d_R_report_21 : decode b_R_report 21 = .ok (.iconst (-1), 1) := by decide +kernel
theorem d_R_report_22 : decode b_R_report 22 = .ok (.ireturn, 1) := by decide +kernel
theorem d_R_report_23 : decode b_R_report 23 = .ok (.aload_n 0, 1) := by decide +kernel
theorem d_R_report_24 : decode b_R_report 24 = .ok (.iload_n 1, 1) := by decide +kernel
theorem d_R_report_25 : decode b_R_report 25 = .ok (.invokevirtual 90, 3) := by decide +kernel
theorem d_R_report_28 : decode b_R_report 28 = .ok (.aload_n 0, 1) := by decide +kernel
theorem d_R_report_29 : decode b_R_report 29 = .ok (.getfield 21, 3) := by decide +kernel
theorem d_R_report_32 : decode b_R_report 32 = .ok (.iload_n 1, 1) := by decide +kernel
theorem d_R_report_33 : decode b_R_report 33 = .ok (.dup2, 1) := by decide +kernel
theorem d_R_report_34 : decode b_R_report 34 = .ok (.iaload, 1) := by decide +kernel
theorem d_R_report_35 : decode b_R_report 35 = .ok (.iconst 1, 1) := by decide +kernel
theorem d_R_report_36 : decode b_R_report 36 = .ok (.iadd, 1) := by decide +kernel
theorem d_R_report_37 : decode b_R_report 37 = .ok (.iastore, 1) := by decide +kernel
theorem d_R_report_38 : decode b_R_report 38 = .ok (.aload_n 0, 1) := by decide +kernel
theorem d_R_report_39 : decode b_R_report 39 = .ok (.dup, 1) := by decide +kernel
theorem d_R_report_40 : decode b_R_report 40 = .ok (.getfield 93, 3) := by decide +kernel
theorem d_R_report_43 : decode b_R_report 43 = .ok (.iconst 1, 1) := by decide +kernel
theorem d_R_report_44 : decode b_R_report 44 = .ok (.iadd, 1) := by decide +kernel
theorem d_R_report_45 : decode b_R_report 45 = .ok (.putfield 93, 3) := by decide +kernel
theorem d_R_report_48 : decode b_R_report 48 = .ok (.aload_n 0, 1) := by decide +kernel
theorem d_R_report_49 : decode b_R_report 49 = .ok (.getfield 42, 3) := by decide +kernel
theorem d_R_report_52 : decode b_R_report 52 = .ok (.iload_n 2, 1) := by decide +kernel
theorem d_R_report_53 : decode b_R_report 53 = .ok (.aload_n 0, 1) := by decide +kernel
theorem d_R_report_54 : decode b_R_report 54 = .ok (.getfield 93, 3) := by decide +kernel
theorem d_R_report_57 : decode b_R_report 57 = .ok (.iastore, 1) := by decide +kernel
theorem d_R_report_58 : decode b_R_report 58 = .ok (.aload_n 0, 1) := by decide +kernel
theorem d_R_report_59 : decode b_R_report 59 = .ok (.getfield 45, 3) := by decide +kernel
theorem d_R_report_62 : decode b_R_report 62 = .ok (.iload_n 2, 1) := by decide +kernel
theorem d_R_report_63 : decode b_R_report 63 = .ok (.iload_n 1, 1) := by decide +kernel
theorem d_R_report_64 : decode b_R_report 64 = .ok (.iastore, 1) := by decide +kernel
theorem d_R_report_65 : decode b_R_report 65 = .ok (.aload_n 0, 1) := by decide +kernel
theorem d_R_report_66 : decode b_R_report 66 = .ok (.getfield 48, 3) := by decide +kernel
theorem d_R_report_69 : decode b_R_report 69 = .ok (.iload_n 2, 1) := by decide +kernel
theorem d_R_report_70 : decode b_R_report 70 = .ok (.aload_n 0, 1) := by decide +kernel
theorem d_R_report_71 : decode b_R_report 71 = .ok (.getfield 21, 3) := by decide +kernel
theorem d_R_report_74 : decode b_R_report 74 = .ok (.iload_n 1, 1) := by decide +kernel
theorem d_R_report_75 : decode b_R_report 75 = .ok (.iaload, 1) := by decide +kernel
theorem d_R_report_76 : decode b_R_report 76 = .ok (.iastore, 1) := by decide +kernel
theorem d_R_report_77 : decode b_R_report 77 = .ok (.iconst 0, 1) := by decide +kernel
theorem d_R_report_78 : decode b_R_report 78 = .ok (.istore_n 3, 1) := by decide +kernel
theorem d_R_report_79 : decode b_R_report 79 = .ok (.iload_n 3, 1) := by decide +kernel
theorem d_R_report_80 : decode b_R_report 80 = .ok (.bipush 12, 2) := by decide +kernel
theorem d_R_report_82 : decode b_R_report 82 = .ok (.if_icmp .ge 26, 3) := by decide +kernel
theorem d_R_report_85 : decode b_R_report 85 = .ok (.aload_n 0, 1) := by decide +kernel
theorem d_R_report_86 : decode b_R_report 86 = .ok (.getfield 51, 3) := by decide +kernel
theorem d_R_report_89 : decode b_R_report 89 = .ok (.bipush 12, 2) := by decide +kernel
theorem d_R_report_91 : decode b_R_report 91 = .ok (.iload_n 2, 1) := by decide +kernel
theorem d_R_report_92 : decode b_R_report 92 = .ok (.imul, 1) := by decide +kernel
theorem d_R_report_93 : decode b_R_report 93 = .ok (.iload_n 3, 1) := by decide +kernel
theorem d_R_report_94 : decode b_R_report 94 = .ok (.iadd, 1) := by decide +kernel
theorem d_R_report_95 : decode b_R_report 95 = .ok (.aload_n 0, 1) := by decide +kernel
theorem d_R_report_96 : decode b_R_report 96 = .ok (.getfield 54, 3) := by decide +kernel
theorem d_R_report_99 : decode b_R_report 99 = .ok (.iload_n 3, 1) := by decide +kernel
theorem d_R_report_100 : decode b_R_report 100 = .ok (.iaload, 1) := by decide +kernel
theorem d_R_report_101 : decode b_R_report 101 = .ok (.iastore, 1) := by decide +kernel
theorem d_R_report_102 : decode b_R_report 102 = .ok (.iinc 3 1, 3) := by decide +kernel
theorem d_R_report_105 : decode b_R_report 105 = .ok (.goto (-26), 3) := by decide +kernel
theorem d_R_report_108 : decode b_R_report 108 = .ok (.aload_n 0, 1) := by decide +kernel
theorem d_R_report_109 : decode b_R_report 109 = .ok (.getfield 93, 3) := by decide +kernel
theorem d_R_report_112 : decode b_R_report 112 = .ok (.ireturn, 1) := by decide +kernel
theorem d_R_copy_0 : decode b_R_copy 0 = .ok (.aload_n 0, 1) := by decide +kernel
theorem d_R_copy_1 : decode b_R_copy 1 = .ok (.iload_n 1, 1) := by decide +kernel
theorem d_R_copy_2 : decode b_R_copy 2 = .ok (.invokevirtual 96, 3) := by decide +kernel
theorem d_R_copy_5 : decode b_R_copy 5 = .ok (.istore_n 2, 1) := by decide +kernel
theorem d_R_copy_6 : decode b_R_copy 6 = .ok (.aload_n 0, 1) := by decide +kernel
theorem d_R_copy_7 : decode b_R_copy 7 = .ok (.invokevirtual 86, 3) := by decide +kernel
theorem d_R_copy_10 : decode b_R_copy 10 = .ok (.istore_n 3, 1) := by decide +kernel
theorem d_R_copy_11 : decode b_R_copy 11 = .ok (.iload_n 2, 1) := by decide +kernel
theorem d_R_copy_12 : decode b_R_copy 12 = .ok (.ifCond .lt 7, 3) := by decide +kernel
theorem d_R_copy_15 : decode b_R_copy 15 = .ok (.iload_n 3, 1) := by decide +kernel
theorem d_R_copy_16 : decode b_R_copy 16 = .ok (.ifCond .ge 5, 3) := by decide +kernel
theorem d_R_copy_19 : decode b_R_copy 19 = .ok (.iconst (-1), 1) := by decide +kernel
theorem d_R_copy_20 : decode b_R_copy 20 = .ok (.ireturn, 1) := by decide +kernel
theorem d_R_copy_21 : decode b_R_copy 21 = .ok (.aload_n 0, 1) := by decide +kernel
theorem d_R_copy_22 : decode b_R_copy 22 = .ok (.dup, 1) := by decide +kernel
theorem d_R_copy_23 : decode b_R_copy 23 = .ok (.getfield 93, 3) := by decide +kernel
theorem d_R_copy_26 : decode b_R_copy 26 = .ok (.iconst 1, 1) := by decide +kernel
theorem d_R_copy_27 : decode b_R_copy 27 = .ok (.iadd, 1) := by decide +kernel
theorem d_R_copy_28 : decode b_R_copy 28 = .ok (.putfield 93, 3) := by decide +kernel
theorem d_R_copy_31 : decode b_R_copy 31 = .ok (.aload_n 0, 1) := by decide +kernel
theorem d_R_copy_32 : decode b_R_copy 32 = .ok (.getfield 42, 3) := by decide +kernel
theorem d_R_copy_35 : decode b_R_copy 35 = .ok (.iload_n 3, 1) := by decide +kernel
theorem d_R_copy_36 : decode b_R_copy 36 = .ok (.aload_n 0, 1) := by decide +kernel
theorem d_R_copy_37 : decode b_R_copy 37 = .ok (.getfield 93, 3) := by decide +kernel
theorem d_R_copy_40 : decode b_R_copy 40 = .ok (.iastore, 1) := by decide +kernel
theorem d_R_copy_41 : decode b_R_copy 41 = .ok (.aload_n 0, 1) := by decide +kernel
theorem d_R_copy_42 : decode b_R_copy 42 = .ok (.getfield 45, 3) := by decide +kernel
theorem d_R_copy_45 : decode b_R_copy 45 = .ok (.iload_n 3, 1) := by decide +kernel
theorem d_R_copy_46 : decode b_R_copy 46 = .ok (.aload_n 0, 1) := by decide +kernel
theorem d_R_copy_47 : decode b_R_copy 47 = .ok (.getfield 45, 3) := by decide +kernel
theorem d_R_copy_50 : decode b_R_copy 50 = .ok (.iload_n 2, 1) := by decide +kernel
theorem d_R_copy_51 : decode b_R_copy 51 = .ok (.iaload, 1) := by decide +kernel
theorem d_R_copy_52 : decode b_R_copy 52 = .ok (.iastore, 1) := by decide +kernel
theorem d_R_copy_53 : decode b_R_copy 53 = .ok (.aload_n 0, 1) := by decide +kernel
theorem d_R_copy_54 : decode b_R_copy 54 = .ok (.getfield 48, 3) := by decide +kernel
theorem d_R_copy_57 : decode b_R_copy 57 = .ok (.iload_n 3, 1) := by decide +kernel
theorem d_R_copy_58 : decode b_R_copy 58 = .ok (.aload_n 0, 1) := by decide +kernel
theorem d_R_copy_59 : decode b_R_copy 59 = .ok (.getfield 48, 3) := by decide +kernel
theorem d_R_copy_62 : decode b_R_copy 62 = .ok (.iload_n 2, 1) := by decide +kernel
theorem d_R_copy_63 : decode b_R_copy 63 = .ok (.iaload, 1) := by decide +kernel
theorem d_R_copy_64 : decode b_R_copy 64 = .ok (.iastore, 1) := by decide +kernel
theorem d_R_copy_65 : decode b_R_copy 65 = .ok (.iconst 0, 1) := by decide +kernel
theorem d_R_copy_66 : decode b_R_copy 66 = .ok (.istore 4, 2) := by decide +kernel
theorem d_R_copy_68 : decode b_R_copy 68 = .ok (.iload 4, 2) := by decide +kernel
theorem d_R_copy_70 : decode b_R_copy 70 = .ok (.bipush 12, 2) := by decide +kernel
theorem d_R_copy_72 : decode b_R_copy 72 = .ok (.if_icmp .ge 33, 3) := by decide +kernel
theorem d_R_copy_75 : decode b_R_copy 75 = .ok (.aload_n 0, 1) := by decide +kernel
theorem d_R_copy_76 : decode b_R_copy 76 = .ok (.getfield 51, 3) := by decide +kernel
theorem d_R_copy_79 : decode b_R_copy 79 = .ok (.bipush 12, 2) := by decide +kernel
theorem d_R_copy_81 : decode b_R_copy 81 = .ok (.iload_n 3, 1) := by decide +kernel
theorem d_R_copy_82 : decode b_R_copy 82 = .ok (.imul, 1) := by decide +kernel
theorem d_R_copy_83 : decode b_R_copy 83 = .ok (.iload 4, 2) := by decide +kernel
theorem d_R_copy_85 : decode b_R_copy 85 = .ok (.iadd, 1) := by decide +kernel
theorem d_R_copy_86 : decode b_R_copy 86 = .ok (.aload_n 0, 1) := by decide +kernel
theorem d_R_copy_87 : decode b_R_copy 87 = .ok (.getfield 51, 3) := by decide +kernel
theorem d_R_copy_90 : decode b_R_copy 90 = .ok (.bipush 12, 2) := by decide +kernel
theorem d_R_copy_92 : decode b_R_copy 92 = .ok (.iload_n 2, 1) := by decide +kernel
theorem d_R_copy_93 : decode b_R_copy 93 = .ok (.imul, 1) := by decide +kernel
theorem d_R_copy_94 : decode b_R_copy 94 = .ok (.iload 4, 2) := by decide +kernel
theorem d_R_copy_96 : decode b_R_copy 96 = .ok (.iadd, 1) := by decide +kernel
theorem d_R_copy_97 : decode b_R_copy 97 = .ok (.iaload, 1) := by decide +kernel
theorem d_R_copy_98 : decode b_R_copy 98 = .ok (.iastore, 1) := by decide +kernel
theorem d_R_copy_99 : decode b_R_copy 99 = .ok (.iinc 4 1, 3) := by decide +kernel
theorem d_R_copy_102 : decode b_R_copy 102 = .ok (.goto (-34), 3) := by decide +kernel
theorem d_R_copy_105 : decode b_R_copy 105 = .ok (.aload_n 0, 1) := by decide +kernel
theorem d_R_copy_106 : decode b_R_copy 106 = .ok (.getfield 93, 3) := by decide +kernel
theorem d_R_copy_109 : decode b_R_copy 109 = .ok (.ireturn, 1) := by decide +kernel
theorem d_R_drop_0 : decode b_R_drop 0 = .ok (.aload_n 0, 1) := by decide +kernel
theorem d_R_drop_1 : decode b_R_drop 1 = .ok (.iload_n 1, 1) := by decide +kernel
theorem d_R_drop_2 : decode b_R_drop 2 = .ok (.invokevirtual 96, 3) := by decide +kernel
theorem d_R_drop_5 : decode b_R_drop 5 = .ok (.istore_n 2, 1) := by decide +kernel
theorem d_R_drop_6 : decode b_R_drop 6 = .ok (.iload_n 2, 1) := by decide +kernel
theorem d_R_drop_7 : decode b_R_drop 7 = .ok (.ifCond .ge 5, 3) := by decide +kernel
theorem d_R_drop_10 : decode b_R_drop 10 = .ok (.iconst 0, 1) := by decide +kernel
theorem d_R_drop_11 : decode b_R_drop 11 = .ok (.ireturn, 1) := by decide +kernel
theorem d_R_drop_12 : decode b_R_drop 12 = .ok (.aload_n 0, 1) := by decide +kernel
theorem d_R_drop_13 : decode b_R_drop 13 = .ok (.getfield 42, 3) := by decide +kernel
theorem d_R_drop_16 : decode b_R_drop 16 = .ok (.iload_n 2, 1) := by decide +kernel
theorem d_R_drop_17 : decode b_R_drop 17 = .ok (.iconst 0, 1) := by decide +kernel
theorem d_R_drop_18 : decode b_R_drop 18 = .ok (.iastore, 1) := by decide +kernel
theorem d_R_drop_19 : decode b_R_drop 19 = .ok (.iconst 1, 1) := by decide +kernel
theorem d_R_drop_20 : decode b_R_drop 20 = .ok (.ireturn, 1) := by decide +kernel
theorem d_R_deliver_0 : decode b_R_deliver 0 = .ok (.aload_n 0, 1) := by decide +kernel
theorem d_R_deliver_1 : decode b_R_deliver 1 = .ok (.iload_n 1, 1) := by decide +kernel
theorem d_R_deliver_2 : decode b_R_deliver 2 = .ok (.invokevirtual 96, 3) := by decide +kernel
theorem d_R_deliver_5 : decode b_R_deliver 5 = .ok (.istore_n 2, 1) := by decide +kernel
theorem d_R_deliver_6 : decode b_R_deliver 6 = .ok (.iload_n 2, 1) := by decide +kernel
theorem d_R_deliver_7 : decode b_R_deliver 7 = .ok (.ifCond .ge 5, 3) := by decide +kernel
theorem d_R_deliver_10 : decode b_R_deliver 10 = .ok (.iconst (-1), 1) := by decide +kernel
theorem d_R_deliver_11 : decode b_R_deliver 11 = .ok (.ireturn, 1) := by decide +kernel
theorem d_R_deliver_12 : decode b_R_deliver 12 = .ok (.aload_n 0, 1) := by decide +kernel
theorem d_R_deliver_13 : decode b_R_deliver 13 = .ok (.getfield 42, 3) := by decide +kernel
theorem d_R_deliver_16 : decode b_R_deliver 16 = .ok (.iload_n 2, 1) := by decide +kernel
theorem d_R_deliver_17 : decode b_R_deliver 17 = .ok (.iconst 0, 1) := by decide +kernel
theorem d_R_deliver_18 : decode b_R_deliver 18 = .ok (.iastore, 1) := by decide +kernel
theorem d_R_deliver_19 : decode b_R_deliver 19 = .ok (.aload_n 0, 1) := by decide +kernel
theorem d_R_deliver_20 : decode b_R_deliver 20 = .ok (.getfield 45, 3) := by decide +kernel
theorem d_R_deliver_23 : decode b_R_deliver 23 = .ok (.iload_n 2, 1) := by decide +kernel
theorem d_R_deliver_24 : decode b_R_deliver 24 = .ok (.iaload, 1) := by decide +kernel
theorem d_R_deliver_25 : decode b_R_deliver 25 = .ok (.istore_n 3, 1) := by decide +kernel
theorem d_R_deliver_26 : decode b_R_deliver 26 = .ok (.aload_n 0, 1) := by decide +kernel
theorem d_R_deliver_27 : decode b_R_deliver 27 = .ok (.getfield 36, 3) := by decide +kernel
theorem d_R_deliver_30 : decode b_R_deliver 30 = .ok (.iload_n 3, 1) := by decide +kernel
theorem d_R_deliver_31 : decode b_R_deliver 31 = .ok (.iaload, 1) := by decide +kernel
theorem d_R_deliver_32 : decode b_R_deliver 32 = .ok (.aload_n 0, 1) := by decide +kernel
theorem d_R_deliver_33 : decode b_R_deliver 33 = .ok (.getfield 48, 3) := by decide +kernel
theorem d_R_deliver_36 : decode b_R_deliver 36 = .ok (.iload_n 2, 1) := by decide +kernel
theorem d_R_deliver_37 : decode b_R_deliver 37 = .ok (.iaload, 1) := by decide +kernel
theorem d_R_deliver_38 : decode b_R_deliver 38 = .ok (.if_icmp .lt 5, 3) := by decide +kernel
theorem d_R_deliver_41 : decode b_R_deliver 41 = .ok (.iconst 0, 1) := by decide +kernel
theorem d_R_deliver_42 : decode b_R_deliver 42 = .ok (.ireturn, 1) := by decide +kernel
theorem d_R_deliver_43 : decode b_R_deliver 43 = .ok (.aload_n 0, 1) := by decide +kernel
theorem d_R_deliver_44 : decode b_R_deliver 44 = .ok (.getfield 36, 3) := by decide +kernel
theorem d_R_deliver_47 : decode b_R_deliver 47 = .ok (.iload_n 3, 1) := by decide +kernel
theorem d_R_deliver_48 : decode b_R_deliver 48 = .ok (.aload_n 0, 1) := by decide +kernel
theorem d_R_deliver_49 : decode b_R_deliver 49 = .ok (.getfield 48, 3) := by decide +kernel
theorem d_R_deliver_52 : decode b_R_deliver 52 = .ok (.iload_n 2, 1) := by decide +kernel
theorem d_R_deliver_53 : decode b_R_deliver 53 = .ok (.iaload, 1) := by decide +kernel
theorem d_R_deliver_54 : decode b_R_deliver 54 = .ok (.iastore, 1) := by decide +kernel
theorem d_R_deliver_55 : decode b_R_deliver 55 = .ok (.iconst 0, 1) := by decide +kernel
theorem d_R_deliver_56 : decode b_R_deliver 56 = .ok (.istore 4, 2) := by decide +kernel
theorem d_R_deliver_58 : decode b_R_deliver 58 = .ok (.iload 4, 2) := by decide +kernel
theorem d_R_deliver_60 : decode b_R_deliver 60 = .ok (.bipush 12, 2) := by decide +kernel
theorem d_R_deliver_62 : decode b_R_deliver 62 = .ok (.if_icmp .ge 33, 3) := by decide +kernel
theorem d_R_deliver_65 : decode b_R_deliver 65 = .ok (.aload_n 0, 1) := by decide +kernel
theorem d_R_deliver_66 : decode b_R_deliver 66 = .ok (.getfield 39, 3) := by decide +kernel
theorem d_R_deliver_69 : decode b_R_deliver 69 = .ok (.bipush 12, 2) := by decide +kernel
theorem d_R_deliver_71 : decode b_R_deliver 71 = .ok (.iload_n 3, 1) := by decide +kernel
theorem d_R_deliver_72 : decode b_R_deliver 72 = .ok (.imul, 1) := by decide +kernel
theorem d_R_deliver_73 : decode b_R_deliver 73 = .ok (.iload 4, 2) := by decide +kernel
theorem d_R_deliver_75 : decode b_R_deliver 75 = .ok (.iadd, 1) := by decide +kernel
theorem d_R_deliver_76 : decode b_R_deliver 76 = .ok (.aload_n 0, 1) := by decide +kernel
theorem d_R_deliver_77 : decode b_R_deliver 77 = .ok (.getfield 51, 3) := by decide +kernel
theorem d_R_deliver_80 : decode b_R_deliver 80 = .ok (.bipush 12, 2) := by decide +kernel
theorem d_R_deliver_82 : decode b_R_deliver 82 = .ok (.iload_n 2, 1) := by decide +kernel
theorem d_R_deliver_83 : decode b_R_deliver 83 = .ok (.imul, 1) := by decide +kernel
theorem d_R_deliver_84 : decode b_R_deliver 84 = .ok (.iload 4, 2) := by decide +kernel
theorem d_R_deliver_86 : decode b_R_deliver 86 = .ok (.iadd, 1) := by decide +kernel
theorem d_R_deliver_87 : decode b_R_deliver 87 = .ok (.iaload, 1) := by decide +kernel
theorem d_R_deliver_88 : decode b_R_deliver 88 = .ok (.iastore, 1) := by decide +kernel
theorem d_R_deliver_89 : decode b_R_deliver 89 = .ok (.iinc 4 1, 3) := by decide +kernel
theorem d_R_deliver_92 : decode b_R_deliver 92 = .ok (.goto (-34), 3) := by decide +kernel
theorem d_R_deliver_95 : decode b_R_deliver 95 = .ok (.iconst 1, 1) := by decide +kernel
theorem d_R_deliver_96 : decode b_R_deliver 96 = .ok (.ireturn, 1) := by decide +kernel
theorem d_R_onTheWay_0 : decode b_R_onTheWay 0 = .ok (.iconst 0, 1) := by decide +kernel
theorem d_R_onTheWay_1 : decode b_R_onTheWay 1 = .ok (.istore_n 1, 1) := by decide +kernel
theorem d_R_onTheWay_2 : decode b_R_onTheWay 2 = .ok (.iconst 0, 1) := by decide +kernel
theorem d_R_onTheWay_3 : decode b_R_onTheWay 3 = .ok (.istore_n 2, 1) := by decide +kernel
theorem d_R_onTheWay_4 : decode b_R_onTheWay 4 = .ok (.iload_n 2, 1) := by decide +kernel
theorem d_R_onTheWay_5 : decode b_R_onTheWay 5 = .ok (.bipush 12, 2) := by decide +kernel
theorem d_R_onTheWay_7 : decode b_R_onTheWay 7 = .ok (.if_icmp .ge 26, 3) := by decide +kernel
theorem d_R_onTheWay_10 : decode b_R_onTheWay 10 = .ok (.aload_n 0, 1) := by decide +kernel
theorem d_R_onTheWay_11 : decode b_R_onTheWay 11 = .ok (.getfield 42, 3) := by decide +kernel
theorem d_R_onTheWay_14 : decode b_R_onTheWay 14 = .ok (.iload_n 2, 1) := by decide +kernel
theorem d_R_onTheWay_15 : decode b_R_onTheWay 15 = .ok (.iaload, 1) := by decide +kernel
theorem d_R_onTheWay_16 : decode b_R_onTheWay 16 = .ok (.ifCond .le 9, 3) := by decide +kernel
theorem d_R_onTheWay_19 : decode b_R_onTheWay 19 = .ok (.iload_n 1, 1) := by decide +kernel
theorem d_R_onTheWay_20 : decode b_R_onTheWay 20 = .ok (.iconst 1, 1) := by decide +kernel
theorem d_R_onTheWay_21 : decode b_R_onTheWay 21 = .ok (.iadd, 1) := by decide +kernel
theorem d_R_onTheWay_22 : decode b_R_onTheWay 22 = .ok (.goto 4, 3) := by decide +kernel
theorem d_R_onTheWay_25 : decode b_R_onTheWay 25 = .ok (.iload_n 1, 1) := by decide +kernel
theorem d_R_onTheWay_26 : decode b_R_onTheWay 26 = .ok (.istore_n 1, 1) := by decide +kernel
theorem d_R_onTheWay_27 : decode b_R_onTheWay 27 = .ok (.iinc 2 1, 3) := by decide +kernel
theorem d_R_onTheWay_30 : decode b_R_onTheWay 30 = .ok (.goto (-26), 3) := by decide +kernel
theorem d_R_onTheWay_33 : decode b_R_onTheWay 33 = .ok (.iload_n 1, 1) := by decide +kernel
theorem d_R_onTheWay_34 : decode b_R_onTheWay 34 = .ok (.ireturn, 1) := by decide +kernel
theorem d_R_know_0 : decode b_R_know 0 = .ok (.iconst 0, 1) := by decide +kernel
theorem d_R_know_1 : decode b_R_know 1 = .ok (.istore_n 2, 1) := by decide +kernel
theorem d_R_know_2 : decode b_R_know 2 = .ok (.iload_n 2, 1) := by decide +kernel
theorem d_R_know_3 : decode b_R_know 3 = .ok (.bipush 12, 2) := by decide +kernel
theorem d_R_know_5 : decode b_R_know 5 = .ok (.if_icmp .ge 16, 3) := by decide +kernel
theorem d_R_know_8 : decode b_R_know 8 = .ok (.aload_n 0, 1) := by decide +kernel
theorem d_R_know_9 : decode b_R_know 9 = .ok (.getfield 54, 3) := by decide +kernel
theorem d_R_know_12 : decode b_R_know 12 = .ok (.iload_n 2, 1) := by decide +kernel
theorem d_R_know_13 : decode b_R_know 13 = .ok (.iconst 0, 1) := by decide +kernel
theorem d_R_know_14 : decode b_R_know 14 = .ok (.iastore, 1) := by decide +kernel
theorem d_R_know_15 : decode b_R_know 15 = .ok (.iinc 2 1, 3) := by decide +kernel
theorem d_R_know_18 : decode b_R_know 18 = .ok (.goto (-16), 3) := by decide +kernel
theorem d_R_know_21 : decode b_R_know 21 = .ok (.aload_n 0, 1) := by decide +kernel
theorem d_R_know_22 : decode b_R_know 22 = .ok (.getfield 17, 3) := by decide +kernel
theorem d_R_know_25 : decode b_R_know 25 = .ok (.iload_n 1, 1) := by decide +kernel
theorem d_R_know_26 : decode b_R_know 26 = .ok (.baload, 1) := by decide +kernel
theorem d_R_know_27 : decode b_R_know 27 = .ok (.ifCond .eq 16, 3) := by decide +kernel
theorem d_R_know_30 : decode b_R_know 30 = .ok (.aload_n 0, 1) := by decide +kernel
theorem d_R_know_31 : decode b_R_know 31 = .ok (.getfield 54, 3) := by decide +kernel
theorem d_R_know_34 : decode b_R_know 34 = .ok (.iload_n 1, 1) := by decide +kernel
theorem d_R_know_35 : decode b_R_know 35 = .ok (.aload_n 0, 1) := by decide +kernel
theorem d_R_know_36 : decode b_R_know 36 = .ok (.getfield 27, 3) := by decide +kernel
theorem d_R_know_39 : decode b_R_know 39 = .ok (.iload_n 1, 1) := by decide +kernel
theorem d_R_know_40 : decode b_R_know 40 = .ok (.iaload, 1) := by decide +kernel
theorem d_R_know_41 : decode b_R_know 41 = .ok (.iastore, 1) := by decide +kernel
theorem d_R_know_42 : decode b_R_know 42 = .ok (.return_, 1) := by decide +kernel
theorem d_R_know_43 : decode b_R_know 43 = .ok (.iconst 1, 1) := by decide +kernel
theorem d_R_know_44 : decode b_R_know 44 = .ok (.istore_n 2, 1) := by decide +kernel
theorem d_R_know_45 : decode b_R_know 45 = .ok (.iload_n 2, 1) := by decide +kernel
theorem d_R_know_46 : decode b_R_know 46 = .ok (.aload_n 0, 1) := by decide +kernel
theorem d_R_know_47 : decode b_R_know 47 = .ok (.getfield 7, 3) := by decide +kernel
theorem d_R_know_50 : decode b_R_know 50 = .ok (.if_icmp .ge 66, 3) := by decide +kernel
theorem d_R_know_53 : decode b_R_know 53 = .ok (.aload_n 0, 1) := by decide +kernel
theorem d_R_know_54 : decode b_R_know 54 = .ok (.getfield 13, 3) := by decide +kernel
theorem d_R_know_57 : decode b_R_know 57 = .ok (.iload_n 2, 1) := by decide +kernel
theorem d_R_know_58 : decode b_R_know 58 = .ok (.iaload, 1) := by decide +kernel
theorem d_R_know_59 : decode b_R_know 59 = .ok (.iload_n 1, 1) := by decide +kernel
theorem d_R_know_60 : decode b_R_know 60 = .ok (.if_icmp .ne 50, 3) := by decide +kernel
theorem d_R_know_63 : decode b_R_know 63 = .ok (.aload_n 0, 1) := by decide +kernel
theorem d_R_know_64 : decode b_R_know 64 = .ok (.getfield 36, 3) := by decide +kernel
theorem d_R_know_67 : decode b_R_know 67 = .ok (.iload_n 2, 1) := by decide +kernel
theorem d_R_know_68 : decode b_R_know 68 = .ok (.iaload, 1) := by decide +kernel
theorem d_R_know_69 : decode b_R_know 69 = .ok (.ifCond .le 41, 3) := by decide +kernel
theorem d_R_know_72 : decode b_R_know 72 = .ok (.iconst 0, 1) := by decide +kernel
theorem d_R_know_73 : decode b_R_know 73 = .ok (.istore_n 3, 1) := by decide +kernel
theorem d_R_know_74 : decode b_R_know 74 = .ok (.iload_n 3, 1) := by decide +kernel
theorem d_R_know_75 : decode b_R_know 75 = .ok (.bipush 12, 2) := by decide +kernel
theorem d_R_know_77 : decode b_R_know 77 = .ok (.if_icmp .ge 33, 3) := by decide +kernel
theorem d_R_know_80 : decode b_R_know 80 = .ok (.aload_n 0, 1) := by decide +kernel
theorem d_R_know_81 : decode b_R_know 81 = .ok (.getfield 54, 3) := by decide +kernel
theorem d_R_know_84 : decode b_R_know 84 = .ok (.iload_n 3, 1) := by decide +kernel
theorem d_R_know_85 : decode b_R_know 85 = .ok (.aload_n 0, 1) := by decide +kernel
theorem d_R_know_86 : decode b_R_know 86 = .ok (.getfield 54, 3) := by decide +kernel
theorem d_R_know_89 : decode b_R_know 89 = .ok (.iload_n 3, 1) := by decide +kernel
theorem d_R_know_90 : decode b_R_know 90 = .ok (.iaload, 1) := by decide +kernel
theorem d_R_know_91 : decode b_R_know 91 = .ok (.aload_n 0, 1) := by decide +kernel
theorem d_R_know_92 : decode b_R_know 92 = .ok (.getfield 39, 3) := by decide +kernel
theorem d_R_know_95 : decode b_R_know 95 = .ok (.bipush 12, 2) := by decide +kernel
theorem d_R_know_97 : decode b_R_know 97 = .ok (.iload_n 2, 1) := by decide +kernel
theorem d_R_know_98 : decode b_R_know 98 = .ok (.imul, 1) := by decide +kernel
theorem d_R_know_99 : decode b_R_know 99 = .ok (.iload_n 3, 1) := by decide +kernel
theorem d_R_know_100 : decode b_R_know 100 = .ok (.iadd, 1) := by decide +kernel
theorem d_R_know_101 : decode b_R_know 101 = .ok (.iaload, 1) := by decide +kernel
theorem d_R_know_102 : decode b_R_know 102 = .ok (.iadd, 1) := by decide +kernel
theorem d_R_know_103 : decode b_R_know 103 = .ok (.iastore, 1) := by decide +kernel
theorem d_R_know_104 : decode b_R_know 104 = .ok (.iinc 3 1, 3) := by decide +kernel
theorem d_R_know_107 : decode b_R_know 107 = .ok (.goto (-33), 3) := by decide +kernel
theorem d_R_know_110 : decode b_R_know 110 = .ok (.iinc 2 1, 3) := by decide +kernel
theorem d_R_know_113 : decode b_R_know 113 = .ok (.goto (-68), 3) := by decide +kernel
theorem d_R_know_116 : decode b_R_know 116 = .ok (.return_, 1) := by decide +kernel
theorem d_R_work_0 : decode b_R_work 0 = .ok (.aload_n 0, 1) := by decide +kernel
theorem d_R_work_1 : decode b_R_work 1 = .ok (.iload_n 1, 1) := by decide +kernel
theorem d_R_work_2 : decode b_R_work 2 = .ok (.invokevirtual 90, 3) := by decide +kernel
theorem d_R_work_5 : decode b_R_work 5 = .ok (.aload_n 0, 1) := by decide +kernel
theorem d_R_work_6 : decode b_R_work 6 = .ok (.getfield 7, 3) := by decide +kernel
theorem d_R_work_9 : decode b_R_work 9 = .ok (.iconst 1, 1) := by decide +kernel
theorem d_R_work_10 : decode b_R_work 10 = .ok (.isub, 1) := by decide +kernel
theorem d_R_work_11 : decode b_R_work 11 = .ok (.istore_n 2, 1) := by decide +kernel
theorem d_R_work_12 : decode b_R_work 12 = .ok (.iload_n 2, 1) := by decide +kernel
theorem d_R_work_13 : decode b_R_work 13 = .ok (.iload_n 1, 1) := by decide +kernel
theorem d_R_work_14 : decode b_R_work 14 = .ok (.if_icmp .lt 91, 3) := by decide +kernel
theorem d_R_work_17 : decode b_R_work 17 = .ok (.aload_n 0, 1) := by decide +kernel
theorem d_R_work_18 : decode b_R_work 18 = .ok (.iload_n 2, 1) := by decide +kernel
theorem d_R_work_19 : decode b_R_work 19 = .ok (.invokevirtual 100, 3) := by decide +kernel
theorem d_R_work_22 : decode b_R_work 22 = .ok (.iconst 0, 1) := by decide +kernel
theorem d_R_work_23 : decode b_R_work 23 = .ok (.istore_n 3, 1) := by decide +kernel
theorem d_R_work_24 : decode b_R_work 24 = .ok (.iload_n 3, 1) := by decide +kernel
theorem d_R_work_25 : decode b_R_work 25 = .ok (.aload_n 0, 1) := by decide +kernel
theorem d_R_work_26 : decode b_R_work 26 = .ok (.getfield 54, 3) := by decide +kernel
theorem d_R_work_29 : decode b_R_work 29 = .ok (.iload_n 2, 1) := by decide +kernel
theorem d_R_work_30 : decode b_R_work 30 = .ok (.iaload, 1) := by decide +kernel
theorem d_R_work_31 : decode b_R_work 31 = .ok (.if_icmp .ge 25, 3) := by decide +kernel
theorem d_R_work_34 : decode b_R_work 34 = .ok (.aload_n 0, 1) := by decide +kernel
theorem d_R_work_35 : decode b_R_work 35 = .ok (.iload_n 2, 1) := by decide +kernel
theorem d_R_work_36 : decode b_R_work 36 = .ok (.aload_n 0, 1) := by decide +kernel
theorem d_R_work_37 : decode b_R_work 37 = .ok (.getfield 24, 3) := by decide +kernel
theorem d_R_work_40 : decode b_R_work 40 = .ok (.bipush 48, 2) := by decide +kernel
theorem d_R_work_42 : decode b_R_work 42 = .ok (.iload_n 2, 1) := by decide +kernel
theorem d_R_work_43 : decode b_R_work 43 = .ok (.imul, 1) := by decide +kernel
theorem d_R_work_44 : decode b_R_work 44 = .ok (.iload_n 3, 1) := by decide +kernel
theorem d_R_work_45 : decode b_R_work 45 = .ok (.iadd, 1) := by decide +kernel
theorem d_R_work_46 : decode b_R_work 46 = .ok (.iaload, 1) := by decide +kernel
theorem d_R_work_47 : decode b_R_work 47 = .ok (.invokevirtual 103, 3) := by decide +kernel
theorem d_R_work_50 : decode b_R_work 50 = .ok (.iinc 3 1, 3) := by decide +kernel
theorem d_R_work_53 : decode b_R_work 53 = .ok (.goto (-29), 3) := by decide +kernel
theorem d_R_work_56 : decode b_R_work 56 = .ok (.iload_n 2, 1) := by decide +kernel
theorem d_R_work_57 : decode b_R_work 57 = .ok (.iconst 1, 1) := by decide +kernel
theorem d_R_work_58 : decode b_R_work 58 = .ok (.iadd, 1) := by decide +kernel
theorem d_R_work_59 : decode b_R_work 59 = .ok (.istore_n 3, 1) := by decide +kernel
theorem d_R_work_60 : decode b_R_work 60 = .ok (.iload_n 3, 1) := by decide +kernel
theorem d_R_work_61 : decode b_R_work 61 = .ok (.aload_n 0, 1) := by decide +kernel
theorem d_R_work_62 : decode b_R_work 62 = .ok (.getfield 7, 3) := by decide +kernel
theorem d_R_work_65 : decode b_R_work 65 = .ok (.if_icmp .ge 34, 3) := by decide +kernel
theorem d_R_work_68 : decode b_R_work 68 = .ok (.aload_n 0, 1) := by decide +kernel
theorem d_R_work_69 : decode b_R_work 69 = .ok (.getfield 13, 3) := by decide +kernel
theorem d_R_work_72 : decode b_R_work 72 = .ok (.iload_n 3, 1) := by decide +kernel
theorem d_R_work_73 : decode b_R_work 73 = .ok (.iaload, 1) := by decide +kernel
theorem d_R_work_74 : decode b_R_work 74 = .ok (.iload_n 2, 1) := by decide +kernel
theorem d_R_work_75 : decode b_R_work 75 = .ok (.if_icmp .ne 18, 3) := by decide +kernel
theorem d_R_work_78 : decode b_R_work 78 = .ok (.aload_n 0, 1) := by decide +kernel
theorem d_R_work_79 : decode b_R_work 79 = .ok (.getfield 57, 3) := by decide +kernel
theorem d_R_work_82 : decode b_R_work 82 = .ok (.iload_n 3, 1) := by decide +kernel
theorem d_R_work_83 : decode b_R_work 83 = .ok (.iaload, 1) := by decide +kernel
theorem d_R_work_84 : decode b_R_work 84 = .ok (.ifCond .le 9, 3) := by decide +kernel
theorem d_R_work_87 : decode b_R_work 87 = .ok (.aload_n 0, 1) := by decide +kernel
theorem d_R_work_88 : decode b_R_work 88 = .ok (.iload_n 2, 1) := by decide +kernel
theorem d_R_work_89 : decode b_R_work 89 = .ok (.iload_n 3, 1) := by decide +kernel
theorem d_R_work_90 : decode b_R_work 90 = .ok (.invokevirtual 107, 3) := by decide +kernel
theorem d_R_work_93 : decode b_R_work 93 = .ok (.iinc 3 1, 3) := by decide +kernel
theorem d_R_work_96 : decode b_R_work 96 = .ok (.goto (-36), 3) := by decide +kernel
theorem d_R_work_99 : decode b_R_work 99 = .ok (.iinc 2 (-1), 3) := by decide +kernel
theorem d_R_work_102 : decode b_R_work 102 = .ok (.goto (-90), 3) := by decide +kernel
theorem d_R_work_105 : decode b_R_work 105 = .ok (.return_, 1) := by decide +kernel
theorem d_R_clear_0 : decode b_R_clear 0 = .ok (.aload_n 0, 1) := by decide +kernel
theorem d_R_clear_1 : decode b_R_clear 1 = .ok (.getfield 57, 3) := by decide +kernel
theorem d_R_clear_4 : decode b_R_clear 4 = .ok (.iload_n 1, 1) := by decide +kernel
theorem d_R_clear_5 : decode b_R_clear 5 = .ok (.iconst 0, 1) := by decide +kernel
theorem d_R_clear_6 : decode b_R_clear 6 = .ok (.iastore, 1) := by decide +kernel
theorem d_R_clear_7 : decode b_R_clear 7 = .ok (.iconst 0, 1) := by decide +kernel
theorem d_R_clear_8 : decode b_R_clear 8 = .ok (.istore_n 2, 1) := by decide +kernel
theorem d_R_clear_9 : decode b_R_clear 9 = .ok (.iload_n 2, 1) := by decide +kernel
theorem d_R_clear_10 : decode b_R_clear 10 = .ok (.bipush 32, 2) := by decide +kernel
theorem d_R_clear_12 : decode b_R_clear 12 = .ok (.if_icmp .ge 21, 3) := by decide +kernel
theorem d_R_clear_15 : decode b_R_clear 15 = .ok (.aload_n 0, 1) := by decide +kernel
theorem d_R_clear_16 : decode b_R_clear 16 = .ok (.getfield 60, 3) := by decide +kernel
theorem d_R_clear_19 : decode b_R_clear 19 = .ok (.bipush 32, 2) := by decide +kernel
theorem d_R_clear_21 : decode b_R_clear 21 = .ok (.iload_n 1, 1) := by decide +kernel
theorem d_R_clear_22 : decode b_R_clear 22 = .ok (.imul, 1) := by decide +kernel
theorem d_R_clear_23 : decode b_R_clear 23 = .ok (.iload_n 2, 1) := by decide +kernel
theorem d_R_clear_24 : decode b_R_clear 24 = .ok (.iadd, 1) := by decide +kernel
theorem d_R_clear_25 : decode b_R_clear 25 = .ok (.iconst 0, 1) := by decide +kernel
theorem d_R_clear_26 : decode b_R_clear 26 = .ok (.iastore, 1) := by decide +kernel
theorem d_R_clear_27 : decode b_R_clear 27 = .ok (.iinc 2 1, 3) := by decide +kernel
theorem d_R_clear_30 : decode b_R_clear 30 = .ok (.goto (-21), 3) := by decide +kernel
theorem d_R_clear_33 : decode b_R_clear 33 = .ok (.iconst 0, 1) := by decide +kernel
theorem d_R_clear_34 : decode b_R_clear 34 = .ok (.istore_n 2, 1) := by decide +kernel
theorem d_R_clear_35 : decode b_R_clear 35 = .ok (.iload_n 2, 1) := by decide +kernel
theorem d_R_clear_36 : decode b_R_clear 36 = .ok (.bipush 64, 2) := by decide +kernel
theorem d_R_clear_38 : decode b_R_clear 38 = .ok (.if_icmp .ge 21, 3) := by decide +kernel
theorem d_R_clear_41 : decode b_R_clear 41 = .ok (.aload_n 0, 1) := by decide +kernel
theorem d_R_clear_42 : decode b_R_clear 42 = .ok (.getfield 63, 3) := by decide +kernel
theorem d_R_clear_45 : decode b_R_clear 45 = .ok (.bipush 64, 2) := by decide +kernel
theorem d_R_clear_47 : decode b_R_clear 47 = .ok (.iload_n 1, 1) := by decide +kernel
theorem d_R_clear_48 : decode b_R_clear 48 = .ok (.imul, 1) := by decide +kernel
theorem d_R_clear_49 : decode b_R_clear 49 = .ok (.iload_n 2, 1) := by decide +kernel
theorem d_R_clear_50 : decode b_R_clear 50 = .ok (.iadd, 1) := by decide +kernel
theorem d_R_clear_51 : decode b_R_clear 51 = .ok (.iconst 0, 1) := by decide +kernel
theorem d_R_clear_52 : decode b_R_clear 52 = .ok (.iastore, 1) := by decide +kernel
theorem d_R_clear_53 : decode b_R_clear 53 = .ok (.iinc 2 1, 3) := by decide +kernel
theorem d_R_clear_56 : decode b_R_clear 56 = .ok (.goto (-21), 3) := by decide +kernel
theorem d_R_clear_59 : decode b_R_clear 59 = .ok (.return_, 1) := by decide +kernel
