theorem d_R_counters_0 : decode b_R_counters 0 = .ok (.iconst 0, 1) := by decide +kernel
theorem d_R_counters_1 : decode b_R_counters 1 = .ok (.istore_n 2, 1) := by decide +kernel
theorem d_R_counters_2 : decode b_R_counters 2 = .ok (.iconst 0, 1) := by decide +kernel
theorem d_R_counters_3 : decode b_R_counters 3 = .ok (.istore_n 3, 1) := by decide +kernel
theorem d_R_counters_4 : decode b_R_counters 4 = .ok (.iload_n 3, 1) := by decide +kernel
theorem d_R_counters_5 : decode b_R_counters 5 = .ok (.bipush 32, 2) := by decide +kernel
theorem d_R_counters_7 : decode b_R_counters 7 = .ok (.if_icmp .ge 31, 3) := by decide +kernel
theorem d_R_counters_10 : decode b_R_counters 10 = .ok (.aload_n 0, 1) := by decide +kernel
theorem d_R_counters_11 : decode b_R_counters 11 = .ok (.getfield 60, 3) := by decide +kernel
theorem d_R_counters_14 : decode b_R_counters 14 = .ok (.bipush 32, 2) := by decide +kernel
theorem d_R_counters_16 : decode b_R_counters 16 = .ok (.iload_n 1, 1) := by decide +kernel
theorem d_R_counters_17 : decode b_R_counters 17 = .ok (.imul, 1) := by decide +kernel
theorem d_R_counters_18 : decode b_R_counters 18 = .ok (.iload_n 3, 1) := by decide +kernel
theorem d_R_counters_19 : decode b_R_counters 19 = .ok (.iadd, 1) := by decide +kernel
theorem d_R_counters_20 : decode b_R_counters 20 = .ok (.iaload, 1) := by decide +kernel
theorem d_R_counters_21 : decode b_R_counters 21 = .ok (.ifCond .le 9, 3) := by decide +kernel
theorem d_R_counters_24 : decode b_R_counters 24 = .ok (.iload_n 2, 1) := by decide +kernel
theorem d_R_counters_25 : decode b_R_counters 25 = .ok (.iconst 1, 1) := by decide +kernel
theorem d_R_counters_26 : decode b_R_counters 26 = .ok (.iadd, 1) := by decide +kernel
theorem d_R_counters_27 : decode b_R_counters 27 = .ok (.goto 4, 3) := by decide +kernel
theorem d_R_counters_30 : decode b_R_counters 30 = .ok (.iload_n 2, 1) := by decide +kernel
theorem d_R_counters_31 : decode b_R_counters 31 = .ok (.istore_n 2, 1) := by decide +kernel
theorem d_R_counters_32 : decode b_R_counters 32 = .ok (.iinc 3 1, 3) := by decide +kernel
theorem d_R_counters_35 : decode b_R_counters 35 = .ok (.goto (-31), 3) := by decide +kernel
theorem d_R_counters_38 : decode b_R_counters 38 = .ok (.iload_n 2, 1) := by decide +kernel
theorem d_R_counters_39 : decode b_R_counters 39 = .ok (.ireturn, 1) := by decide +kernel
theorem d_R_lower_0 : decode b_R_lower 0 = .ok (.iconst 0, 1) := by decide +kernel
theorem d_R_lower_1 : decode b_R_lower 1 = .ok (.istore_n 3, 1) := by decide +kernel
theorem d_R_lower_2 : decode b_R_lower 2 = .ok (.iload_n 3, 1) := by decide +kernel
theorem d_R_lower_3 : decode b_R_lower 3 = .ok (.bipush 32, 2) := by decide +kernel
theorem d_R_lower_5 : decode b_R_lower 5 = .ok (.if_icmp .ge 46, 3) := by decide +kernel
theorem d_R_lower_8 : decode b_R_lower 8 = .ok (.aload_n 0, 1) := by decide +kernel
theorem d_R_lower_9 : decode b_R_lower 9 = .ok (.getfield 60, 3) := by decide +kernel
theorem d_R_lower_12 : decode b_R_lower 12 = .ok (.bipush 32, 2) := by decide +kernel
theorem d_R_lower_14 : decode b_R_lower 14 = .ok (.iload_n 1, 1) := by decide +kernel
theorem d_R_lower_15 : decode b_R_lower 15 = .ok (.imul, 1) := by decide +kernel
theorem d_R_lower_16 : decode b_R_lower 16 = .ok (.iload_n 3, 1) := by decide +kernel
theorem d_R_lower_17 : decode b_R_lower 17 = .ok (.iadd, 1) := by decide +kernel
theorem d_R_lower_18 : decode b_R_lower 18 = .ok (.iaload, 1) := by decide +kernel
theorem d_R_lower_19 : decode b_R_lower 19 = .ok (.iload_n 2, 1) := by decide +kernel
theorem d_R_lower_20 : decode b_R_lower 20 = .ok (.isub, 1) := by decide +kernel
theorem d_R_lower_21 : decode b_R_lower 21 = .ok (.istore 4, 2) := by decide +kernel
theorem d_R_lower_23 : decode b_R_lower 23 = .ok (.aload_n 0, 1) := by decide +kernel
theorem d_R_lower_24 : decode b_R_lower 24 = .ok (.getfield 60, 3) := by decide +kernel
theorem d_R_lower_27 : decode b_R_lower 27 = .ok (.bipush 32, 2) := by decide +kernel
theorem d_R_lower_29 : decode b_R_lower 29 = .ok (.iload_n 1, 1) := by decide +kernel
theorem d_R_lower_30 : decode b_R_lower 30 = .ok (.imul, 1) := by decide +kernel
theorem d_R_lower_31 : decode b_R_lower 31 = .ok (.iload_n 3, 1) := by decide +kernel
theorem d_R_lower_32 : decode b_R_lower 32 = .ok (.iadd, 1) := by decide +kernel
theorem d_R_lower_33 : decode b_R_lower 33 = .ok (.iload 4, 2) := by decide +kernel
theorem d_R_lower_35 : decode b_R_lower 35 = .ok (.ifCond .le 8, 3) := by decide +kernel
theorem d_R_lower_38 : decode b_R_lower 38 = .ok (.iload 4, 2) := by decide +kernel
theorem d_R_lower_40 : decode b_R_lower 40 = .ok (.goto 4, 3) := by decide +kernel
theorem d_R_lower_43 : decode b_R_lower 43 = .ok (.iconst 0, 1) := by decide +kernel
theorem d_R_lower_44 : decode b_R_lower 44 = .ok (.iastore, 1) := by decide +kernel
theorem d_R_lower_45 : decode b_R_lower 45 = .ok (.iinc 3 1, 3) := by decide +kernel
theorem d_R_lower_48 : decode b_R_lower 48 = .ok (.goto (-46), 3) := by decide +kernel
theorem d_R_lower_51 : decode b_R_lower 51 = .ok (.return_, 1) := by decide +kernel
theorem d_R_take_0 : decode b_R_take 0 = .ok (.aload_n 0, 1) := by decide +kernel
theorem d_R_take_1 : decode b_R_take 1 = .ok (.getfield 57, 3) := by decide +kernel
theorem d_R_take_4 : decode b_R_take 4 = .ok (.iload_n 1, 1) := by decide +kernel
theorem d_R_take_5 : decode b_R_take 5 = .ok (.dup2, 1) := by decide +kernel
theorem d_R_take_6 : decode b_R_take 6 = .ok (.iaload, 1) := by decide +kernel
theorem d_R_take_7 : decode b_R_take 7 = .ok (.iconst 1, 1) := by decide +kernel
theorem d_R_take_8 : decode b_R_take 8 = .ok (.iadd, 1) := by decide +kernel
theorem d_R_take_9 : decode b_R_take 9 = .ok (.iastore, 1) := by decide +kernel
theorem d_R_take_10 : decode b_R_take 10 = .ok (.aload_n 0, 1) := by decide +kernel
theorem d_R_take_11 : decode b_R_take 11 = .ok (.getfield 60, 3) := by decide +kernel
theorem d_R_take_14 : decode b_R_take 14 = .ok (.bipush 32, 2) := by decide +kernel
theorem d_R_take_16 : decode b_R_take 16 = .ok (.iload_n 1, 1) := by decide +kernel
theorem d_R_take_17 : decode b_R_take 17 = .ok (.imul, 1) := by decide +kernel
theorem d_R_take_18 : decode b_R_take 18 = .ok (.iload_n 2, 1) := by decide +kernel
theorem d_R_take_19 : decode b_R_take 19 = .ok (.iadd, 1) := by decide +kernel
theorem d_R_take_20 : decode b_R_take 20 = .ok (.iaload, 1) := by decide +kernel
theorem d_R_take_21 : decode b_R_take 21 = .ok (.ifCond .gt 15, 3) := by decide +kernel
theorem d_R_take_24 : decode b_R_take 24 = .ok (.aload_n 0, 1) := by decide +kernel
theorem d_R_take_25 : decode b_R_take 25 = .ok (.iload_n 1, 1) := by decide +kernel
theorem d_R_take_26 : decode b_R_take 26 = .ok (.invokevirtual 110, 3) := by decide +kernel
theorem d_R_take_29 : decode b_R_take 29 = .ok (.aload_n 0, 1) := by decide +kernel
theorem d_R_take_30 : decode b_R_take 30 = .ok (.getfield 69, 3) := by decide +kernel
theorem d_R_take_33 : decode b_R_take 33 = .ok (.if_icmp .ge 21, 3) := by decide +kernel
theorem d_R_take_36 : decode b_R_take 36 = .ok (.aload_n 0, 1) := by decide +kernel
theorem d_R_take_37 : decode b_R_take 37 = .ok (.getfield 60, 3) := by decide +kernel
theorem d_R_take_40 : decode b_R_take 40 = .ok (.bipush 32, 2) := by decide +kernel
theorem d_R_take_42 : decode b_R_take 42 = .ok (.iload_n 1, 1) := by decide +kernel
theorem d_R_take_43 : decode b_R_take 43 = .ok (.imul, 1) := by decide +kernel
theorem d_R_take_44 : decode b_R_take 44 = .ok (.iload_n 2, 1) := by decide +kernel
theorem d_R_take_45 : decode b_R_take 45 = .ok (.iadd, 1) := by decide +kernel
theorem d_R_take_46 : decode b_R_take 46 = .ok (.dup2, 1) := by decide +kernel
theorem d_R_take_47 : decode b_R_take 47 = .ok (.iaload, 1) := by decide +kernel
theorem d_R_take_48 : decode b_R_take 48 = .ok (.iconst 1, 1) := by decide +kernel
theorem d_R_take_49 : decode b_R_take 49 = .ok (.iadd, 1) := by decide +kernel
theorem d_R_take_50 : decode b_R_take 50 = .ok (.iastore, 1) := by decide +kernel
theorem d_R_take_51 : decode b_R_take 51 = .ok (.goto 9, 3) := by decide +kernel
theorem d_R_take_54 : decode b_R_take 54 = .ok (.aload_n 0, 1) := by decide +kernel
theorem d_R_take_55 : decode b_R_take 55 = .ok (.iload_n 1, 1) := by decide +kernel
theorem d_R_take_56 : decode b_R_take 56 = .ok (.iconst 1, 1) := by decide +kernel
theorem d_R_take_57 : decode b_R_take 57 = .ok (.invokevirtual 113, 3) := by decide +kernel
theorem d_R_take_60 : decode b_R_take 60 = .ok (.aload_n 0, 1) := by decide +kernel
theorem d_R_take_61 : decode b_R_take 61 = .ok (.getfield 63, 3) := by decide +kernel
theorem d_R_take_64 : decode b_R_take 64 = .ok (.bipush 64, 2) := by decide +kernel
theorem d_R_take_66 : decode b_R_take 66 = .ok (.iload_n 1, 1) := by decide +kernel
theorem d_R_take_67 : decode b_R_take 67 = .ok (.imul, 1) := by decide +kernel
theorem d_R_take_68 : decode b_R_take 68 = .ok (.bipush 32, 2) := by decide +kernel
theorem d_R_take_70 : decode b_R_take 70 = .ok (.iadd, 1) := by decide +kernel
theorem d_R_take_71 : decode b_R_take 71 = .ok (.iload_n 2, 1) := by decide +kernel
theorem d_R_take_72 : decode b_R_take 72 = .ok (.iadd, 1) := by decide +kernel
theorem d_R_take_73 : decode b_R_take 73 = .ok (.dup2, 1) := by decide +kernel
theorem d_R_take_74 : decode b_R_take 74 = .ok (.iaload, 1) := by decide +kernel
theorem d_R_take_75 : decode b_R_take 75 = .ok (.iconst 1, 1) := by decide +kernel
theorem d_R_take_76 : decode b_R_take 76 = .ok (.iadd, 1) := by decide +kernel
theorem d_R_take_77 : decode b_R_take 77 = .ok (.iastore, 1) := by decide +kernel
theorem d_R_take_78 : decode b_R_take 78 = .ok (.aload_n 0, 1) := by decide +kernel
theorem d_R_take_79 : decode b_R_take 79 = .ok (.iload_n 1, 1) := by decide +kernel
theorem d_R_take_80 : decode b_R_take 80 = .ok (.invokevirtual 116, 3) := by decide +kernel
theorem d_R_take_83 : decode b_R_take 83 = .ok (.return_, 1) := by decide +kernel
theorem d_R_merge_0 : decode b_R_merge 0 = .ok (.aload_n 0, 1) := by decide +kernel
theorem d_R_merge_1 : decode b_R_merge 1 = .ok (.getfield 57, 3) := by decide +kernel
theorem d_R_merge_4 : decode b_R_merge 4 = .ok (.iload_n 1, 1) := by decide +kernel
theorem d_R_merge_5 : decode b_R_merge 5 = .ok (.aload_n 0, 1) := by decide +kernel
theorem d_R_merge_6 : decode b_R_merge 6 = .ok (.getfield 57, 3) := by decide +kernel
theorem d_R_merge_9 : decode b_R_merge 9 = .ok (.iload_n 1, 1) := by decide +kernel
theorem d_R_merge_10 : decode b_R_merge 10 = .ok (.iaload, 1) := by decide +kernel
theorem d_R_merge_11 : decode b_R_merge 11 = .ok (.aload_n 0, 1) := by decide +kernel
theorem d_R_merge_12 : decode b_R_merge 12 = .ok (.getfield 57, 3) := by decide +kernel
theorem d_R_merge_15 : decode b_R_merge 15 = .ok (.iload_n 2, 1) := by decide +kernel
theorem d_R_merge_16 : decode b_R_merge 16 = .ok (.iaload, 1) := by decide +kernel
theorem d_R_merge_17 : decode b_R_merge 17 = .ok (.iadd, 1) := by decide +kernel
theorem d_R_merge_18 : decode b_R_merge 18 = .ok (.iastore, 1) := by decide +kernel
theorem d_R_merge_19 : decode b_R_merge 19 = .ok (.iconst 0, 1) := by decide +kernel
theorem d_R_merge_20 : decode b_R_merge 20 = .ok (.istore_n 3, 1) := by decide +kernel
theorem d_R_merge_21 : decode b_R_merge 21 = .ok (.iload_n 3, 1) := by decide +kernel
theorem d_R_merge_22 : decode b_R_merge 22 = .ok (.bipush 32, 2) := by decide +kernel
theorem d_R_merge_24 : decode b_R_merge 24 = .ok (.if_icmp .ge 43, 3) := by decide +kernel
theorem d_R_merge_27 : decode b_R_merge 27 = .ok (.aload_n 0, 1) := by decide +kernel
theorem d_R_merge_28 : decode b_R_merge 28 = .ok (.getfield 60, 3) := by decide +kernel
theorem d_R_merge_31 : decode b_R_merge 31 = .ok (.bipush 32, 2) := by decide +kernel
theorem d_R_merge_33 : decode b_R_merge 33 = .ok (.iload_n 1, 1) := by decide +kernel
theorem d_R_merge_34 : decode b_R_merge 34 = .ok (.imul, 1) := by decide +kernel
theorem d_R_merge_35 : decode b_R_merge 35 = .ok (.iload_n 3, 1) := by decide +kernel
theorem d_R_merge_36 : decode b_R_merge 36 = .ok (.iadd, 1) := by decide +kernel
theorem d_R_merge_37 : decode b_R_merge 37 = .ok (.aload_n 0, 1) := by decide +kernel
theorem d_R_merge_38 : decode b_R_merge 38 = .ok (.getfield 60, 3) := by decide +kernel
theorem d_R_merge_41 : decode b_R_merge 41 = .ok (.bipush 32, 2) := by decide +kernel
theorem d_R_merge_43 : decode b_R_merge 43 = .ok (.iload_n 1, 1) := by decide +kernel
theorem d_R_merge_44 : decode b_R_merge 44 = .ok (.imul, 1) := by decide +kernel
theorem d_R_merge_45 : decode b_R_merge 45 = .ok (.iload_n 3, 1) := by decide +kernel
theorem d_R_merge_46 : decode b_R_merge 46 = .ok (.iadd, 1) := by decide +kernel
theorem d_R_merge_47 : decode b_R_merge 47 = .ok (.iaload, 1) := by decide +kernel
theorem d_R_merge_48 : decode b_R_merge 48 = .ok (.aload_n 0, 1) := by decide +kernel
theorem d_R_merge_49 : decode b_R_merge 49 = .ok (.getfield 60, 3) := by decide +kernel
theorem d_R_merge_52 : decode b_R_merge 52 = .ok (.bipush 32, 2) := by decide +kernel
theorem d_R_merge_54 : decode b_R_merge 54 = .ok (.iload_n 2, 1) := by decide +kernel
theorem d_R_merge_55 : decode b_R_merge 55 = .ok (.imul, 1) := by decide +kernel
theorem d_R_merge_56 : decode b_R_merge 56 = .ok (.iload_n 3, 1) := by decide +kernel
theorem d_R_merge_57 : decode b_R_merge 57 = .ok (.iadd, 1) := by decide +kernel
theorem d_R_merge_58 : decode b_R_merge 58 = .ok (.iaload, 1) := by decide +kernel
theorem d_R_merge_59 : decode b_R_merge 59 = .ok (.iadd, 1) := by decide +kernel
theorem d_R_merge_60 : decode b_R_merge 60 = .ok (.iastore, 1) := by decide +kernel
theorem d_R_merge_61 : decode b_R_merge 61 = .ok (.iinc 3 1, 3) := by decide +kernel
theorem d_R_merge_64 : decode b_R_merge 64 = .ok (.goto (-43), 3) := by decide +kernel
theorem d_R_merge_67 : decode b_R_merge 67 = .ok (.aload_n 0, 1) := by decide +kernel
theorem d_R_merge_68 : decode b_R_merge 68 = .ok (.iload_n 1, 1) := by decide +kernel
theorem d_R_merge_69 : decode b_R_merge 69 = .ok (.invokevirtual 110, 3) := by decide +kernel
theorem d_R_merge_72 : decode b_R_merge 72 = .ok (.aload_n 0, 1) := by decide +kernel
theorem d_R_merge_73 : decode b_R_merge 73 = .ok (.getfield 69, 3) := by decide +kernel
theorem d_R_merge_76 : decode b_R_merge 76 = .ok (.if_icmp .le 61, 3) := by decide +kernel
theorem d_R_merge_79 : decode b_R_merge 79 = .ok (.iconst 0, 1) := by decide +kernel
theorem d_R_merge_80 : decode b_R_merge 80 = .ok (.istore_n 3, 1) := by decide +kernel
theorem d_R_merge_81 : decode b_R_merge 81 = .ok (.aload_n 0, 1) := by decide +kernel
theorem d_R_merge_82 : decode b_R_merge 82 = .ok (.invokevirtual 119, 3) := by decide +kernel
theorem d_R_merge_85 : decode b_R_merge 85 = .ok (.iconst 0, 1) := by decide +kernel
theorem d_R_merge_86 : decode b_R_merge 86 = .ok (.istore 4, 2) := by decide +kernel
theorem d_R_merge_88 : decode b_R_merge 88 = .ok (.iload 4, 2) := by decide +kernel
theorem d_R_merge_90 : decode b_R_merge 90 = .ok (.aload_n 0, 1) := by decide +kernel
theorem d_R_merge_91 : decode b_R_merge 91 = .ok (.getfield 69, 3) := by decide +kernel
theorem d_R_merge_94 : decode b_R_merge 94 = .ok (.if_icmp .gt 37, 3) := by decide +kernel
theorem d_R_merge_97 : decode b_R_merge 97 = .ok (.aload_n 0, 1) := by decide +kernel
theorem d_R_merge_98 : decode b_R_merge 98 = .ok (.iload_n 1, 1) := by decide +kernel
theorem d_R_merge_99 : decode b_R_merge 99 = .ok (.invokevirtual 122, 3) := by decide +kernel
theorem d_R_merge_102 : decode b_R_merge 102 = .ok (.istore 5, 2) := by decide +kernel
theorem d_R_merge_104 : decode b_R_merge 104 = .ok (.aload_n 0, 1) := by decide +kernel
theorem d_R_merge_105 : decode b_R_merge 105 = .ok (.getfield 66, 3) := by decide +kernel
theorem d_R_merge_108 : decode b_R_merge 108 = .ok (.iload 5, 2) := by decide +kernel
theorem d_R_merge_110 : decode b_R_merge 110 = .ok (.iconst 1, 1) := by decide +kernel
theorem d_R_merge_111 : decode b_R_merge 111 = .ok (.bastore, 1) := by decide +kernel
theorem d_R_merge_112 : decode b_R_merge 112 = .ok (.aload_n 0, 1) := by decide +kernel
theorem d_R_merge_113 : decode b_R_merge 113 = .ok (.getfield 60, 3) := by decide +kernel
theorem d_R_merge_116 : decode b_R_merge 116 = .ok (.bipush 32, 2) := by decide +kernel
theorem d_R_merge_118 : decode b_R_merge 118 = .ok (.iload_n 1, 1) := by decide +kernel
theorem d_R_merge_119 : decode b_R_merge 119 = .ok (.imul, 1) := by decide +kernel
theorem d_R_merge_120 : decode b_R_merge 120 = .ok (.iload 5, 2) := by decide +kernel
theorem d_R_merge_122 : decode b_R_merge 122 = .ok (.iadd, 1) := by decide +kernel
theorem d_R_merge_123 : decode b_R_merge 123 = .ok (.iaload, 1) := by decide +kernel
theorem d_R_merge_124 : decode b_R_merge 124 = .ok (.istore_n 3, 1) := by decide +kernel
theorem d_R_merge_125 : decode b_R_merge 125 = .ok (.iinc 4 1, 3) := by decide +kernel
theorem d_R_merge_128 : decode b_R_merge 128 = .ok (.goto (-40), 3) := by decide +kernel
theorem d_R_merge_131 : decode b_R_merge 131 = .ok (.aload_n 0, 1) := by decide +kernel
theorem d_R_merge_132 : decode b_R_merge 132 = .ok (.iload_n 1, 1) := by decide +kernel
theorem d_R_merge_133 : decode b_R_merge 133 = .ok (.iload_n 3, 1) := by decide +kernel
theorem d_R_merge_134 : decode b_R_merge 134 = .ok (.invokevirtual 113, 3) := by decide +kernel
theorem d_R_merge_137 : decode b_R_merge 137 = .ok (.iconst 1, 1) := by decide +kernel
theorem d_R_merge_138 : decode b_R_merge 138 = .ok (.istore_n 3, 1) := by decide +kernel
theorem d_R_merge_139 : decode b_R_merge 139 = .ok (.iload_n 3, 1) := by decide +kernel
theorem d_R_merge_140 : decode b_R_merge 140 = .ok (.bipush 64, 2) := by decide +kernel
theorem d_R_merge_142 : decode b_R_merge 142 = .ok (.if_icmp .ge 43, 3) := by decide +kernel
theorem d_R_merge_145 : decode b_R_merge 145 = .ok (.aload_n 0, 1) := by decide +kernel
theorem d_R_merge_146 : decode b_R_merge 146 = .ok (.getfield 63, 3) := by decide +kernel
theorem d_R_merge_149 : decode b_R_merge 149 = .ok (.bipush 64, 2) := by decide +kernel
theorem d_R_merge_151 : decode b_R_merge 151 = .ok (.iload_n 1, 1) := by decide +kernel
theorem d_R_merge_152 : decode b_R_merge 152 = .ok (.imul, 1) := by decide +kernel
theorem d_R_merge_153 : decode b_R_merge 153 = .ok (.iload_n 3, 1) := by decide +kernel
theorem d_R_merge_154 : decode b_R_merge 154 = .ok (.iadd, 1) := by decide +kernel
theorem d_R_merge_155 : decode b_R_merge 155 = .ok (.aload_n 0, 1) := by decide +kernel
theorem d_R_merge_156 : decode b_R_merge 156 = .ok (.getfield 63, 3) := by decide +kernel
theorem d_R_merge_159 : decode b_R_merge 159 = .ok (.bipush 64, 2) := by decide +kernel
theorem d_R_merge_161 : decode b_R_merge 161 = .ok (.iload_n 1, 1) := by decide +kernel
theorem d_R_merge_162 : decode b_R_merge 162 = .ok (.imul, 1) := by decide +kernel
theorem d_R_merge_163 : decode b_R_merge 163 = .ok (.iload_n 3, 1) := by decide +kernel
theorem d_R_merge_164 : decode b_R_merge 164 = .ok (.iadd, 1) := by decide +kernel
theorem d_R_merge_165 : decode b_R_merge 165 = .ok (.iaload, 1) := by decide +kernel
theorem d_R_merge_166 : decode b_R_merge 166 = .ok (.aload_n 0, 1) := by decide +kernel
theorem d_R_merge_167 : decode b_R_merge 167 = .ok (.getfield 63, 3) := by decide +kernel
theorem d_R_merge_170 : decode b_R_merge 170 = .ok (.bipush 64, 2) := by decide +kernel
theorem d_R_merge_172 : decode b_R_merge 172 = .ok (.iload_n 2, 1) := by decide +kernel
theorem d_R_merge_173 : decode b_R_merge 173 = .ok (.imul, 1) := by decide +kernel
theorem d_R_merge_174 : decode b_R_merge 174 = .ok (.iload_n 3, 1) := by decide +kernel
theorem d_R_merge_175 : decode b_R_merge 175 = .ok (.iadd, 1) := by decide +kernel
theorem d_R_merge_176 : decode b_R_merge 176 = .ok (.iaload, 1) := by decide +kernel
theorem d_R_merge_177 : decode b_R_merge 177 = .ok (.iadd, 1) := by decide +kernel
theorem d_R_merge_178 : decode b_R_merge 178 = .ok (.iastore, 1) := by decide +kernel
theorem d_R_merge_179 : decode b_R_merge 179 = .ok (.iinc 3 1, 3) := by decide +kernel
theorem d_R_merge_182 : decode b_R_merge 182 = .ok (.goto (-43), 3) := by decide +kernel
theorem d_R_merge_185 : decode b_R_merge 185 = .ok (.aload_n 0, 1) := by decide +kernel
theorem d_R_merge_186 : decode b_R_merge 186 = .ok (.iload_n 1, 1) := by decide +kernel
theorem d_R_merge_187 : decode b_R_merge 187 = .ok (.invokevirtual 116, 3) := by decide +kernel
theorem d_R_merge_190 : decode b_R_merge 190 = .ok (.return_, 1) := by decide +kernel
theorem d_R_clearUsed_0 : decode b_R_clearUsed 0 = .ok (.iconst 0, 1) := by decide +kernel
theorem d_R_clearUsed_1 : decode b_R_clearUsed 1 = .ok (.istore_n 1, 1) := by decide +kernel
theorem d_R_clearUsed_2 : decode b_R_clearUsed 2 = .ok (.iload_n 1, 1) := by decide +kernel
theorem d_R_clearUsed_3 : decode b_R_clearUsed 3 = .ok (.bipush 32, 2) := by decide +kernel
theorem d_R_clearUsed_5 : decode b_R_clearUsed 5 = .ok (.if_icmp .ge 16, 3) := by decide +kernel
theorem d_R_clearUsed_8 : decode b_R_clearUsed 8 = .ok (.aload_n 0, 1) := by decide +kernel
theorem d_R_clearUsed_9 : decode b_R_clearUsed 9 = .ok (.getfield 66, 3) := by decide +kernel
theorem d_R_clearUsed_12 : decode b_R_clearUsed 12 = .ok (.iload_n 1, 1) := by decide +kernel
theorem d_R_clearUsed_13 : decode b_R_clearUsed 13 = .ok (.iconst 0, 1) := by decide +kernel
theorem d_R_clearUsed_14 : decode b_R_clearUsed 14 = .ok (.bastore, 1) := by decide +kernel
theorem d_R_clearUsed_15 : decode b_R_clearUsed 15 = .ok (.iinc 1 1, 3) := by decide +kernel
theorem d_R_clearUsed_18 : decode b_R_clearUsed 18 = .ok (.goto (-16), 3) := by decide +kernel
theorem d_R_clearUsed_21 : decode b_R_clearUsed 21 = .ok (.return_, 1) := by decide +kernel
theorem d_R_greatestUnused_0 : decode b_R_greatestUnused 0 = .ok (.iconst (-1), 1) := by decide +kernel
theorem d_R_greatestUnused_1 : decode b_R_greatestUnused 1 = .ok (.istore_n 2, 1) := by decide +kernel
theorem d_R_greatestUnused_2 : decode b_R_greatestUnused 2 = .ok (.iconst 0, 1) := by decide +kernel
theorem d_R_greatestUnused_3 : decode b_R_greatestUnused 3 = .ok (.istore_n 3, 1) := by decide +kernel
theorem d_R_greatestUnused_4 : decode b_R_greatestUnused 4 = .ok (.iload_n 3, 1) := by decide +kernel
theorem d_R_greatestUnused_5 : decode b_R_greatestUnused 5 = .ok (.bipush 32, 2) := by decide +kernel
theorem d_R_greatestUnused_7 : decode b_R_greatestUnused 7 = .ok (.if_icmp .ge 49, 3) := by decide +kernel
theorem d_R_greatestUnused_10 : decode b_R_greatestUnused 10 = .ok (.aload_n 0, 1) := by decide +kernel
theorem d_R_greatestUnused_11 : decode b_R_greatestUnused 11 = .ok (.getfield 66, 3) := by decide +kernel
theorem d_R_greatestUnused_14 : decode b_R_greatestUnused 14 = .ok (.iload_n 3, 1) := by decide +kernel
theorem d_R_greatestUnused_15 : decode b_R_greatestUnused 15 = .ok (.baload, 1) := by decide +kernel
theorem d_R_greatestUnused_16 : decode b_R_greatestUnused 16 = .ok (.ifCond .ne 34, 3) := by decide +kernel
theorem d_R_greatestUnused_19 : decode b_R_greatestUnused 19 = .ok (.iload_n 2, 1) := by decide +kernel
theorem d_R_greatestUnused_20 : decode b_R_greatestUnused 20 = .ok (.ifCond .lt 28, 3) := by decide +kernel
theorem d_R_greatestUnused_23 : decode b_R_greatestUnused 23 = .ok (.aload_n 0, 1) := by decide +kernel
theorem d_R_greatestUnused_24 : decode b_R_greatestUnused 24 = .ok (.getfield 60, 3) := by decide +kernel
theorem d_R_greatestUnused_27 : decode b_R_greatestUnused 27 = .ok (.bipush 32, 2) := by decide +kernel
theorem d_R_greatestUnused_29 : decode b_R_greatestUnused 29 = .ok (.iload_n 1, 1) := by decide +kernel
theorem d_R_greatestUnused_30 : decode b_R_greatestUnused 30 = .ok (.imul, 1) := by decide +kernel
theorem d_R_greatestUnused_31 : decode b_R_greatestUnused 31 = .ok (.iload_n 3, 1) := by decide +kernel
theorem d_R_greatestUnused_32 : decode b_R_greatestUnused 32 = .ok (.iadd, 1) := by decide +kernel
theorem d_R_greatestUnused_33 : decode b_R_greatestUnused 33 = .ok (.iaload, 1) := by decide +kernel
theorem d_R_greatestUnused_34 : decode b_R_greatestUnused 34 = .ok (.aload_n 0, 1) := by decide +kernel
theorem d_R_greatestUnused_35 : decode b_R_greatestUnused 35 = .ok (.getfield 60, 3) := by decide +kernel
theorem d_R_greatestUnused_38 : decode b_R_greatestUnused 38 = .ok (.bipush 32, 2) := by decide +kernel
theorem d_R_greatestUnused_40 : decode b_R_greatestUnused 40 = .ok (.iload_n 1, 1) := by decide +kernel
theorem d_R_greatestUnused_41 : decode b_R_greatestUnused 41 = .ok (.imul, 1) := by decide +kernel
theorem d_R_greatestUnused_42 : decode b_R_greatestUnused 42 = .ok (.iload_n 2, 1) := by decide +kernel
theorem d_R_greatestUnused_43 : decode b_R_greatestUnused 43 = .ok (.iadd, 1) := by decide +kernel
theorem d_R_greatestUnused_44 : decode b_R_greatestUnused 44 = .ok (.iaload, 1) := by decide +kernel
theorem d_R_greatestUnused_45 : decode b_R_greatestUnused 45 = .ok (.if_icmp .le 5, 3) := by decide +kernel
theorem d_R_greatestUnused_48 : decode b_R_greatestUnused 48 = .ok (.iload_n 3, 1) := by decide +kernel
theorem d_R_greatestUnused_49 : decode b_R_greatestUnused 49 = .ok (.istore_n 2, 1) := by decide +kernel
theorem d_R_greatestUnused_50 : decode b_R_greatestUnused 50 = .ok (.iinc 3 1, 3) := by decide +kernel
theorem d_R_greatestUnused_53 : decode b_R_greatestUnused 53 = .ok (.goto (-49), 3) := by decide +kernel
theorem d_R_greatestUnused_56 : decode b_R_greatestUnused 56 = .ok (.iload_n 2, 1) := by decide +kernel
theorem d_R_greatestUnused_57 : decode b_R_greatestUnused 57 = .ok (.ireturn, 1) := by decide +kernel
theorem d_R_compress_0 : decode b_R_compress 0 = .ok (.aload_n 0, 1) := by decide +kernel
theorem d_R_compress_1 : decode b_R_compress 1 = .ok (.getfield 57, 3) := by decide +kernel
theorem d_R_compress_4 : decode b_R_compress 4 = .ok (.iload_n 1, 1) := by decide +kernel
theorem d_R_compress_5 : decode b_R_compress 5 = .ok (.iaload, 1) := by decide +kernel
theorem d_R_compress_6 : decode b_R_compress 6 = .ok (.aload_n 0, 1) := by decide +kernel
theorem d_R_compress_7 : decode b_R_compress 7 = .ok (.getfield 72, 3) := by decide +kernel
theorem d_R_compress_10 : decode b_R_compress 10 = .ok (.idiv, 1) := by decide +kernel
theorem d_R_compress_11 : decode b_R_compress 11 = .ok (.istore_n 2, 1) := by decide +kernel
theorem d_R_compress_12 : decode b_R_compress 12 = .ok (.iconst 1, 1) := by decide +kernel
theorem d_R_compress_13 : decode b_R_compress 13 = .ok (.istore_n 3, 1) := by decide +kernel
theorem d_R_compress_14 : decode b_R_compress 14 = .ok (.iconst 0, 1) := by decide +kernel
theorem d_R_compress_15 : decode b_R_compress 15 = .ok (.istore 4, 2) := by decide +kernel
theorem d_R_compress_17 : decode b_R_compress 17 = .ok (.iload 4, 2) := by decide +kernel
theorem d_R_compress_19 : decode b_R_compress 19 = .ok (.sipush 4000, 3) := by decide +kernel
theorem d_R_compress_22 : decode b_R_compress 22 = .ok (.if_icmp .ge 126, 3) := by decide +kernel
theorem d_R_compress_25 : decode b_R_compress 25 = .ok (.iload_n 3, 1) := by decide +kernel
theorem d_R_compress_26 : decode b_R_compress 26 = .ok (.ifCond .eq 122, 3) := by decide +kernel
theorem d_R_compress_29 : decode b_R_compress 29 = .ok (.iconst 0, 1) := by decide +kernel
theorem d_R_compress_30 : decode b_R_compress 30 = .ok (.istore_n 3, 1) := by decide +kernel
theorem d_R_compress_31 : decode b_R_compress 31 = .ok (.bipush 31, 2) := by decide +kernel
theorem d_R_compress_33 : decode b_R_compress 33 = .ok (.istore 5, 2) := by decide +kernel
theorem d_R_compress_35 : decode b_R_compress 35 = .ok (.iload 5, 2) := by decide +kernel
theorem d_R_compress_37 : decode b_R_compress 37 = .ok (.iconst 1, 1) := by decide +kernel
theorem d_R_compress_38 : decode b_R_compress 38 = .ok (.if_icmp .lt 104, 3) := by decide +kernel
theorem d_R_compress_41 : decode b_R_compress 41 = .ok (.bipush 64, 2) := by decide +kernel
theorem d_R_compress_43 : decode b_R_compress 43 = .ok (.iload_n 1, 1) := by decide +kernel
theorem d_R_compress_44 : decode b_R_compress 44 = .ok (.imul, 1) := by decide +kernel
theorem d_R_compress_45 : decode b_R_compress 45 = .ok (.iload 5, 2) := by decide +kernel
theorem d_R_compress_47 : decode b_R_compress 47 = .ok (.iadd, 1) := by decide +kernel
theorem d_R_compress_48 : decode b_R_compress 48 = .ok (.istore 6, 2) := by decide +kernel
theorem d_R_compress_50 : decode b_R_compress 50 = .ok (.bipush 64, 2) := by decide +kernel
theorem d_R_compress_52 : decode b_R_compress 52 = .ok (.iload_n 1, 1) := by decide +kernel
theorem d_R_compress_53 : decode b_R_compress 53 = .ok (.imul, 1) := by decide +kernel
theorem d_R_compress_54 : decode b_R_compress 54 = .ok (.iconst 2, 1) := by decide +kernel
theorem d_R_compress_55 : decode b_R_compress 55 = .ok (.iload 5, 2) := by decide +kernel
theorem d_R_compress_57 : decode b_R_compress 57 = .ok (.imul, 1) := by decide +kernel
theorem d_R_compress_58 : decode b_R_compress 58 = .ok (.iadd, 1) := by decide +kernel
theorem d_R_compress_59 : decode b_R_compress 59 = .ok (.istore 7, 2) := by decide +kernel
theorem d_R_compress_61 : decode b_R_compress 61 = .ok (.aload_n 0, 1) := by decide +kernel
theorem d_R_compress_62 : decode b_R_compress 62 = .ok (.getfield 63, 3) := by decide +kernel
theorem d_R_compress_65 : decode b_R_compress 65 = .ok (.iload 7, 2) := by decide +kernel
theorem d_R_compress_67 : decode b_R_compress 67 = .ok (.iaload, 1) := by decide +kernel
theorem d_R_compress_68 : decode b_R_compress 68 = .ok (.aload_n 0, 1) := by decide +kernel
theorem d_R_compress_69 : decode b_R_compress 69 = .ok (.getfield 63, 3) := by decide +kernel
theorem d_R_compress_72 : decode b_R_compress 72 = .ok (.iload 7, 2) := by decide +kernel
theorem d_R_compress_74 : decode b_R_compress 74 = .ok (.iconst 1, 1) := by decide +kernel
theorem d_R_compress_75 : decode b_R_compress 75 = .ok (.iadd, 1) := by decide +kernel
theorem d_R_compress_76 : decode b_R_compress 76 = .ok (.iaload, 1) := by decide +kernel
theorem d_R_compress_77 : decode b_R_compress 77 = .ok (.iadd, 1) := by decide +kernel
theorem d_R_compress_78 : decode b_R_compress 78 = .ok (.istore 8, 2) := by decide +kernel
theorem d_R_compress_80 : decode b_R_compress 80 = .ok (.iload 8, 2) := by decide +kernel
theorem d_R_compress_82 : decode b_R_compress 82 = .ok (.ifCond .le 54, 3) := by decide +kernel
theorem d_R_compress_85 : decode b_R_compress 85 = .ok (.aload_n 0, 1) := by decide +kernel
theorem d_R_compress_86 : decode b_R_compress 86 = .ok (.getfield 63, 3) := by decide +kernel
theorem d_R_compress_89 : decode b_R_compress 89 = .ok (.iload 6, 2) := by decide +kernel
theorem d_R_compress_91 : decode b_R_compress 91 = .ok (.iaload, 1) := by decide +kernel
theorem d_R_compress_92 : decode b_R_compress 92 = .ok (.iload 8, 2) := by decide +kernel
theorem d_R_compress_94 : decode b_R_compress 94 = .ok (.iadd, 1) := by decide +kernel
theorem d_R_compress_95 : decode b_R_compress 95 = .ok (.iload_n 2, 1) := by decide +kernel
theorem d_R_compress_96 : decode b_R_compress 96 = .ok (.if_icmp .gt 40, 3) := by decide +kernel
theorem d_R_compress_99 : decode b_R_compress 99 = .ok (.aload_n 0, 1) := by decide +kernel
theorem d_R_compress_100 : decode b_R_compress 100 = .ok (.getfield 63, 3) := by decide +kernel
theorem d_R_compress_103 : decode b_R_compress 103 = .ok (.iload 6, 2) := by decide +kernel
theorem d_R_compress_105 : decode b_R_compress 105 = .ok (.aload_n 0, 1) := by decide +kernel
theorem d_R_compress_106 : decode b_R_compress 106 = .ok (.getfield 63, 3) := by decide +kernel
theorem d_R_compress_109 : decode b_R_compress 109 = .ok (.iload 6, 2) := by decide +kernel
theorem d_R_compress_111 : decode b_R_compress 111 = .ok (.iaload, 1) := by decide +kernel
theorem d_R_compress_112 : decode b_R_compress 112 = .ok (.iload 8, 2) := by decide +kernel
theorem d_R_compress_114 : decode b_R_compress 114 = .ok (.iadd, 1) := by decide +kernel
theorem d_R_compress_115 : decode b_R_compress 115 = .ok (.iastore, 1) := by decide +kernel
theorem d_R_compress_116 : decode b_R_compress 116 = .ok (.aload_n 0, 1) := by decide +kernel
theorem d_R_compress_117 : decode b_R_compress 117 = .ok (.getfield 63, 3) := by decide +kernel
theorem d_R_compress_120 : decode b_R_compress 120 = .ok (.iload 7, 2) := by decide +kernel
theorem d_R_compress_122 : decode b_R_compress 122 = .ok (.iconst 0, 1) := by decide +kernel
theorem d_R_compress_123 : decode b_R_compress 123 = .ok (.iastore, 1) := by decide +kernel
theorem d_R_compress_124 : decode b_R_compress 124 = .ok (.aload_n 0, 1) := by decide +kernel
theorem d_R_compress_125 : decode b_R_compress 125 = .ok (.getfield 63, 3) := by decide +kernel
theorem d_R_compress_128 : decode b_R_compress 128 = .ok (.iload 7, 2) := by decide +kernel
theorem d_R_compress_130 : decode b_R_compress 130 = .ok (.iconst 1, 1) := by decide +kernel
theorem d_R_compress_131 : decode b_R_compress 131 = .ok (.iadd, 1) := by decide +kernel
theorem d_R_compress_132 : decode b_R_compress 132 = .ok (.iconst 0, 1) := by decide +kernel
theorem d_R_compress_133 : decode b_R_compress 133 = .ok (.iastore, 1) := by decide +kernel
theorem d_R_compress_134 : decode b_R_compress 134 = .ok (.iconst 1, 1) := by decide +kernel
theorem d_R_compress_135 : decode b_R_compress 135 = .ok (.istore_n 3, 1) := by decide +kernel
theorem d_R_compress_136 : decode b_R_compress 136 = .ok (.iinc 5 (-1), 3) := by decide +kernel
theorem d_R_compress_139 : decode b_R_compress 139 = .ok (.goto (-104), 3) := by decide +kernel
theorem d_R_compress_142 : decode b_R_compress 142 = .ok (.iinc 4 1, 3) := by decide +kernel
theorem d_R_compress_145 : decode b_R_compress 145 = .ok (.goto (-128), 3) := by decide +kernel
theorem d_R_compress_148 : decode b_R_compress 148 = .ok (.return_, 1) := by decide +kernel
theorem d_R_total_0 : decode b_R_total 0 = .ok (.aload_n 0, 1) := by decide +kernel
theorem d_R_total_1 : decode b_R_total 1 = .ok (.iload_n 1, 1) := by decide +kernel
theorem d_R_total_2 : decode b_R_total 2 = .ok (.invokevirtual 75, 3) := by decide +kernel
theorem d_R_total_5 : decode b_R_total 5 = .ok (.ifCond .ne 5, 3) := by decide +kernel
theorem d_R_total_8 : decode b_R_total 8 = .ok (.iconst (-1), 1) := by decide +kernel
theorem d_R_total_9 : decode b_R_total 9 = .ok (.ireturn, 1) := by decide +kernel
theorem d_R_total_10 : decode b_R_total 10 = .ok (.aload_n 0, 1) := by decide +kernel
theorem d_R_total_11 : decode b_R_total 11 = .ok (.iload_n 1, 1) := by decide +kernel
theorem d_R_total_12 : decode b_R_total 12 = .ok (.invokevirtual 90, 3) := by decide +kernel
theorem d_R_total_15 : decode b_R_total 15 = .ok (.iconst 0, 1) := by decide +kernel
theorem d_R_total_16 : decode b_R_total 16 = .ok (.istore_n 2, 1) := by decide +kernel
theorem d_R_total_17 : decode b_R_total 17 = .ok (.iconst 0, 1) := by decide +kernel
theorem d_R_total_18 : decode b_R_total 18 = .ok (.istore_n 3, 1) := by decide +kernel
theorem d_R_total_19 : decode b_R_total 19 = .ok (.iload_n 3, 1) := by decide +kernel
theorem d_R_total_20 : decode b_R_total 20 = .ok (.bipush 12, 2) := by decide +kernel
theorem d_R_total_22 : decode b_R_total 22 = .ok (.if_icmp .ge 18, 3) := by decide +kernel
theorem d_R_total_25 : decode b_R_total 25 = .ok (.iload_n 2, 1) := by decide +kernel
theorem d_R_total_26 : decode b_R_total 26 = .ok (.aload_n 0, 1) := by decide +kernel
theorem d_R_total_27 : decode b_R_total 27 = .ok (.getfield 54, 3) := by decide +kernel
theorem d_R_total_30 : decode b_R_total 30 = .ok (.iload_n 3, 1) := by decide +kernel
theorem d_R_total_31 : decode b_R_total 31 = .ok (.iaload, 1) := by decide +kernel
theorem d_R_total_32 : decode b_R_total 32 = .ok (.iadd, 1) := by decide +kernel
theorem d_R_total_33 : decode b_R_total 33 = .ok (.istore_n 2, 1) := by decide +kernel
theorem d_R_total_34 : decode b_R_total 34 = .ok (.iinc 3 1, 3) := by decide +kernel
theorem d_R_total_37 : decode b_R_total 37 = .ok (.goto (-18), 3) := by decide +kernel
theorem d_R_total_40 : decode b_R_total 40 = .ok (.iload_n 2, 1) := by decide +kernel
theorem d_R_total_41 : decode b_R_total 41 = .ok (.ireturn, 1) := by decide +kernel
theorem d_R_sum_0 : decode b_R_sum 0 = .ok (.aload_n 0, 1) := by decide +kernel
theorem d_R_sum_1 : decode b_R_sum 1 = .ok (.iload_n 1, 1) := by decide +kernel
theorem d_R_sum_2 : decode b_R_sum 2 = .ok (.invokevirtual 75, 3) := by decide +kernel
theorem d_R_sum_5 : decode b_R_sum 5 = .ok (.ifCond .ne 7, 3) := by decide +kernel
theorem d_R_sum_8 : decode b_R_sum 8 = .ok (.ldc2_w 125, 3) := by decide +kernel
theorem d_R_sum_11 : decode b_R_sum 11 = .ok (.lreturn, 1) := by decide +kernel
theorem d_R_sum_12 : decode b_R_sum 12 = .ok (.aload_n 0, 1) := by decide +kernel
theorem d_R_sum_13 : decode b_R_sum 13 = .ok (.iload_n 1, 1) := by decide +kernel
theorem d_R_sum_14 : decode b_R_sum 14 = .ok (.invokevirtual 90, 3) := by decide +kernel
theorem d_R_sum_17 : decode b_R_sum 17 = .ok (.lconst 0, 1) := by decide +kernel
theorem d_R_sum_18 : decode b_R_sum 18 = .ok (.lstore_n 2, 1) := by decide +kernel
theorem d_R_sum_19 : decode b_R_sum 19 = .ok (.iconst 0, 1) := by decide +kernel
theorem d_R_sum_20 : decode b_R_sum 20 = .ok (.istore 4, 2) := by decide +kernel
theorem d_R_sum_22 : decode b_R_sum 22 = .ok (.iload 4, 2) := by decide +kernel
theorem d_R_sum_24 : decode b_R_sum 24 = .ok (.bipush 12, 2) := by decide +kernel
theorem d_R_sum_26 : decode b_R_sum 26 = .ok (.if_icmp .ge 47, 3) := by decide +kernel
theorem d_R_sum_29 : decode b_R_sum 29 = .ok (.iconst 0, 1) := by decide +kernel
theorem d_R_sum_30 : decode b_R_sum 30 = .ok (.istore 5, 2) := by decide +kernel
theorem d_R_sum_32 : decode b_R_sum 32 = .ok (.iload 5, 2) := by decide +kernel
theorem d_R_sum_34 : decode b_R_sum 34 = .ok (.aload_n 0, 1) := by decide +kernel
theorem d_R_sum_35 : decode b_R_sum 35 = .ok (.getfield 54, 3) := by decide +kernel
theorem d_R_sum_38 : decode b_R_sum 38 = .ok (.iload 4, 2) := by decide +kernel
theorem d_R_sum_40 : decode b_R_sum 40 = .ok (.iaload, 1) := by decide +kernel
theorem d_R_sum_41 : decode b_R_sum 41 = .ok (.if_icmp .ge 26, 3) := by decide +kernel
theorem d_R_sum_44 : decode b_R_sum 44 = .ok (.lload_n 2, 1) := by decide +kernel
theorem d_R_sum_45 : decode b_R_sum 45 = .ok (.aload_n 0, 1) := by decide +kernel
theorem d_R_sum_46 : decode b_R_sum 46 = .ok (.getfield 24, 3) := by decide +kernel
theorem d_R_sum_49 : decode b_R_sum 49 = .ok (.bipush 48, 2) := by decide +kernel
theorem d_R_sum_51 : decode b_R_sum 51 = .ok (.iload 4, 2) := by decide +kernel
theorem d_R_sum_53 : decode b_R_sum 53 = .ok (.imul, 1) := by decide +kernel
theorem d_R_sum_54 : decode b_R_sum 54 = .ok (.iload 5, 2) := by decide +kernel
theorem d_R_sum_56 : decode b_R_sum 56 = .ok (.iadd, 1) := by decide +kernel
theorem d_R_sum_57 : decode b_R_sum 57 = .ok (.iaload, 1) := by decide +kernel
theorem d_R_sum_58 : decode b_R_sum 58 = .ok (.i2l, 1) := by decide +kernel
theorem d_R_sum_59 : decode b_R_sum 59 = .ok (.ladd, 1) := by decide +kernel
theorem d_R_sum_60 : decode b_R_sum 60 = .ok (.lstore_n 2, 1) := by decide +kernel
theorem d_R_sum_61 : decode b_R_sum 61 = .ok (.iinc 5 1, 3) := by decide +kernel
theorem d_R_sum_64 : decode b_R_sum 64 = .ok (.goto (-32), 3) := by decide +kernel
theorem d_R_sum_67 : decode b_R_sum 67 = .ok (.iinc 4 1, 3) := by decide +kernel
theorem d_R_sum_70 : decode b_R_sum 70 = .ok (.goto (-48), 3) := by decide +kernel
theorem d_R_sum_73 : decode b_R_sum 73 = .ok (.lload_n 2, 1) := by decide +kernel
theorem d_R_sum_74 : decode b_R_sum 74 = .ok (.lreturn, 1) := by decide +kernel
theorem d_R_extreme_0 : decode b_R_extreme 0 = .ok (.aload_n 0, 1) := by decide +kernel
theorem d_R_extreme_1 : decode b_R_extreme 1 = .ok (.iload_n 1, 1) := by decide +kernel
theorem d_R_extreme_2 : decode b_R_extreme 2 = .ok (.invokevirtual 75, 3) := by decide +kernel
theorem d_R_extreme_5 : decode b_R_extreme 5 = .ok (.ifCond .ne 5, 3) := by decide +kernel
theorem d_R_extreme_8 : decode b_R_extreme 8 = .ok (.iconst (-1), 1) := by decide +kernel
theorem d_R_extreme_9 : decode b_R_extreme 9 = .ok (.ireturn, 1) := by decide +kernel
theorem d_R_extreme_10 : decode b_R_extreme 10 = .ok (.aload_n 0, 1) := by decide +kernel
theorem d_R_extreme_11 : decode b_R_extreme 11 = .ok (.iload_n 1, 1) := by decide +kernel
theorem d_R_extreme_12 : decode b_R_extreme 12 = .ok (.invokevirtual 90, 3) := by decide +kernel
theorem d_R_extreme_15 : decode b_R_extreme 15 = .ok (.iconst (-1), 1) := by decide +kernel
theorem d_R_extreme_16 : decode b_R_extreme 16 = .ok (.istore_n 3, 1) := by decide +kernel
theorem d_R_extreme_17 : decode b_R_extreme 17 = .ok (.iconst 0, 1) := by decide +kernel
theorem d_R_extreme_18 : decode b_R_extreme 18 = .ok (.istore 4, 2) := by decide +kernel
theorem d_R_extreme_20 : decode b_R_extreme 20 = .ok (.iload 4, 2) := by decide +kernel
theorem d_R_extreme_22 : decode b_R_extreme 22 = .ok (.bipush 12, 2) := by decide +kernel
theorem d_R_extreme_24 : decode b_R_extreme 24 = .ok (.if_icmp .ge 75, 3) := by decide +kernel
theorem d_R_extreme_27 : decode b_R_extreme 27 = .ok (.iconst 0, 1) := by decide +kernel
theorem d_R_extreme_28 : decode b_R_extreme 28 = .ok (.istore 5, 2) := by decide +kernel
theorem d_R_extreme_30 : decode b_R_extreme 30 = .ok (.iload 5, 2) := by decide +kernel
theorem d_R_extreme_32 : decode b_R_extreme 32 = .ok (.aload_n 0, 1) := by decide +kernel
theorem d_R_extreme_33 : decode b_R_extreme 33 = .ok (.getfield 54, 3) := by decide +kernel
theorem d_R_extreme_36 : decode b_R_extreme 36 = .ok (.iload 4, 2) := by decide +kernel
theorem d_R_extreme_38 : decode b_R_extreme 38 = .ok (.iaload, 1) := by decide +kernel
theorem d_R_extreme_39 : decode b_R_extreme 39 = .ok (.if_icmp .ge 54, 3) := by decide +kernel
theorem d_R_extreme_42 : decode b_R_extreme 42 = .ok (.aload_n 0, 1) := by decide +kernel
theorem d_R_extreme_43 : decode b_R_extreme 43 = .ok (.getfield 24, 3) := by decide +kernel
theorem d_R_extreme_46 : decode b_R_extreme 46 = .ok (.bipush 48, 2) := by decide +kernel
theorem d_R_extreme_48 : decode b_R_extreme 48 = .ok (.iload 4, 2) := by decide +kernel
theorem d_R_extreme_50 : decode b_R_extreme 50 = .ok (.imul, 1) := by decide +kernel
theorem d_R_extreme_51 : decode b_R_extreme 51 = .ok (.iload 5, 2) := by decide +kernel
theorem d_R_extreme_53 : decode b_R_extreme 53 = .ok (.iadd, 1) := by decide +kernel
theorem d_R_extreme_54 : decode b_R_extreme 54 = .ok (.iaload, 1) := by decide +kernel
theorem d_R_extreme_55 : decode b_R_extreme 55 = .ok (.istore 6, 2) := by decide +kernel
theorem d_R_extreme_57 : decode b_R_extreme 57 = .ok (.iload_n 3, 1) := by decide +kernel
theorem d_R_extreme_58 : decode b_R_extreme 58 = .ok (.ifCond .lt 22, 3) := by decide +kernel
theorem d_R_extreme_61 : decode b_R_extreme 61 = .ok (.iload_n 2, 1) := by decide +kernel
theorem d_R_extreme_62 : decode b_R_extreme 62 = .ok (.ifCond .eq 12, 3) := by decide +kernel
theorem d_R_extreme_65 : decode b_R_extreme 65 = .ok (.iload 6, 2) := by decide +kernel
theorem d_R_extreme_67 : decode b_R_extreme 67 = .ok (.iload_n 3, 1) := by decide +kernel
theorem d_R_extreme_68 : decode b_R_extreme 68 = .ok (.if_icmp .le 17, 3) := by decide +kernel
theorem d_R_extreme_71 : decode b_R_extreme 71 = .ok (.goto 9, 3) := by decide +kernel
theorem d_R_extreme_74 : decode b_R_extreme 74 = .ok (.iload 6, 2) := by decide +kernel
theorem d_R_extreme_76 : decode b_R_extreme 76 = .ok (.iload_n 3, 1) := by decide +kernel
theorem d_R_extreme_77 : decode b_R_extreme 77 = .ok (.if_icmp .ge 8, 3) := by decide +kernel
theorem d_R_extreme_80 : decode b_R_extreme 80 = .ok (.iload 6, 2) := by decide +kernel
theorem d_R_extreme_82 : decode b_R_extreme 82 = .ok (.goto 4, 3) := by decide +kernel
theorem d_R_extreme_85 : decode b_R_extreme 85 = .ok (.iload_n 3, 1) := by decide +kernel
theorem d_R_extreme_86 : decode b_R_extreme 86 = .ok (.istore_n 3, 1) := by decide +kernel
theorem d_R_extreme_87 : decode b_R_extreme 87 = .ok (.iinc 5 1, 3) := by decide +kernel
theorem d_R_extreme_90 : decode b_R_extreme 90 = .ok (.goto (-60), 3) := by decide +kernel
theorem d_R_extreme_93 : decode b_R_extreme 93 = .ok (.iinc 4 1, 3) := by decide +kernel
theorem d_R_extreme_96 : decode b_R_extreme 96 = .ok (.goto (-76), 3) := by decide +kernel
theorem d_R_extreme_99 : decode b_R_extreme 99 = .ok (.iload_n 3, 1) := by decide +kernel
theorem d_R_extreme_100 : decode b_R_extreme 100 = .ok (.ireturn, 1) := by decide +kernel
theorem d_R_covered_0 : decode b_R_covered 0 = .ok (.aload_n 0, 1) := by decide +kernel
theorem d_R_covered_1 : decode b_R_covered 1 = .ok (.iload_n 1, 1) := by decide +kernel
theorem d_R_covered_2 : decode b_R_covered 2 = .ok (.invokevirtual 75, 3) := by decide +kernel
theorem d_R_covered_5 : decode b_R_covered 5 = .ok (.ifCond .eq 11, 3) := by decide +kernel
theorem d_R_covered_8 : decode b_R_covered 8 = .ok (.aload_n 0, 1) := by decide +kernel
theorem d_R_covered_9 : decode b_R_covered 9 = .ok (.iload_n 2, 1) := by decide +kernel
theorem d_R_covered_10 : decode b_R_covered 10 = .ok (.invokevirtual 79, 3) := by decide +kernel
theorem d_R_covered_13 : decode b_R_covered 13 = .ok (.ifCond .ne 5, 3) := by decide +kernel
theorem d_R_covered_16 : decode b_R_covered 16 = .ok (.iconst (-1), 1) := by decide +kernel
theorem d_R_covered_17 : decode b_R_covered 17 = .ok (.ireturn, 1) := by decide +kernel
theorem d_R_covered_18 : decode b_R_covered 18 = .ok (.aload_n 0, 1) := by decide +kernel
theorem d_R_covered_19 : decode b_R_covered 19 = .ok (.iload_n 1, 1) := by decide +kernel
theorem d_R_covered_20 : decode b_R_covered 20 = .ok (.invokevirtual 90, 3) := by decide +kernel
theorem d_R_covered_23 : decode b_R_covered 23 = .ok (.aload_n 0, 1) := by decide +kernel
theorem d_R_covered_24 : decode b_R_covered 24 = .ok (.getfield 54, 3) := by decide +kernel
theorem d_R_covered_27 : decode b_R_covered 27 = .ok (.iload_n 2, 1) := by decide +kernel
theorem d_R_covered_28 : decode b_R_covered 28 = .ok (.iaload, 1) := by decide +kernel
theorem d_R_covered_29 : decode b_R_covered 29 = .ok (.ireturn, 1) := by decide +kernel
theorem d_R_estimate_0 : decode b_R_estimate 0 = .ok (.aload_n 0, 1) := by decide +kernel
theorem d_R_estimate_1 : decode b_R_estimate 1 = .ok (.iload_n 1, 1) := by decide +kernel
theorem d_R_estimate_2 : decode b_R_estimate 2 = .ok (.invokevirtual 75, 3) := by decide +kernel
theorem d_R_estimate_5 : decode b_R_estimate 5 = .ok (.ifCond .eq 13, 3) := by decide +kernel
theorem d_R_estimate_8 : decode b_R_estimate 8 = .ok (.iload_n 2, 1) := by decide +kernel
theorem d_R_estimate_9 : decode b_R_estimate 9 = .ok (.ifCond .lt 9, 3) := by decide +kernel
theorem d_R_estimate_12 : decode b_R_estimate 12 = .ok (.iload_n 2, 1) := by decide +kernel
theorem d_R_estimate_13 : decode b_R_estimate 13 = .ok (.bipush 31, 2) := by decide +kernel
theorem d_R_estimate_15 : decode b_R_estimate 15 = .ok (.if_icmp .le 5, 3) := by decide +kernel
theorem d_R_estimate_18 : decode b_R_estimate 18 = .ok (.iconst (-1), 1) := by decide +kernel
theorem d_R_estimate_19 : decode b_R_estimate 19 = .ok (.ireturn, 1) := by decide +kernel
theorem d_R_estimate_20 : decode b_R_estimate 20 = .ok (.aload_n 0, 1) := by decide +kernel
theorem d_R_estimate_21 : decode b_R_estimate 21 = .ok (.iload_n 1, 1) := by decide +kernel
theorem d_R_estimate_22 : decode b_R_estimate 22 = .ok (.invokevirtual 127, 3) := by decide +kernel
theorem d_R_estimate_25 : decode b_R_estimate 25 = .ok (.aload_n 0, 1) := by decide +kernel
theorem d_R_estimate_26 : decode b_R_estimate 26 = .ok (.getfield 60, 3) := by decide +kernel
theorem d_R_estimate_29 : decode b_R_estimate 29 = .ok (.bipush 32, 2) := by decide +kernel
theorem d_R_estimate_31 : decode b_R_estimate 31 = .ok (.iload_n 1, 1) := by decide +kernel
theorem d_R_estimate_32 : decode b_R_estimate 32 = .ok (.imul, 1) := by decide +kernel
theorem d_R_estimate_33 : decode b_R_estimate 33 = .ok (.iload_n 2, 1) := by decide +kernel
theorem d_R_estimate_34 : decode b_R_estimate 34 = .ok (.iadd, 1) := by decide +kernel
theorem d_R_estimate_35 : decode b_R_estimate 35 = .ok (.iaload, 1) := by decide +kernel
theorem d_R_estimate_36 : decode b_R_estimate 36 = .ok (.ireturn, 1) := by decide +kernel
theorem d_R_top_0 : decode b_R_top 0 = .ok (.aload_n 0, 1) := by decide +kernel
theorem d_R_top_1 : decode b_R_top 1 = .ok (.iload_n 1, 1) := by decide +kernel
theorem d_R_top_2 : decode b_R_top 2 = .ok (.invokevirtual 75, 3) := by decide +kernel
theorem d_R_top_5 : decode b_R_top 5 = .ok (.ifCond .eq 7, 3) := by decide +kernel
theorem d_R_top_8 : decode b_R_top 8 = .ok (.iload_n 2, 1) := by decide +kernel
theorem d_R_top_9 : decode b_R_top 9 = .ok (.ifCond .ge 5, 3) := by decide +kernel
theorem d_R_top_12 : decode b_R_top 12 = .ok (.iconst (-1), 1) := by decide +kernel
theorem d_R_top_13 : decode b_R_top 13 = .ok (.ireturn, 1) := by decide +kernel
theorem d_R_top_14 : decode b_R_top 14 = .ok (.aload_n 0, 1) := by decide +kernel
theorem d_R_top_15 : decode b_R_top 15 = .ok (.iload_n 1, 1) := by decide +kernel
theorem d_R_top_16 : decode b_R_top 16 = .ok (.invokevirtual 127, 3) := by decide +kernel
theorem d_R_top_19 : decode b_R_top 19 = .ok (.iload_n 2, 1) := by decide +kernel
theorem d_R_top_20 : decode b_R_top 20 = .ok (.aload_n 0, 1) := by decide +kernel
theorem d_R_top_21 : decode b_R_top 21 = .ok (.iload_n 1, 1) := by decide +kernel
theorem d_R_top_22 : decode b_R_top 22 = .ok (.invokevirtual 110, 3) := by decide +kernel
theorem d_R_top_25 : decode b_R_top 25 = .ok (.if_icmp .lt 5, 3) := by decide +kernel
theorem d_R_top_28 : decode b_R_top 28 = .ok (.iconst (-1), 1) := by decide +kernel
theorem d_R_top_29 : decode b_R_top 29 = .ok (.ireturn, 1) := by decide +kernel
theorem d_R_top_30 : decode b_R_top 30 = .ok (.aload_n 0, 1) := by decide +kernel
theorem d_R_top_31 : decode b_R_top 31 = .ok (.invokevirtual 119, 3) := by decide +kernel
theorem d_R_top_34 : decode b_R_top 34 = .ok (.iconst (-1), 1) := by decide +kernel
theorem d_R_top_35 : decode b_R_top 35 = .ok (.istore_n 3, 1) := by decide +kernel
theorem d_R_top_36 : decode b_R_top 36 = .ok (.iconst 0, 1) := by decide +kernel
theorem d_R_top_37 : decode b_R_top 37 = .ok (.istore 4, 2) := by decide +kernel
theorem d_R_top_39 : decode b_R_top 39 = .ok (.iload 4, 2) := by decide +kernel
theorem d_R_top_41 : decode b_R_top 41 = .ok (.iload_n 2, 1) := by decide +kernel
theorem d_R_top_42 : decode b_R_top 42 = .ok (.if_icmp .gt 22, 3) := by decide +kernel
theorem d_R_top_45 : decode b_R_top 45 = .ok (.aload_n 0, 1) := by decide +kernel
theorem d_R_top_46 : decode b_R_top 46 = .ok (.iload_n 1, 1) := by decide +kernel
theorem d_R_top_47 : decode b_R_top 47 = .ok (.invokevirtual 122, 3) := by decide +kernel
theorem d_R_top_50 : decode b_R_top 50 = .ok (.istore_n 3, 1) := by decide +kernel
theorem d_R_top_51 : decode b_R_top 51 = .ok (.aload_n 0, 1) := by decide +kernel
theorem d_R_top_52 : decode b_R_top 52 = .ok (.getfield 66, 3) := by decide +kernel
theorem d_R_top_55 : decode b_R_top 55 = .ok (.iload_n 3, 1) := by decide +kernel
theorem d_R_top_56 : decode b_R_top 56 = .ok (.iconst 1, 1) := by decide +kernel
theorem d_R_top_57 : decode b_R_top 57 = .ok (.bastore, 1) := by decide +kernel
theorem d_R_top_58 : decode b_R_top 58 = .ok (.iinc 4 1, 3) := by decide +kernel
theorem d_R_top_61 : decode b_R_top 61 = .ok (.goto (-22), 3) := by decide +kernel
theorem d_R_top_64 : decode b_R_top 64 = .ok (.iload_n 3, 1) := by decide +kernel
theorem d_R_top_65 : decode b_R_top 65 = .ok (.ireturn, 1) := by decide +kernel
theorem d_R_digestSize_0 : decode b_R_digestSize 0 = .ok (.aload_n 0, 1) := by decide +kernel
theorem d_R_digestSize_1 : decode b_R_digestSize 1 = .ok (.iload_n 1, 1) := by decide +kernel
theorem d_R_digestSize_2 : decode b_R_digestSize 2 = .ok (.invokevirtual 75, 3) := by decide +kernel
theorem d_R_digestSize_5 : decode b_R_digestSize 5 = .ok (.ifCond .ne 5, 3) := by decide +kernel
theorem d_R_digestSize_8 : decode b_R_digestSize 8 = .ok (.iconst (-1), 1) := by decide +kernel
theorem d_R_digestSize_9 : decode b_R_digestSize 9 = .ok (.ireturn, 1) := by decide +kernel
theorem d_R_digestSize_10 : decode b_R_digestSize 10 = .ok (.aload_n 0, 1) := by decide +kernel
theorem d_R_digestSize_11 : decode b_R_digestSize 11 = .ok (.iload_n 1, 1) := by decide +kernel
theorem d_R_digestSize_12 : decode b_R_digestSize 12 = .ok (.invokevirtual 127, 3) := by decide +kernel
theorem d_R_digestSize_15 : decode b_R_digestSize 15 = .ok (.iconst 0, 1) := by decide +kernel
theorem d_R_digestSize_16 : decode b_R_digestSize 16 = .ok (.istore_n 2, 1) := by decide +kernel
theorem d_R_digestSize_17 : decode b_R_digestSize 17 = .ok (.iconst 1, 1) := by decide +kernel
theorem d_R_digestSize_18 : decode b_R_digestSize 18 = .ok (.istore_n 3, 1) := by decide +kernel
theorem d_R_digestSize_19 : decode b_R_digestSize 19 = .ok (.iload_n 3, 1) := by decide +kernel
theorem d_R_digestSize_20 : decode b_R_digestSize 20 = .ok (.bipush 64, 2) := by decide +kernel
theorem d_R_digestSize_22 : decode b_R_digestSize 22 = .ok (.if_icmp .ge 31, 3) := by decide +kernel
theorem d_R_digestSize_25 : decode b_R_digestSize 25 = .ok (.aload_n 0, 1) := by decide +kernel
theorem d_R_digestSize_26 : decode b_R_digestSize 26 = .ok (.getfield 63, 3) := by decide +kernel
theorem d_R_digestSize_29 : decode b_R_digestSize 29 = .ok (.bipush 64, 2) := by decide +kernel
theorem d_R_digestSize_31 : decode b_R_digestSize 31 = .ok (.iload_n 1, 1) := by decide +kernel
theorem d_R_digestSize_32 : decode b_R_digestSize 32 = .ok (.imul, 1) := by decide +kernel
theorem d_R_digestSize_33 : decode b_R_digestSize 33 = .ok (.iload_n 3, 1) := by decide +kernel
theorem d_R_digestSize_34 : decode b_R_digestSize 34 = .ok (.iadd, 1) := by decide +kernel
theorem d_R_digestSize_35 : decode b_R_digestSize 35 = .ok (.iaload, 1) := by decide +kernel
theorem d_R_digestSize_36 : decode b_R_digestSize 36 = .ok (.ifCond .le 9, 3) := by decide +kernel
theorem d_R_digestSize_39 : decode b_R_digestSize 39 = .ok (.iload_n 2, 1) := by decide +kernel
theorem d_R_digestSize_40 : decode b_R_digestSize 40 = .ok (.iconst 1, 1) := by decide +kernel
theorem d_R_digestSize_41 : decode b_R_digestSize 41 = .ok (.iadd, 1) := by decide +kernel
theorem d_R_digestSize_42 : decode b_R_digestSize 42 = .ok (.goto 4, 3) := by decide +kernel
theorem d_R_digestSize_45 : decode b_R_digestSize 45 = .ok (.iload_n 2, 1) := by decide +kernel
theorem d_R_digestSize_46 : decode b_R_digestSize 46 = .ok (.istore_n 2, 1) := by decide +kernel
theorem d_R_digestSize_47 : decode b_R_digestSize 47 = .ok (.iinc 3 1, 3) := by decide +kernel
theorem d_R_digestSize_50 : decode b_R_digestSize 50 = .ok (.goto (-31), 3) := by decide +kernel
theorem d_R_digestSize_53 : decode b_R_digestSize 53 = .ok (.iload_n 2, 1) := by decide +kernel
theorem d_R_digestSize_54 : decode b_R_digestSize 54 = .ok (.ireturn, 1) := by decide +kernel
theorem d_R_width_0 : decode b_R_width 0 = .ok (.iload_n 0, 1) := by decide +kernel
theorem d_R_width_1 : decode b_R_width 1 = .ok (.bipush 32, 2) := by decide +kernel
theorem d_R_width_3 : decode b_R_width 3 = .ok (.if_icmp .lt 7, 3) := by decide +kernel
theorem d_R_width_6 : decode b_R_width 6 = .ok (.iconst 1, 1) := by decide +kernel
theorem d_R_width_7 : decode b_R_width 7 = .ok (.goto 45, 3) := by decide +kernel
theorem d_R_width_10 : decode b_R_width 10 = .ok (.iload_n 0, 1) := by decide +kernel
theorem d_R_width_11 : decode b_R_width 11 = .ok (.bipush 16, 2) := by decide +kernel
theorem d_R_width_13 : decode b_R_width 13 = .ok (.if_icmp .lt 7, 3) := by decide +kernel
theorem d_R_width_16 : decode b_R_width 16 = .ok (.iconst 2, 1) := by decide +kernel
theorem d_R_width_17 : decode b_R_width 17 = .ok (.goto 35, 3) := by decide +kernel
theorem d_R_width_20 : decode b_R_width 20 = .ok (.iload_n 0, 1) := by decide +kernel
theorem d_R_width_21 : decode b_R_width 21 = .ok (.bipush 8, 2) := by decide +kernel
theorem d_R_width_23 : decode b_R_width 23 = .ok (.if_icmp .lt 7, 3) := by decide +kernel
theorem d_R_width_26 : decode b_R_width 26 = .ok (.iconst 4, 1) := by decide +kernel
theorem d_R_width_27 : decode b_R_width 27 = .ok (.goto 25, 3) := by decide +kernel
theorem d_R_width_30 : decode b_R_width 30 = .ok (.iload_n 0, 1) := by decide +kernel
theorem d_R_width_31 : decode b_R_width 31 = .ok (.iconst 4, 1) := by decide +kernel
theorem d_R_width_32 : decode b_R_width 32 = .ok (.if_icmp .lt 8, 3) := by decide +kernel
theorem d_R_width_35 : decode b_R_width 35 = .ok (.bipush 8, 2) := by decide +kernel
theorem d_R_width_37 : decode b_R_width 37 = .ok (.goto 15, 3) := by decide +kernel
theorem d_R_width_40 : decode b_R_width 40 = .ok (.iload_n 0, 1) := by decide +kernel
theorem d_R_width_41 : decode b_R_width 41 = .ok (.iconst 2, 1) := by decide +kernel
theorem d_R_width_42 : decode b_R_width 42 = .ok (.if_icmp .lt 8, 3) := by decide +kernel
theorem d_R_width_45 : decode b_R_width 45 = .ok (.bipush 16, 2) := by decide +kernel
theorem d_R_width_47 : decode b_R_width 47 = .ok (.goto 5, 3) := by decide +kernel
theorem d_R_width_50 : decode b_R_width 50 = .ok (.bipush 32, 2) := by decide +kernel
theorem d_R_width_52 : decode b_R_width 52 = .ok (.ireturn, 1) := by decide +kernel
theorem d_R_least_0 : decode b_R_least 0 = .ok (.iload_n 0, 1) := by decide +kernel
theorem d_R_least_1 : decode b_R_least 1 = .ok (.invokestatic 130, 3) := by decide +kernel
theorem d_R_least_4 : decode b_R_least 4 = .ok (.istore_n 1, 1) := by decide +kernel
theorem d_R_least_5 : decode b_R_least 5 = .ok (.iload_n 0, 1) := by decide +kernel
theorem d_R_least_6 : decode b_R_least 6 = .ok (.bipush 32, 2) := by decide +kernel
theorem d_R_least_8 : decode b_R_least 8 = .ok (.iload_n 1, 1) := by decide +kernel
theorem d_R_least_9 : decode b_R_least 9 = .ok (.idiv, 1) := by decide +kernel
theorem d_R_least_10 : decode b_R_least 10 = .ok (.isub, 1) := by decide +kernel
theorem d_R_least_11 : decode b_R_least 11 = .ok (.iload_n 1, 1) := by decide +kernel
theorem d_R_least_12 : decode b_R_least 12 = .ok (.imul, 1) := by decide +kernel
theorem d_R_least_13 : decode b_R_least 13 = .ok (.ireturn, 1) := by decide +kernel
theorem d_R_below_0 : decode b_R_below 0 = .ok (.aload_n 0, 1) := by decide +kernel
theorem d_R_below_1 : decode b_R_below 1 = .ok (.iload_n 1, 1) := by decide +kernel
theorem d_R_below_2 : decode b_R_below 2 = .ok (.invokevirtual 75, 3) := by decide +kernel
theorem d_R_below_5 : decode b_R_below 5 = .ok (.ifCond .eq 13, 3) := by decide +kernel
theorem d_R_below_8 : decode b_R_below 8 = .ok (.iload_n 2, 1) := by decide +kernel
theorem d_R_below_9 : decode b_R_below 9 = .ok (.ifCond .lt 9, 3) := by decide +kernel
theorem d_R_below_12 : decode b_R_below 12 = .ok (.iload_n 2, 1) := by decide +kernel
theorem d_R_below_13 : decode b_R_below 13 = .ok (.bipush 32, 2) := by decide +kernel
theorem d_R_below_15 : decode b_R_below 15 = .ok (.if_icmp .le 5, 3) := by decide +kernel
theorem d_R_below_18 : decode b_R_below 18 = .ok (.iconst (-1), 1) := by decide +kernel
theorem d_R_below_19 : decode b_R_below 19 = .ok (.ireturn, 1) := by decide +kernel
theorem d_R_below_20 : decode b_R_below 20 = .ok (.aload_n 0, 1) := by decide +kernel
theorem d_R_below_21 : decode b_R_below 21 = .ok (.iload_n 1, 1) := by decide +kernel
theorem d_R_below_22 : decode b_R_below 22 = .ok (.invokevirtual 127, 3) := by decide +kernel
theorem d_R_below_25 : decode b_R_below 25 = .ok (.iconst 0, 1) := by decide +kernel
theorem d_R_below_26 : decode b_R_below 26 = .ok (.istore 4, 2) := by decide +kernel
theorem d_R_below_28 : decode b_R_below 28 = .ok (.iconst 1, 1) := by decide +kernel
theorem d_R_below_29 : decode b_R_below 29 = .ok (.istore 5, 2) := by decide +kernel
theorem d_R_below_31 : decode b_R_below 31 = .ok (.iload 5, 2) := by decide +kernel
theorem d_R_below_33 : decode b_R_below 33 = .ok (.bipush 64, 2) := by decide +kernel
theorem d_R_below_35 : decode b_R_below 35 = .ok (.if_icmp .ge 86, 3) := by decide +kernel
theorem d_R_below_38 : decode b_R_below 38 = .ok (.iload 5, 2) := by decide +kernel
theorem d_R_below_40 : decode b_R_below 40 = .ok (.invokestatic 130, 3) := by decide +kernel
theorem d_R_below_43 : decode b_R_below 43 = .ok (.istore 6, 2) := by decide +kernel
theorem d_R_below_45 : decode b_R_below 45 = .ok (.iload 5, 2) := by decide +kernel
theorem d_R_below_47 : decode b_R_below 47 = .ok (.invokestatic 133, 3) := by decide +kernel
theorem d_R_below_50 : decode b_R_below 50 = .ok (.istore 7, 2) := by decide +kernel
theorem d_R_below_52 : decode b_R_below 52 = .ok (.iload_n 3, 1) := by decide +kernel
theorem d_R_below_53 : decode b_R_below 53 = .ok (.ifCond .eq 17, 3) := by decide +kernel
theorem d_R_below_56 : decode b_R_below 56 = .ok (.iload 7, 2) := by decide +kernel
theorem d_R_below_58 : decode b_R_below 58 = .ok (.iload_n 2, 1) := by decide +kernel
theorem d_R_below_59 : decode b_R_below 59 = .ok (.if_icmp .ge 7, 3) := by decide +kernel
theorem d_R_below_62 : decode b_R_below 62 = .ok (.iconst 1, 1) := by decide +kernel
theorem d_R_below_63 : decode b_R_below 63 = .ok (.goto 23, 3) := by decide +kernel
theorem d_R_below_66 : decode b_R_below 66 = .ok (.iconst 0, 1) := by decide +kernel
theorem d_R_below_67 : decode b_R_below 67 = .ok (.goto 19, 3) := by decide +kernel
theorem d_R_below_70 : decode b_R_below 70 = .ok (.iload 7, 2) := by decide +kernel
theorem d_R_below_72 : decode b_R_below 72 = .ok (.iload 6, 2) := by decide +kernel
theorem d_R_below_74 : decode b_R_below 74 = .ok (.iadd, 1) := by decide +kernel
theorem d_R_below_75 : decode b_R_below 75 = .ok (.iconst 1, 1) := by decide +kernel
theorem d_R_below_76 : decode b_R_below 76 = .ok (.isub, 1) := by decide +kernel
theorem d_R_below_77 : decode b_R_below 77 = .ok (.iload_n 2, 1) := by decide +kernel
theorem d_R_below_78 : decode b_R_below 78 = .ok (.if_icmp .ge 7, 3) := by decide +kernel
theorem d_R_below_81 : decode b_R_below 81 = .ok (.iconst 1, 1) := by decide +kernel
theorem d_R_below_82 : decode b_R_below 82 = .ok (.goto 4, 3) := by decide +kernel
theorem d_R_below_85 : decode b_R_below 85 = .ok (.iconst 0, 1) := by decide +kernel
theorem d_R_below_86 : decode b_R_below 86 = .ok (.istore 8, 2) := by decide +kernel
theorem d_R_below_88 : decode b_R_below 88 = .ok (.iload 8, 2) := by decide +kernel
theorem d_R_below_90 : decode b_R_below 90 = .ok (.ifCond .eq 21, 3) := by decide +kernel
theorem d_R_below_93 : decode b_R_below 93 = .ok (.iload 4, 2) := by decide +kernel
theorem d_R_below_95 : decode b_R_below 95 = .ok (.aload_n 0, 1) := by decide +kernel
theorem d_R_below_96 : decode b_R_below 96 = .ok (.getfield 63, 3) := by decide +kernel
theorem d_R_below_99 : decode b_R_below 99 = .ok (.bipush 64, 2) := by decide +kernel
theorem d_R_below_101 : decode b_R_below 101 = .ok (.iload_n 1, 1) := by decide +kernel
theorem d_R_below_102 : decode b_R_below 102 = .ok (.imul, 1) := by decide +kernel
theorem d_R_below_103 : decode b_R_below 103 = .ok (.iload 5, 2) := by decide +kernel
theorem d_R_below_105 : decode b_R_below 105 = .ok (.iadd, 1) := by decide +kernel
theorem d_R_below_106 : decode b_R_below 106 = .ok (.iaload, 1) := by decide +kernel
theorem d_R_below_107 : decode b_R_below 107 = .ok (.iadd, 1) := by decide +kernel
theorem d_R_below_108 : decode b_R_below 108 = .ok (.goto 5, 3) := by decide +kernel
theorem d_R_below_111 : decode b_R_below 111 = .ok (.iload 4, 2) := by decide +kernel
theorem d_R_below_113 : decode b_R_below 113 = .ok (.istore 4, 2) := by decide +kernel
theorem d_R_below_115 : decode b_R_below 115 = .ok (.iinc 5 1, 3) := by decide +kernel
theorem d_R_below_118 : decode b_R_below 118 = .ok (.goto (-87), 3) := by decide +kernel
theorem d_R_below_121 : decode b_R_below 121 = .ok (.iload 4, 2) := by decide +kernel
theorem d_R_below_123 : decode b_R_below 123 = .ok (.ireturn, 1) := by decide +kernel
theorem d_R_quantile_0 : decode b_R_quantile 0 = .ok (.aload_n 0, 1) := by decide +kernel
theorem d_R_quantile_1 : decode b_R_quantile 1 = .ok (.iload_n 1, 1) := by decide +kernel
theorem d_R_quantile_2 : decode b_R_quantile 2 = .ok (.invokevirtual 75, 3) := by decide +kernel
theorem d_R_quantile_5 : decode b_R_quantile 5 = .ok (.ifCond .eq 14, 3) := by decide +kernel
theorem d_R_quantile_8 : decode b_R_quantile 8 = .ok (.iload_n 2, 1) := by decide +kernel
theorem d_R_quantile_9 : decode b_R_quantile 9 = .ok (.ifCond .lt 10, 3) := by decide +kernel
theorem d_R_quantile_12 : decode b_R_quantile 12 = .ok (.iload_n 2, 1) := by decide +kernel
theorem d_R_quantile_13 : decode b_R_quantile 13 = .ok (.sipush 1000, 3) := by decide +kernel
theorem d_R_quantile_16 : decode b_R_quantile 16 = .ok (.if_icmp .le 5, 3) := by decide +kernel
theorem d_R_quantile_19 : decode b_R_quantile 19 = .ok (.iconst (-1), 1) := by decide +kernel
theorem d_R_quantile_20 : decode b_R_quantile 20 = .ok (.ireturn, 1) := by decide +kernel
theorem d_R_quantile_21 : decode b_R_quantile 21 = .ok (.aload_n 0, 1) := by decide +kernel
theorem d_R_quantile_22 : decode b_R_quantile 22 = .ok (.iload_n 1, 1) := by decide +kernel
theorem d_R_quantile_23 : decode b_R_quantile 23 = .ok (.invokevirtual 127, 3) := by decide +kernel
theorem d_R_quantile_26 : decode b_R_quantile 26 = .ok (.iconst 0, 1) := by decide +kernel
theorem d_R_quantile_27 : decode b_R_quantile 27 = .ok (.istore_n 3, 1) := by decide +kernel
theorem d_R_quantile_28 : decode b_R_quantile 28 = .ok (.iload_n 3, 1) := by decide +kernel
theorem d_R_quantile_29 : decode b_R_quantile 29 = .ok (.bipush 32, 2) := by decide +kernel
theorem d_R_quantile_31 : decode b_R_quantile 31 = .ok (.if_icmp .ge 100, 3) := by decide +kernel
theorem d_R_quantile_34 : decode b_R_quantile 34 = .ok (.iconst 0, 1) := by decide +kernel
theorem d_R_quantile_35 : decode b_R_quantile 35 = .ok (.istore 4, 2) := by decide +kernel
theorem d_R_quantile_37 : decode b_R_quantile 37 = .ok (.iconst 1, 1) := by decide +kernel
theorem d_R_quantile_38 : decode b_R_quantile 38 = .ok (.istore 5, 2) := by decide +kernel
theorem d_R_quantile_40 : decode b_R_quantile 40 = .ok (.iload 5, 2) := by decide +kernel
theorem d_R_quantile_42 : decode b_R_quantile 42 = .ok (.bipush 64, 2) := by decide +kernel
theorem d_R_quantile_44 : decode b_R_quantile 44 = .ok (.if_icmp .ge 56, 3) := by decide +kernel
theorem d_R_quantile_47 : decode b_R_quantile 47 = .ok (.iload 5, 2) := by decide +kernel
theorem d_R_quantile_49 : decode b_R_quantile 49 = .ok (.invokestatic 130, 3) := by decide +kernel
theorem d_R_quantile_52 : decode b_R_quantile 52 = .ok (.istore 6, 2) := by decide +kernel
theorem d_R_quantile_54 : decode b_R_quantile 54 = .ok (.iload 5, 2) := by decide +kernel
theorem d_R_quantile_56 : decode b_R_quantile 56 = .ok (.invokestatic 133, 3) := by decide +kernel
theorem d_R_quantile_59 : decode b_R_quantile 59 = .ok (.istore 7, 2) := by decide +kernel
theorem d_R_quantile_61 : decode b_R_quantile 61 = .ok (.iload 7, 2) := by decide +kernel
theorem d_R_quantile_63 : decode b_R_quantile 63 = .ok (.iload 6, 2) := by decide +kernel
theorem d_R_quantile_65 : decode b_R_quantile 65 = .ok (.iadd, 1) := by decide +kernel
theorem d_R_quantile_66 : decode b_R_quantile 66 = .ok (.iconst 1, 1) := by decide +kernel
theorem d_R_quantile_67 : decode b_R_quantile 67 = .ok (.isub, 1) := by decide +kernel
theorem d_R_quantile_68 : decode b_R_quantile 68 = .ok (.iload_n 3, 1) := by decide +kernel
theorem d_R_quantile_69 : decode b_R_quantile 69 = .ok (.if_icmp .gt 21, 3) := by decide +kernel
theorem d_R_quantile_72 : decode b_R_quantile 72 = .ok (.iload 4, 2) := by decide +kernel
theorem d_R_quantile_74 : decode b_R_quantile 74 = .ok (.aload_n 0, 1) := by decide +kernel
theorem d_R_quantile_75 : decode b_R_quantile 75 = .ok (.getfield 63, 3) := by decide +kernel
theorem d_R_quantile_78 : decode b_R_quantile 78 = .ok (.bipush 64, 2) := by decide +kernel
theorem d_R_quantile_80 : decode b_R_quantile 80 = .ok (.iload_n 1, 1) := by decide +kernel
theorem d_R_quantile_81 : decode b_R_quantile 81 = .ok (.imul, 1) := by decide +kernel
theorem d_R_quantile_82 : decode b_R_quantile 82 = .ok (.iload 5, 2) := by decide +kernel
theorem d_R_quantile_84 : decode b_R_quantile 84 = .ok (.iadd, 1) := by decide +kernel
theorem d_R_quantile_85 : decode b_R_quantile 85 = .ok (.iaload, 1) := by decide +kernel
theorem d_R_quantile_86 : decode b_R_quantile 86 = .ok (.iadd, 1) := by decide +kernel
theorem d_R_quantile_87 : decode b_R_quantile 87 = .ok (.goto 5, 3) := by decide +kernel
theorem d_R_quantile_90 : decode b_R_quantile 90 = .ok (.iload 4, 2) := by decide +kernel
theorem d_R_quantile_92 : decode b_R_quantile 92 = .ok (.istore 4, 2) := by decide +kernel
theorem d_R_quantile_94 : decode b_R_quantile 94 = .ok (.iinc 5 1, 3) := by decide +kernel
theorem d_R_quantile_97 : decode b_R_quantile 97 = .ok (.goto (-57), 3) := by decide +kernel
theorem d_R_quantile_100 : decode b_R_quantile 100 = .ok (.iload 4, 2) := by decide +kernel
theorem d_R_quantile_102 : decode b_R_quantile 102 = .ok (.iconst 1, 1) := by decide +kernel
theorem d_R_quantile_103 : decode b_R_quantile 103 = .ok (.if_icmp .lt 22, 3) := by decide +kernel
theorem d_R_quantile_106 : decode b_R_quantile 106 = .ok (.sipush 1000, 3) := by decide +kernel
theorem d_R_quantile_109 : decode b_R_quantile 109 = .ok (.iload 4, 2) := by decide +kernel
theorem d_R_quantile_111 : decode b_R_quantile 111 = .ok (.imul, 1) := by decide +kernel
theorem d_R_quantile_112 : decode b_R_quantile 112 = .ok (.iload_n 2, 1) := by decide +kernel
theorem d_R_quantile_113 : decode b_R_quantile 113 = .ok (.aload_n 0, 1) := by decide +kernel
theorem d_R_quantile_114 : decode b_R_quantile 114 = .ok (.getfield 57, 3) := by decide +kernel
theorem d_R_quantile_117 : decode b_R_quantile 117 = .ok (.iload_n 1, 1) := by decide +kernel
theorem d_R_quantile_118 : decode b_R_quantile 118 = .ok (.iaload, 1) := by decide +kernel
theorem d_R_quantile_119 : decode b_R_quantile 119 = .ok (.imul, 1) := by decide +kernel
theorem d_R_quantile_120 : decode b_R_quantile 120 = .ok (.if_icmp .lt 5, 3) := by decide +kernel
theorem d_R_quantile_123 : decode b_R_quantile 123 = .ok (.iload_n 3, 1) := by decide +kernel
theorem d_R_quantile_124 : decode b_R_quantile 124 = .ok (.ireturn, 1) := by decide +kernel
theorem d_R_quantile_125 : decode b_R_quantile 125 = .ok (.iinc 3 1, 3) := by decide +kernel
theorem d_R_quantile_128 : decode b_R_quantile 128 = .ok (.goto (-100), 3) := by decide +kernel
theorem d_R_quantile_131 : decode b_R_quantile 131 = .ok (.iconst (-1), 1) := by decide +kernel
theorem d_R_quantile_132 : decode b_R_quantile 132 = .ok (.ireturn, 1) := by decide +kernel
