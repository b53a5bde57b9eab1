theorem d_C_init_0 : decode b_C_init 0 = .ok (.aload_n 0, 1) := by decide +kernel
theorem d_C_init_1 : decode b_C_init 1 = .ok (.invokespecial 3, 3) := by decide +kernel
theorem d_C_init_4 : decode b_C_init 4 = .ok (.aload_n 0, 1) := by decide +kernel
theorem d_C_init_5 : decode b_C_init 5 = .ok (.bipush 32, 2) := by decide +kernel
theorem d_C_init_7 : decode b_C_init 7 = .ok (.newarray .int, 2) := by decide +kernel
theorem d_C_init_9 : decode b_C_init 9 = .ok (.putfield 9, 3) := by decide +kernel
theorem d_C_init_12 : decode b_C_init 12 = .ok (.aload_n 0, 1) := by decide +kernel
theorem d_C_init_13 : decode b_C_init 13 = .ok (.iload_n 1, 1) := by decide +kernel
theorem d_C_init_14 : decode b_C_init 14 = .ok (.putfield 15, 3) := by decide +kernel
theorem d_C_init_17 : decode b_C_init 17 = .ok (.return_, 1) := by decide +kernel
theorem d_C_take_0 : decode b_C_take 0 = .ok (.aload_n 0, 1) := by decide +kernel
theorem d_C_take_1 : decode b_C_take 1 = .ok (.getfield 9, 3) := by decide +kernel
theorem d_C_take_4 : decode b_C_take 4 = .ok (.iload_n 1, 1) := by decide +kernel
theorem d_C_take_5 : decode b_C_take 5 = .ok (.iaload, 1) := by decide +kernel
theorem d_C_take_6 : decode b_C_take 6 = .ok (.ifCond .gt 16, 3) := by decide +kernel
theorem d_C_take_9 : decode b_C_take 9 = .ok (.aload_n 0, 1) := by decide +kernel
theorem d_C_take_10 : decode b_C_take 10 = .ok (.aload_n 0, 1) := by decide +kernel
theorem d_C_take_11 : decode b_C_take 11 = .ok (.getfield 15, 3) := by decide +kernel
theorem d_C_take_14 : decode b_C_take 14 = .ok (.iconst 1, 1) := by decide +kernel
theorem d_C_take_15 : decode b_C_take 15 = .ok (.isub, 1) := by decide +kernel
theorem d_C_take_16 : decode b_C_take 16 = .ok (.invokevirtual 19, 3) := by decide +kernel
theorem d_C_take_19 : decode b_C_take 19 = .ok (.ifCond .ge 16, 3) := by decide +kernel
theorem d_C_take_22 : decode b_C_take 22 = .ok (.aload_n 0, 1) := by decide +kernel
theorem d_C_take_23 : decode b_C_take 23 = .ok (.getfield 9, 3) := by decide +kernel
theorem d_C_take_26 : decode b_C_take 26 = .ok (.iload_n 1, 1) := by decide +kernel
theorem d_C_take_27 : decode b_C_take 27 = .ok (.dup2, 1) := by decide +kernel
theorem d_C_take_28 : decode b_C_take 28 = .ok (.iaload, 1) := by decide +kernel
theorem d_C_take_29 : decode b_C_take 29 = .ok (.iconst 1, 1) := by decide +kernel
theorem d_C_take_30 : decode b_C_take 30 = .ok (.iadd, 1) := by decide +kernel
theorem d_C_take_31 : decode b_C_take 31 = .ok (.iastore, 1) := by decide +kernel
theorem d_C_take_32 : decode b_C_take 32 = .ok (.goto 8, 3) := by decide +kernel
theorem d_C_take_35 : decode b_C_take 35 = .ok (.aload_n 0, 1) := by decide +kernel
theorem d_C_take_36 : decode b_C_take 36 = .ok (.iconst 1, 1) := by decide +kernel
theorem d_C_take_37 : decode b_C_take 37 = .ok (.invokevirtual 23, 3) := by decide +kernel
theorem d_C_take_40 : decode b_C_take 40 = .ok (.return_, 1) := by decide +kernel
theorem d_C_merge_0 : decode b_C_merge 0 = .ok (.aload_n 0, 1) := by decide +kernel
theorem d_C_merge_1 : decode b_C_merge 1 = .ok (.getfield 9, 3) := by decide +kernel
theorem d_C_merge_4 : decode b_C_merge 4 = .ok (.aload_n 1, 1) := by decide +kernel
theorem d_C_merge_5 : decode b_C_merge 5 = .ok (.getfield 9, 3) := by decide +kernel
theorem d_C_merge_8 : decode b_C_merge 8 = .ok (.invokestatic 27, 3) := by decide +kernel
theorem d_C_merge_11 : decode b_C_merge 11 = .ok (.aload_n 0, 1) := by decide +kernel
theorem d_C_merge_12 : decode b_C_merge 12 = .ok (.aload_n 0, 1) := by decide +kernel
theorem d_C_merge_13 : decode b_C_merge 13 = .ok (.getfield 15, 3) := by decide +kernel
theorem d_C_merge_16 : decode b_C_merge 16 = .ok (.invokevirtual 19, 3) := by decide +kernel
theorem d_C_merge_19 : decode b_C_merge 19 = .ok (.istore_n 2, 1) := by decide +kernel
theorem d_C_merge_20 : decode b_C_merge 20 = .ok (.iload_n 2, 1) := by decide +kernel
theorem d_C_merge_21 : decode b_C_merge 21 = .ok (.ifCond .lt 13, 3) := by decide +kernel
theorem d_C_merge_24 : decode b_C_merge 24 = .ok (.aload_n 0, 1) := by decide +kernel
theorem d_C_merge_25 : decode b_C_merge 25 = .ok (.aload_n 0, 1) := by decide +kernel
theorem d_C_merge_26 : decode b_C_merge 26 = .ok (.getfield 9, 3) := by decide +kernel
theorem d_C_merge_29 : decode b_C_merge 29 = .ok (.iload_n 2, 1) := by decide +kernel
theorem d_C_merge_30 : decode b_C_merge 30 = .ok (.iaload, 1) := by decide +kernel
theorem d_C_merge_31 : decode b_C_merge 31 = .ok (.invokevirtual 23, 3) := by decide +kernel
theorem d_C_merge_34 : decode b_C_merge 34 = .ok (.return_, 1) := by decide +kernel
theorem d_C_lowerAll_0 : decode b_C_lowerAll 0 = .ok (.iconst 0, 1) := by decide +kernel
theorem d_C_lowerAll_1 : decode b_C_lowerAll 1 = .ok (.istore_n 2, 1) := by decide +kernel
theorem d_C_lowerAll_2 : decode b_C_lowerAll 2 = .ok (.iload_n 2, 1) := by decide +kernel
theorem d_C_lowerAll_3 : decode b_C_lowerAll 3 = .ok (.bipush 32, 2) := by decide +kernel
theorem d_C_lowerAll_5 : decode b_C_lowerAll 5 = .ok (.if_icmp .ge 27, 3) := by decide +kernel
theorem d_C_lowerAll_8 : decode b_C_lowerAll 8 = .ok (.aload_n 0, 1) := by decide +kernel
theorem d_C_lowerAll_9 : decode b_C_lowerAll 9 = .ok (.getfield 9, 3) := by decide +kernel
theorem d_C_lowerAll_12 : decode b_C_lowerAll 12 = .ok (.iload_n 2, 1) := by decide +kernel
theorem d_C_lowerAll_13 : decode b_C_lowerAll 13 = .ok (.iconst 0, 1) := by decide +kernel
theorem d_C_lowerAll_14 : decode b_C_lowerAll 14 = .ok (.aload_n 0, 1) := by decide +kernel
theorem d_C_lowerAll_15 : decode b_C_lowerAll 15 = .ok (.getfield 9, 3) := by decide +kernel
theorem d_C_lowerAll_18 : decode b_C_lowerAll 18 = .ok (.iload_n 2, 1) := by decide +kernel
theorem d_C_lowerAll_19 : decode b_C_lowerAll 19 = .ok (.iaload, 1) := by decide +kernel
theorem d_C_lowerAll_20 : decode b_C_lowerAll 20 = .ok (.iload_n 1, 1) := by decide +kernel
theorem d_C_lowerAll_21 : decode b_C_lowerAll 21 = .ok (.isub, 1) := by decide +kernel
theorem d_C_lowerAll_22 : decode b_C_lowerAll 22 = .ok (.invokestatic 31, 3) := by decide +kernel
theorem d_C_lowerAll_25 : decode b_C_lowerAll 25 = .ok (.iastore, 1) := by decide +kernel
theorem d_C_lowerAll_26 : decode b_C_lowerAll 26 = .ok (.iinc 2 1, 3) := by decide +kernel
theorem d_C_lowerAll_29 : decode b_C_lowerAll 29 = .ok (.goto (-27), 3) := by decide +kernel
theorem d_C_lowerAll_32 : decode b_C_lowerAll 32 = .ok (.return_, 1) := by decide +kernel
theorem d_C_valueAtRank_0 : decode b_C_valueAtRank 0 = .ok (.iconst 0, 1) := by decide +kernel
theorem d_C_valueAtRank_1 : decode b_C_valueAtRank 1 = .ok (.istore_n 2, 1) := by decide +kernel
theorem d_C_valueAtRank_2 : decode b_C_valueAtRank 2 = .ok (.iload_n 2, 1) := by decide +kernel
theorem d_C_valueAtRank_3 : decode b_C_valueAtRank 3 = .ok (.bipush 32, 2) := by decide +kernel
theorem d_C_valueAtRank_5 : decode b_C_valueAtRank 5 = .ok (.if_icmp .ge 29, 3) := by decide +kernel
theorem d_C_valueAtRank_8 : decode b_C_valueAtRank 8 = .ok (.aload_n 0, 1) := by decide +kernel
theorem d_C_valueAtRank_9 : decode b_C_valueAtRank 9 = .ok (.getfield 9, 3) := by decide +kernel
theorem d_C_valueAtRank_12 : decode b_C_valueAtRank 12 = .ok (.iload_n 2, 1) := by decide +kernel
theorem d_C_valueAtRank_13 : decode b_C_valueAtRank 13 = .ok (.iaload, 1) := by decide +kernel
theorem d_C_valueAtRank_14 : decode b_C_valueAtRank 14 = .ok (.ifCond .le 14, 3) := by decide +kernel
theorem d_C_valueAtRank_17 : decode b_C_valueAtRank 17 = .ok (.aload_n 0, 1) := by decide +kernel
theorem d_C_valueAtRank_18 : decode b_C_valueAtRank 18 = .ok (.iload_n 2, 1) := by decide +kernel
theorem d_C_valueAtRank_19 : decode b_C_valueAtRank 19 = .ok (.invokevirtual 37, 3) := by decide +kernel
theorem d_C_valueAtRank_22 : decode b_C_valueAtRank 22 = .ok (.iload_n 1, 1) := by decide +kernel
theorem d_C_valueAtRank_23 : decode b_C_valueAtRank 23 = .ok (.if_icmp .ne 5, 3) := by decide +kernel
theorem d_C_valueAtRank_26 : decode b_C_valueAtRank 26 = .ok (.iload_n 2, 1) := by decide +kernel
theorem d_C_valueAtRank_27 : decode b_C_valueAtRank 27 = .ok (.ireturn, 1) := by decide +kernel
theorem d_C_valueAtRank_28 : decode b_C_valueAtRank 28 = .ok (.iinc 2 1, 3) := by decide +kernel
theorem d_C_valueAtRank_31 : decode b_C_valueAtRank 31 = .ok (.goto (-29), 3) := by decide +kernel
theorem d_C_valueAtRank_34 : decode b_C_valueAtRank 34 = .ok (.iconst (-1), 1) := by decide +kernel
theorem d_C_valueAtRank_35 : decode b_C_valueAtRank 35 = .ok (.ireturn, 1) := by decide +kernel
theorem d_C_rankOf_0 : decode b_C_rankOf 0 = .ok (.iconst 0, 1) := by decide +kernel
theorem d_C_rankOf_1 : decode b_C_rankOf 1 = .ok (.istore_n 2, 1) := by decide +kernel
theorem d_C_rankOf_2 : decode b_C_rankOf 2 = .ok (.iconst 0, 1) := by decide +kernel
theorem d_C_rankOf_3 : decode b_C_rankOf 3 = .ok (.istore_n 3, 1) := by decide +kernel
theorem d_C_rankOf_4 : decode b_C_rankOf 4 = .ok (.iload_n 3, 1) := by decide +kernel
theorem d_C_rankOf_5 : decode b_C_rankOf 5 = .ok (.bipush 32, 2) := by decide +kernel
theorem d_C_rankOf_7 : decode b_C_rankOf 7 = .ok (.if_icmp .ge 47, 3) := by decide +kernel
theorem d_C_rankOf_10 : decode b_C_rankOf 10 = .ok (.aload_n 0, 1) := by decide +kernel
theorem d_C_rankOf_11 : decode b_C_rankOf 11 = .ok (.getfield 9, 3) := by decide +kernel
theorem d_C_rankOf_14 : decode b_C_rankOf 14 = .ok (.iload_n 3, 1) := by decide +kernel
theorem d_C_rankOf_15 : decode b_C_rankOf 15 = .ok (.iaload, 1) := by decide +kernel
theorem d_C_rankOf_16 : decode b_C_rankOf 16 = .ok (.aload_n 0, 1) := by decide +kernel
theorem d_C_rankOf_17 : decode b_C_rankOf 17 = .ok (.getfield 9, 3) := by decide +kernel
theorem d_C_rankOf_20 : decode b_C_rankOf 20 = .ok (.iload_n 1, 1) := by decide +kernel
theorem d_C_rankOf_21 : decode b_C_rankOf 21 = .ok (.iaload, 1) := by decide +kernel
theorem d_C_rankOf_22 : decode b_C_rankOf 22 = .ok (.if_icmp .gt 23, 3) := by decide +kernel
theorem d_C_rankOf_25 : decode b_C_rankOf 25 = .ok (.aload_n 0, 1) := by decide +kernel
theorem d_C_rankOf_26 : decode b_C_rankOf 26 = .ok (.getfield 9, 3) := by decide +kernel
theorem d_C_rankOf_29 : decode b_C_rankOf 29 = .ok (.iload_n 3, 1) := by decide +kernel
theorem d_C_rankOf_30 : decode b_C_rankOf 30 = .ok (.iaload, 1) := by decide +kernel
theorem d_C_rankOf_31 : decode b_C_rankOf 31 = .ok (.aload_n 0, 1) := by decide +kernel
theorem d_C_rankOf_32 : decode b_C_rankOf 32 = .ok (.getfield 9, 3) := by decide +kernel
theorem d_C_rankOf_35 : decode b_C_rankOf 35 = .ok (.iload_n 1, 1) := by decide +kernel
theorem d_C_rankOf_36 : decode b_C_rankOf 36 = .ok (.iaload, 1) := by decide +kernel
theorem d_C_rankOf_37 : decode b_C_rankOf 37 = .ok (.if_icmp .ne 11, 3) := by decide +kernel
theorem d_C_rankOf_40 : decode b_C_rankOf 40 = .ok (.iload_n 3, 1) := by decide +kernel
theorem d_C_rankOf_41 : decode b_C_rankOf 41 = .ok (.iload_n 1, 1) := by decide +kernel
theorem d_C_rankOf_42 : decode b_C_rankOf 42 = .ok (.if_icmp .ge 6, 3) := by decide +kernel
theorem d_C_rankOf_45 : decode b_C_rankOf 45 = .ok (.iinc 2 1, 3) := by decide +kernel
theorem d_C_rankOf_48 : decode b_C_rankOf 48 = .ok (.iinc 3 1, 3) := by decide +kernel
theorem d_C_rankOf_51 : decode b_C_rankOf 51 = .ok (.goto (-47), 3) := by decide +kernel
theorem d_C_rankOf_54 : decode b_C_rankOf 54 = .ok (.iload_n 2, 1) := by decide +kernel
theorem d_C_rankOf_55 : decode b_C_rankOf 55 = .ok (.ireturn, 1) := by decide +kernel
theorem d_D_init_0 : decode b_D_init 0 = .ok (.aload_n 0, 1) := by decide +kernel
theorem d_D_init_1 : decode b_D_init 1 = .ok (.invokespecial 3, 3) := by decide +kernel
theorem d_D_init_4 : decode b_D_init 4 = .ok (.aload_n 0, 1) := by decide +kernel
theorem d_D_init_5 : decode b_D_init 5 = .ok (.bipush 64, 2) := by decide +kernel
theorem d_D_init_7 : decode b_D_init 7 = .ok (.newarray .int, 2) := by decide +kernel
theorem d_D_init_9 : decode b_D_init 9 = .ok (.putfield 9, 3) := by decide +kernel
theorem d_D_init_12 : decode b_D_init 12 = .ok (.aload_n 0, 1) := by decide +kernel
theorem d_D_init_13 : decode b_D_init 13 = .ok (.iload_n 1, 1) := by decide +kernel
theorem d_D_init_14 : decode b_D_init 14 = .ok (.putfield 15, 3) := by decide +kernel
theorem d_D_init_17 : decode b_D_init 17 = .ok (.return_, 1) := by decide +kernel
theorem d_D_take_0 : decode b_D_take 0 = .ok (.aload_n 0, 1) := by decide +kernel
theorem d_D_take_1 : decode b_D_take 1 = .ok (.getfield 9, 3) := by decide +kernel
theorem d_D_take_4 : decode b_D_take 4 = .ok (.bipush 32, 2) := by decide +kernel
theorem d_D_take_6 : decode b_D_take 6 = .ok (.iload_n 1, 1) := by decide +kernel
theorem d_D_take_7 : decode b_D_take 7 = .ok (.iadd, 1) := by decide +kernel
theorem d_D_take_8 : decode b_D_take 8 = .ok (.dup2, 1) := by decide +kernel
theorem d_D_take_9 : decode b_D_take 9 = .ok (.iaload, 1) := by decide +kernel
theorem d_D_take_10 : decode b_D_take 10 = .ok (.iconst 1, 1) := by decide +kernel
theorem d_D_take_11 : decode b_D_take 11 = .ok (.iadd, 1) := by decide +kernel
theorem d_D_take_12 : decode b_D_take 12 = .ok (.iastore, 1) := by decide +kernel
theorem d_D_take_13 : decode b_D_take 13 = .ok (.aload_n 0, 1) := by decide +kernel
theorem d_D_take_14 : decode b_D_take 14 = .ok (.iload_n 2, 1) := by decide +kernel
theorem d_D_take_15 : decode b_D_take 15 = .ok (.aload_n 0, 1) := by decide +kernel
theorem d_D_take_16 : decode b_D_take 16 = .ok (.getfield 15, 3) := by decide +kernel
theorem d_D_take_19 : decode b_D_take 19 = .ok (.idiv, 1) := by decide +kernel
theorem d_D_take_20 : decode b_D_take 20 = .ok (.invokevirtual 19, 3) := by decide +kernel
theorem d_D_take_23 : decode b_D_take 23 = .ok (.return_, 1) := by decide +kernel
theorem d_D_merge_0 : decode b_D_merge 0 = .ok (.aload_n 0, 1) := by decide +kernel
theorem d_D_merge_1 : decode b_D_merge 1 = .ok (.getfield 9, 3) := by decide +kernel
theorem d_D_merge_4 : decode b_D_merge 4 = .ok (.aload_n 1, 1) := by decide +kernel
theorem d_D_merge_5 : decode b_D_merge 5 = .ok (.getfield 9, 3) := by decide +kernel
theorem d_D_merge_8 : decode b_D_merge 8 = .ok (.invokestatic 23, 3) := by decide +kernel
theorem d_D_merge_11 : decode b_D_merge 11 = .ok (.aload_n 0, 1) := by decide +kernel
theorem d_D_merge_12 : decode b_D_merge 12 = .ok (.iload_n 2, 1) := by decide +kernel
theorem d_D_merge_13 : decode b_D_merge 13 = .ok (.aload_n 0, 1) := by decide +kernel
theorem d_D_merge_14 : decode b_D_merge 14 = .ok (.getfield 15, 3) := by decide +kernel
theorem d_D_merge_17 : decode b_D_merge 17 = .ok (.idiv, 1) := by decide +kernel
theorem d_D_merge_18 : decode b_D_merge 18 = .ok (.invokevirtual 19, 3) := by decide +kernel
theorem d_D_merge_21 : decode b_D_merge 21 = .ok (.return_, 1) := by decide +kernel
theorem d_D_compress_0 : decode b_D_compress 0 = .ok (.iconst 1, 1) := by decide +kernel
theorem d_D_compress_1 : decode b_D_compress 1 = .ok (.istore_n 2, 1) := by decide +kernel
theorem d_D_compress_2 : decode b_D_compress 2 = .ok (.iconst 0, 1) := by decide +kernel
theorem d_D_compress_3 : decode b_D_compress 3 = .ok (.istore_n 3, 1) := by decide +kernel
theorem d_D_compress_4 : decode b_D_compress 4 = .ok (.iload_n 2, 1) := by decide +kernel
theorem d_D_compress_5 : decode b_D_compress 5 = .ok (.ifCond .eq 22, 3) := by decide +kernel
theorem d_D_compress_8 : decode b_D_compress 8 = .ok (.iload_n 3, 1) := by decide +kernel
theorem d_D_compress_9 : decode b_D_compress 9 = .ok (.sipush 4096, 3) := by decide +kernel
theorem d_D_compress_12 : decode b_D_compress 12 = .ok (.if_icmp .ge 15, 3) := by decide +kernel
theorem d_D_compress_15 : decode b_D_compress 15 = .ok (.aload_n 0, 1) := by decide +kernel
theorem d_D_compress_16 : decode b_D_compress 16 = .ok (.iload_n 1, 1) := by decide +kernel
theorem d_D_compress_17 : decode b_D_compress 17 = .ok (.invokevirtual 27, 3) := by decide +kernel
theorem d_D_compress_20 : decode b_D_compress 20 = .ok (.istore_n 2, 1) := by decide +kernel
theorem d_D_compress_21 : decode b_D_compress 21 = .ok (.iinc 3 1, 3) := by decide +kernel
theorem d_D_compress_24 : decode b_D_compress 24 = .ok (.goto (-20), 3) := by decide +kernel
theorem d_D_compress_27 : decode b_D_compress 27 = .ok (.return_, 1) := by decide +kernel
theorem d_D_pass_0 : decode b_D_pass 0 = .ok (.iconst 0, 1) := by decide +kernel
theorem d_D_pass_1 : decode b_D_pass 1 = .ok (.istore_n 2, 1) := by decide +kernel
theorem d_D_pass_2 : decode b_D_pass 2 = .ok (.bipush 31, 2) := by decide +kernel
theorem d_D_pass_4 : decode b_D_pass 4 = .ok (.istore_n 3, 1) := by decide +kernel
theorem d_D_pass_5 : decode b_D_pass 5 = .ok (.iload_n 3, 1) := by decide +kernel
theorem d_D_pass_6 : decode b_D_pass 6 = .ok (.iconst 1, 1) := by decide +kernel
theorem d_D_pass_7 : decode b_D_pass 7 = .ok (.if_icmp .lt 81, 3) := by decide +kernel
theorem d_D_pass_10 : decode b_D_pass 10 = .ok (.aload_n 0, 1) := by decide +kernel
theorem d_D_pass_11 : decode b_D_pass 11 = .ok (.getfield 9, 3) := by decide +kernel
theorem d_D_pass_14 : decode b_D_pass 14 = .ok (.iconst 2, 1) := by decide +kernel
theorem d_D_pass_15 : decode b_D_pass 15 = .ok (.iload_n 3, 1) := by decide +kernel
theorem d_D_pass_16 : decode b_D_pass 16 = .ok (.imul, 1) := by decide +kernel
theorem d_D_pass_17 : decode b_D_pass 17 = .ok (.iaload, 1) := by decide +kernel
theorem d_D_pass_18 : decode b_D_pass 18 = .ok (.aload_n 0, 1) := by decide +kernel
theorem d_D_pass_19 : decode b_D_pass 19 = .ok (.getfield 9, 3) := by decide +kernel
theorem d_D_pass_22 : decode b_D_pass 22 = .ok (.iconst 2, 1) := by decide +kernel
theorem d_D_pass_23 : decode b_D_pass 23 = .ok (.iload_n 3, 1) := by decide +kernel
theorem d_D_pass_24 : decode b_D_pass 24 = .ok (.imul, 1) := by decide +kernel
theorem d_D_pass_25 : decode b_D_pass 25 = .ok (.iconst 1, 1) := by decide +kernel
theorem d_D_pass_26 : decode b_D_pass 26 = .ok (.iadd, 1) := by decide +kernel
theorem d_D_pass_27 : decode b_D_pass 27 = .ok (.iaload, 1) := by decide +kernel
theorem d_D_pass_28 : decode b_D_pass 28 = .ok (.iadd, 1) := by decide +kernel
theorem d_D_pass_29 : decode b_D_pass 29 = .ok (.istore 4, 2) := by decide +kernel
theorem d_D_pass_31 : decode b_D_pass 31 = .ok (.iload 4, 2) := by decide +kernel
theorem d_D_pass_33 : decode b_D_pass 33 = .ok (.ifCond .le 49, 3) := by decide +kernel
theorem d_D_pass_36 : decode b_D_pass 36 = .ok (.aload_n 0, 1) := by decide +kernel
theorem d_D_pass_37 : decode b_D_pass 37 = .ok (.getfield 9, 3) := by decide +kernel
theorem d_D_pass_40 : decode b_D_pass 40 = .ok (.iload_n 3, 1) := by decide +kernel
theorem d_D_pass_41 : decode b_D_pass 41 = .ok (.iaload, 1) := by decide +kernel
theorem d_D_pass_42 : decode b_D_pass 42 = .ok (.iload 4, 2) := by decide +kernel
theorem d_D_pass_44 : decode b_D_pass 44 = .ok (.iadd, 1) := by decide +kernel
theorem d_D_pass_45 : decode b_D_pass 45 = .ok (.iload_n 1, 1) := by decide +kernel
theorem d_D_pass_46 : decode b_D_pass 46 = .ok (.if_icmp .gt 36, 3) := by decide +kernel
theorem d_D_pass_49 : decode b_D_pass 49 = .ok (.aload_n 0, 1) := by decide +kernel
theorem d_D_pass_50 : decode b_D_pass 50 = .ok (.getfield 9, 3) := by decide +kernel
theorem d_D_pass_53 : decode b_D_pass 53 = .ok (.iload_n 3, 1) := by decide +kernel
theorem d_D_pass_54 : decode b_D_pass 54 = .ok (.dup2, 1) := by decide +kernel
theorem d_D_pass_55 : decode b_D_pass 55 = .ok (.iaload, 1) := by decide +kernel
theorem d_D_pass_56 : decode b_D_pass 56 = .ok (.iload 4, 2) := by decide +kernel
theorem d_D_pass_58 : decode b_D_pass 58 = .ok (.iadd, 1) := by decide +kernel
theorem d_D_pass_59 : decode b_D_pass 59 = .ok (.iastore, 1) := by decide +kernel
theorem d_D_pass_60 : decode b_D_pass 60 = .ok (.aload_n 0, 1) := by decide +kernel
theorem d_D_pass_61 : decode b_D_pass 61 = .ok (.getfield 9, 3) := by decide +kernel
theorem d_D_pass_64 : decode b_D_pass 64 = .ok (.iconst 2, 1) := by decide +kernel
theorem d_D_pass_65 : decode b_D_pass 65 = .ok (.iload_n 3, 1) := by decide +kernel
theorem d_D_pass_66 : decode b_D_pass 66 = .ok (.imul, 1) := by decide +kernel
theorem d_D_pass_67 : decode b_D_pass 67 = .ok (.iconst 0, 1) := by decide +kernel
theorem d_D_pass_68 : decode b_D_pass 68 = .ok (.iastore, 1) := by decide +kernel
theorem d_D_pass_69 : decode b_D_pass 69 = .ok (.aload_n 0, 1) := by decide +kernel
theorem d_D_pass_70 : decode b_D_pass 70 = .ok (.getfield 9, 3) := by decide +kernel
theorem d_D_pass_73 : decode b_D_pass 73 = .ok (.iconst 2, 1) := by decide +kernel
theorem d_D_pass_74 : decode b_D_pass 74 = .ok (.iload_n 3, 1) := by decide +kernel
theorem d_D_pass_75 : decode b_D_pass 75 = .ok (.imul, 1) := by decide +kernel
theorem d_D_pass_76 : decode b_D_pass 76 = .ok (.iconst 1, 1) := by decide +kernel
theorem d_D_pass_77 : decode b_D_pass 77 = .ok (.iadd, 1) := by decide +kernel
theorem d_D_pass_78 : decode b_D_pass 78 = .ok (.iconst 0, 1) := by decide +kernel
theorem d_D_pass_79 : decode b_D_pass 79 = .ok (.iastore, 1) := by decide +kernel
theorem d_D_pass_80 : decode b_D_pass 80 = .ok (.iconst 1, 1) := by decide +kernel
theorem d_D_pass_81 : decode b_D_pass 81 = .ok (.istore_n 2, 1) := by decide +kernel
theorem d_D_pass_82 : decode b_D_pass 82 = .ok (.iinc 3 (-1), 3) := by decide +kernel
theorem d_D_pass_85 : decode b_D_pass 85 = .ok (.goto (-80), 3) := by decide +kernel
theorem d_D_pass_88 : decode b_D_pass 88 = .ok (.iload_n 2, 1) := by decide +kernel
theorem d_D_pass_89 : decode b_D_pass 89 = .ok (.ireturn, 1) := by decide +kernel
theorem d_D_rangesInUse_0 : decode b_D_rangesInUse 0 = .ok (.iconst 0, 1) := by decide +kernel
theorem d_D_rangesInUse_1 : decode b_D_rangesInUse 1 = .ok (.istore_n 1, 1) := by decide +kernel
theorem d_D_rangesInUse_2 : decode b_D_rangesInUse 2 = .ok (.iconst 1, 1) := by decide +kernel
theorem d_D_rangesInUse_3 : decode b_D_rangesInUse 3 = .ok (.istore_n 2, 1) := by decide +kernel
theorem d_D_rangesInUse_4 : decode b_D_rangesInUse 4 = .ok (.iload_n 2, 1) := by decide +kernel
theorem d_D_rangesInUse_5 : decode b_D_rangesInUse 5 = .ok (.bipush 64, 2) := by decide +kernel
theorem d_D_rangesInUse_7 : decode b_D_rangesInUse 7 = .ok (.if_icmp .ge 21, 3) := by decide +kernel
theorem d_D_rangesInUse_10 : decode b_D_rangesInUse 10 = .ok (.aload_n 0, 1) := by decide +kernel
theorem d_D_rangesInUse_11 : decode b_D_rangesInUse 11 = .ok (.getfield 9, 3) := by decide +kernel
theorem d_D_rangesInUse_14 : decode b_D_rangesInUse 14 = .ok (.iload_n 2, 1) := by decide +kernel
theorem d_D_rangesInUse_15 : decode b_D_rangesInUse 15 = .ok (.iaload, 1) := by decide +kernel
theorem d_D_rangesInUse_16 : decode b_D_rangesInUse 16 = .ok (.ifCond .le 6, 3) := by decide +kernel
theorem d_D_rangesInUse_19 : decode b_D_rangesInUse 19 = .ok (.iinc 1 1, 3) := by decide +kernel
theorem d_D_rangesInUse_22 : decode b_D_rangesInUse 22 = .ok (.iinc 2 1, 3) := by decide +kernel
theorem d_D_rangesInUse_25 : decode b_D_rangesInUse 25 = .ok (.goto (-21), 3) := by decide +kernel
theorem d_D_rangesInUse_28 : decode b_D_rangesInUse 28 = .ok (.iload_n 1, 1) := by decide +kernel
theorem d_D_rangesInUse_29 : decode b_D_rangesInUse 29 = .ok (.ireturn, 1) := by decide +kernel
theorem d_D_endingBefore_0 : decode b_D_endingBefore 0 = .ok (.iconst 0, 1) := by decide +kernel
theorem d_D_endingBefore_1 : decode b_D_endingBefore 1 = .ok (.istore_n 2, 1) := by decide +kernel
theorem d_D_endingBefore_2 : decode b_D_endingBefore 2 = .ok (.iconst 0, 1) := by decide +kernel
theorem d_D_endingBefore_3 : decode b_D_endingBefore 3 = .ok (.istore_n 3, 1) := by decide +kernel
theorem d_D_endingBefore_4 : decode b_D_endingBefore 4 = .ok (.iload_n 3, 1) := by decide +kernel
theorem d_D_endingBefore_5 : decode b_D_endingBefore 5 = .ok (.iload_n 1, 1) := by decide +kernel
theorem d_D_endingBefore_6 : decode b_D_endingBefore 6 = .ok (.if_icmp .ge 17, 3) := by decide +kernel
theorem d_D_endingBefore_9 : decode b_D_endingBefore 9 = .ok (.iload_n 2, 1) := by decide +kernel
theorem d_D_endingBefore_10 : decode b_D_endingBefore 10 = .ok (.aload_n 0, 1) := by decide +kernel
theorem d_D_endingBefore_11 : decode b_D_endingBefore 11 = .ok (.iload_n 3, 1) := by decide +kernel
theorem d_D_endingBefore_12 : decode b_D_endingBefore 12 = .ok (.invokevirtual 31, 3) := by decide +kernel
theorem d_D_endingBefore_15 : decode b_D_endingBefore 15 = .ok (.iadd, 1) := by decide +kernel
theorem d_D_endingBefore_16 : decode b_D_endingBefore 16 = .ok (.istore_n 2, 1) := by decide +kernel
theorem d_D_endingBefore_17 : decode b_D_endingBefore 17 = .ok (.iinc 3 1, 3) := by decide +kernel
theorem d_D_endingBefore_20 : decode b_D_endingBefore 20 = .ok (.goto (-16), 3) := by decide +kernel
theorem d_D_endingBefore_23 : decode b_D_endingBefore 23 = .ok (.iload_n 2, 1) := by decide +kernel
theorem d_D_endingBefore_24 : decode b_D_endingBefore 24 = .ok (.ireturn, 1) := by decide +kernel
theorem d_D_startingBefore_0 : decode b_D_startingBefore 0 = .ok (.iconst 0, 1) := by decide +kernel
theorem d_D_startingBefore_1 : decode b_D_startingBefore 1 = .ok (.istore_n 2, 1) := by decide +kernel
theorem d_D_startingBefore_2 : decode b_D_startingBefore 2 = .ok (.iconst 0, 1) := by decide +kernel
theorem d_D_startingBefore_3 : decode b_D_startingBefore 3 = .ok (.istore_n 3, 1) := by decide +kernel
theorem d_D_startingBefore_4 : decode b_D_startingBefore 4 = .ok (.iload_n 3, 1) := by decide +kernel
theorem d_D_startingBefore_5 : decode b_D_startingBefore 5 = .ok (.iload_n 1, 1) := by decide +kernel
theorem d_D_startingBefore_6 : decode b_D_startingBefore 6 = .ok (.if_icmp .ge 17, 3) := by decide +kernel
theorem d_D_startingBefore_9 : decode b_D_startingBefore 9 = .ok (.iload_n 2, 1) := by decide +kernel
theorem d_D_startingBefore_10 : decode b_D_startingBefore 10 = .ok (.aload_n 0, 1) := by decide +kernel
theorem d_D_startingBefore_11 : decode b_D_startingBefore 11 = .ok (.iload_n 3, 1) := by decide +kernel
theorem d_D_startingBefore_12 : decode b_D_startingBefore 12 = .ok (.invokevirtual 35, 3) := by decide +kernel
theorem d_D_startingBefore_15 : decode b_D_startingBefore 15 = .ok (.iadd, 1) := by decide +kernel
theorem d_D_startingBefore_16 : decode b_D_startingBefore 16 = .ok (.istore_n 2, 1) := by decide +kernel
theorem d_D_startingBefore_17 : decode b_D_startingBefore 17 = .ok (.iinc 3 1, 3) := by decide +kernel
theorem d_D_startingBefore_20 : decode b_D_startingBefore 20 = .ok (.goto (-16), 3) := by decide +kernel
theorem d_D_startingBefore_23 : decode b_D_startingBefore 23 = .ok (.iload_n 2, 1) := by decide +kernel
theorem d_D_startingBefore_24 : decode b_D_startingBefore 24 = .ok (.ireturn, 1) := by decide +kernel
theorem d_D_endingAt_0 : decode b_D_endingAt 0 = .ok (.iconst 0, 1) := by decide +kernel
theorem d_D_endingAt_1 : decode b_D_endingAt 1 = .ok (.istore_n 2, 1) := by decide +kernel
theorem d_D_endingAt_2 : decode b_D_endingAt 2 = .ok (.bipush 32, 2) := by decide +kernel
theorem d_D_endingAt_4 : decode b_D_endingAt 4 = .ok (.iload_n 1, 1) := by decide +kernel
theorem d_D_endingAt_5 : decode b_D_endingAt 5 = .ok (.iadd, 1) := by decide +kernel
theorem d_D_endingAt_6 : decode b_D_endingAt 6 = .ok (.istore_n 3, 1) := by decide +kernel
theorem d_D_endingAt_7 : decode b_D_endingAt 7 = .ok (.iload_n 3, 1) := by decide +kernel
theorem d_D_endingAt_8 : decode b_D_endingAt 8 = .ok (.iconst 1, 1) := by decide +kernel
theorem d_D_endingAt_9 : decode b_D_endingAt 9 = .ok (.if_icmp .lt 28, 3) := by decide +kernel
theorem d_D_endingAt_12 : decode b_D_endingAt 12 = .ok (.iload_n 2, 1) := by decide +kernel
theorem d_D_endingAt_13 : decode b_D_endingAt 13 = .ok (.aload_n 0, 1) := by decide +kernel
theorem d_D_endingAt_14 : decode b_D_endingAt 14 = .ok (.getfield 9, 3) := by decide +kernel
theorem d_D_endingAt_17 : decode b_D_endingAt 17 = .ok (.iload_n 3, 1) := by decide +kernel
theorem d_D_endingAt_18 : decode b_D_endingAt 18 = .ok (.iaload, 1) := by decide +kernel
theorem d_D_endingAt_19 : decode b_D_endingAt 19 = .ok (.iadd, 1) := by decide +kernel
theorem d_D_endingAt_20 : decode b_D_endingAt 20 = .ok (.istore_n 2, 1) := by decide +kernel
theorem d_D_endingAt_21 : decode b_D_endingAt 21 = .ok (.iload_n 3, 1) := by decide +kernel
theorem d_D_endingAt_22 : decode b_D_endingAt 22 = .ok (.iconst 2, 1) := by decide +kernel
theorem d_D_endingAt_23 : decode b_D_endingAt 23 = .ok (.irem, 1) := by decide +kernel
theorem d_D_endingAt_24 : decode b_D_endingAt 24 = .ok (.ifCond .ne 6, 3) := by decide +kernel
theorem d_D_endingAt_27 : decode b_D_endingAt 27 = .ok (.goto 10, 3) := by decide +kernel
theorem d_D_endingAt_30 : decode b_D_endingAt 30 = .ok (.iload_n 3, 1) := by decide +kernel
theorem d_D_endingAt_31 : decode b_D_endingAt 31 = .ok (.iconst 2, 1) := by decide +kernel
theorem d_D_endingAt_32 : decode b_D_endingAt 32 = .ok (.idiv, 1) := by decide +kernel
theorem d_D_endingAt_33 : decode b_D_endingAt 33 = .ok (.istore_n 3, 1) := by decide +kernel
theorem d_D_endingAt_34 : decode b_D_endingAt 34 = .ok (.goto (-27), 3) := by decide +kernel
theorem d_D_endingAt_37 : decode b_D_endingAt 37 = .ok (.iload_n 2, 1) := by decide +kernel
theorem d_D_endingAt_38 : decode b_D_endingAt 38 = .ok (.ireturn, 1) := by decide +kernel
theorem d_D_startingAt_0 : decode b_D_startingAt 0 = .ok (.iconst 0, 1) := by decide +kernel
theorem d_D_startingAt_1 : decode b_D_startingAt 1 = .ok (.istore_n 2, 1) := by decide +kernel
theorem d_D_startingAt_2 : decode b_D_startingAt 2 = .ok (.bipush 32, 2) := by decide +kernel
theorem d_D_startingAt_4 : decode b_D_startingAt 4 = .ok (.iload_n 1, 1) := by decide +kernel
theorem d_D_startingAt_5 : decode b_D_startingAt 5 = .ok (.iadd, 1) := by decide +kernel
theorem d_D_startingAt_6 : decode b_D_startingAt 6 = .ok (.istore_n 3, 1) := by decide +kernel
theorem d_D_startingAt_7 : decode b_D_startingAt 7 = .ok (.iload_n 3, 1) := by decide +kernel
theorem d_D_startingAt_8 : decode b_D_startingAt 8 = .ok (.iconst 1, 1) := by decide +kernel
theorem d_D_startingAt_9 : decode b_D_startingAt 9 = .ok (.if_icmp .lt 29, 3) := by decide +kernel
theorem d_D_startingAt_12 : decode b_D_startingAt 12 = .ok (.iload_n 2, 1) := by decide +kernel
theorem d_D_startingAt_13 : decode b_D_startingAt 13 = .ok (.aload_n 0, 1) := by decide +kernel
theorem d_D_startingAt_14 : decode b_D_startingAt 14 = .ok (.getfield 9, 3) := by decide +kernel
theorem d_D_startingAt_17 : decode b_D_startingAt 17 = .ok (.iload_n 3, 1) := by decide +kernel
theorem d_D_startingAt_18 : decode b_D_startingAt 18 = .ok (.iaload, 1) := by decide +kernel
theorem d_D_startingAt_19 : decode b_D_startingAt 19 = .ok (.iadd, 1) := by decide +kernel
theorem d_D_startingAt_20 : decode b_D_startingAt 20 = .ok (.istore_n 2, 1) := by decide +kernel
theorem d_D_startingAt_21 : decode b_D_startingAt 21 = .ok (.iload_n 3, 1) := by decide +kernel
theorem d_D_startingAt_22 : decode b_D_startingAt 22 = .ok (.iconst 2, 1) := by decide +kernel
theorem d_D_startingAt_23 : decode b_D_startingAt 23 = .ok (.irem, 1) := by decide +kernel
theorem d_D_startingAt_24 : decode b_D_startingAt 24 = .ok (.iconst 1, 1) := by decide +kernel
theorem d_D_startingAt_25 : decode b_D_startingAt 25 = .ok (.if_icmp .ne 6, 3) := by decide +kernel
theorem d_D_startingAt_28 : decode b_D_startingAt 28 = .ok (.goto 10, 3) := by decide +kernel
theorem d_D_startingAt_31 : decode b_D_startingAt 31 = .ok (.iload_n 3, 1) := by decide +kernel
theorem d_D_startingAt_32 : decode b_D_startingAt 32 = .ok (.iconst 2, 1) := by decide +kernel
theorem d_D_startingAt_33 : decode b_D_startingAt 33 = .ok (.idiv, 1) := by decide +kernel
theorem d_D_startingAt_34 : decode b_D_startingAt 34 = .ok (.istore_n 3, 1) := by decide +kernel
theorem d_D_startingAt_35 : decode b_D_startingAt 35 = .ok (.goto (-28), 3) := by decide +kernel
theorem d_D_startingAt_38 : decode b_D_startingAt 38 = .ok (.iload_n 2, 1) := by decide +kernel
theorem d_D_startingAt_39 : decode b_D_startingAt 39 = .ok (.ireturn, 1) := by decide +kernel
theorem d_D_valueReaching_0 : decode b_D_valueReaching 0 = .ok (.iconst 0, 1) := by decide +kernel
theorem d_D_valueReaching_1 : decode b_D_valueReaching 1 = .ok (.istore_n 2, 1) := by decide +kernel
theorem d_D_valueReaching_2 : decode b_D_valueReaching 2 = .ok (.iconst 0, 1) := by decide +kernel
theorem d_D_valueReaching_3 : decode b_D_valueReaching 3 = .ok (.istore_n 3, 1) := by decide +kernel
theorem d_D_valueReaching_4 : decode b_D_valueReaching 4 = .ok (.iload_n 3, 1) := by decide +kernel
theorem d_D_valueReaching_5 : decode b_D_valueReaching 5 = .ok (.bipush 32, 2) := by decide +kernel
theorem d_D_valueReaching_7 : decode b_D_valueReaching 7 = .ok (.if_icmp .ge 33, 3) := by decide +kernel
theorem d_D_valueReaching_10 : decode b_D_valueReaching 10 = .ok (.iload_n 2, 1) := by decide +kernel
theorem d_D_valueReaching_11 : decode b_D_valueReaching 11 = .ok (.aload_n 0, 1) := by decide +kernel
theorem d_D_valueReaching_12 : decode b_D_valueReaching 12 = .ok (.iload_n 3, 1) := by decide +kernel
theorem d_D_valueReaching_13 : decode b_D_valueReaching 13 = .ok (.invokevirtual 31, 3) := by decide +kernel
theorem d_D_valueReaching_16 : decode b_D_valueReaching 16 = .ok (.iadd, 1) := by decide +kernel
theorem d_D_valueReaching_17 : decode b_D_valueReaching 17 = .ok (.istore_n 2, 1) := by decide +kernel
theorem d_D_valueReaching_18 : decode b_D_valueReaching 18 = .ok (.iload_n 2, 1) := by decide +kernel
theorem d_D_valueReaching_19 : decode b_D_valueReaching 19 = .ok (.iconst 1, 1) := by decide +kernel
theorem d_D_valueReaching_20 : decode b_D_valueReaching 20 = .ok (.if_icmp .lt 14, 3) := by decide +kernel
theorem d_D_valueReaching_23 : decode b_D_valueReaching 23 = .ok (.sipush 1000, 3) := by decide +kernel
theorem d_D_valueReaching_26 : decode b_D_valueReaching 26 = .ok (.iload_n 2, 1) := by decide +kernel
theorem d_D_valueReaching_27 : decode b_D_valueReaching 27 = .ok (.imul, 1) := by decide +kernel
theorem d_D_valueReaching_28 : decode b_D_valueReaching 28 = .ok (.iload_n 1, 1) := by decide +kernel
theorem d_D_valueReaching_29 : decode b_D_valueReaching 29 = .ok (.if_icmp .lt 5, 3) := by decide +kernel
theorem d_D_valueReaching_32 : decode b_D_valueReaching 32 = .ok (.iload_n 3, 1) := by decide +kernel
theorem d_D_valueReaching_33 : decode b_D_valueReaching 33 = .ok (.ireturn, 1) := by decide +kernel
theorem d_D_valueReaching_34 : decode b_D_valueReaching 34 = .ok (.iinc 3 1, 3) := by decide +kernel
theorem d_D_valueReaching_37 : decode b_D_valueReaching 37 = .ok (.goto (-33), 3) := by decide +kernel
theorem d_D_valueReaching_40 : decode b_D_valueReaching 40 = .ok (.iconst (-1), 1) := by decide +kernel
theorem d_D_valueReaching_41 : decode b_D_valueReaching 41 = .ok (.ireturn, 1) := by decide +kernel
theorem d_M_init_0 : decode b_M_init 0 = .ok (.aload_n 0, 1) := by decide +kernel
theorem d_M_init_1 : decode b_M_init 1 = .ok (.invokespecial 1, 3) := by decide +kernel
theorem d_M_init_4 : decode b_M_init 4 = .ok (.aload_n 0, 1) := by decide +kernel
theorem d_M_init_5 : decode b_M_init 5 = .ok (.iconst 0, 1) := by decide +kernel
theorem d_M_init_6 : decode b_M_init 6 = .ok (.putfield 7, 3) := by decide +kernel
theorem d_M_init_9 : decode b_M_init 9 = .ok (.aload_n 0, 1) := by decide +kernel
theorem d_M_init_10 : decode b_M_init 10 = .ok (.iconst 0, 1) := by decide +kernel
theorem d_M_init_11 : decode b_M_init 11 = .ok (.putfield 13, 3) := by decide +kernel
theorem d_M_init_14 : decode b_M_init 14 = .ok (.aload_n 0, 1) := by decide +kernel
theorem d_M_init_15 : decode b_M_init 15 = .ok (.iconst 0, 1) := by decide +kernel
theorem d_M_init_16 : decode b_M_init 16 = .ok (.putfield 16, 3) := by decide +kernel
theorem d_M_init_19 : decode b_M_init 19 = .ok (.aload_n 0, 1) := by decide +kernel
theorem d_M_init_20 : decode b_M_init 20 = .ok (.new 19, 3) := by decide +kernel
theorem d_M_init_23 : decode b_M_init 23 = .ok (.dup, 1) := by decide +kernel
theorem d_M_init_24 : decode b_M_init 24 = .ok (.iload_n 1, 1) := by decide +kernel
theorem d_M_init_25 : decode b_M_init 25 = .ok (.iload_n 2, 1) := by decide +kernel
theorem d_M_init_26 : decode b_M_init 26 = .ok (.invokespecial 21, 3) := by decide +kernel
theorem d_M_init_29 : decode b_M_init 29 = .ok (.putfield 24, 3) := by decide +kernel
theorem d_M_init_32 : decode b_M_init 32 = .ok (.return_, 1) := by decide +kernel
theorem d_M_send_0 : decode b_M_send 0 = .ok (.aload_n 0, 1) := by decide +kernel
theorem d_M_send_1 : decode b_M_send 1 = .ok (.iload_n 1, 1) := by decide +kernel
theorem d_M_send_2 : decode b_M_send 2 = .ok (.putfield 7, 3) := by decide +kernel
theorem d_M_send_5 : decode b_M_send 5 = .ok (.aload_n 0, 1) := by decide +kernel
theorem d_M_send_6 : decode b_M_send 6 = .ok (.iload_n 2, 1) := by decide +kernel
theorem d_M_send_7 : decode b_M_send 7 = .ok (.putfield 13, 3) := by decide +kernel
theorem d_M_send_10 : decode b_M_send 10 = .ok (.aload_n 0, 1) := by decide +kernel
theorem d_M_send_11 : decode b_M_send 11 = .ok (.iload_n 3, 1) := by decide +kernel
theorem d_M_send_12 : decode b_M_send 12 = .ok (.putfield 16, 3) := by decide +kernel
theorem d_M_send_15 : decode b_M_send 15 = .ok (.aload_n 0, 1) := by decide +kernel
theorem d_M_send_16 : decode b_M_send 16 = .ok (.getfield 24, 3) := by decide +kernel
theorem d_M_send_19 : decode b_M_send 19 = .ok (.aload 4, 2) := by decide +kernel
theorem d_M_send_21 : decode b_M_send 21 = .ok (.invokevirtual 28, 3) := by decide +kernel
theorem d_M_send_24 : decode b_M_send 24 = .ok (.return_, 1) := by decide +kernel
theorem d_N_init_0 : decode b_N_init 0 = .ok (.aload_n 0, 1) := by decide +kernel
theorem d_N_init_1 : decode b_N_init 1 = .ok (.invokespecial 3, 3) := by decide +kernel
theorem d_N_init_4 : decode b_N_init 4 = .ok (.aload_n 0, 1) := by decide +kernel
theorem d_N_init_5 : decode b_N_init 5 = .ok (.iconst (-1), 1) := by decide +kernel
theorem d_N_init_6 : decode b_N_init 6 = .ok (.putfield 9, 3) := by decide +kernel
theorem d_N_init_9 : decode b_N_init 9 = .ok (.aload_n 0, 1) := by decide +kernel
theorem d_N_init_10 : decode b_N_init 10 = .ok (.iconst 0, 1) := by decide +kernel
theorem d_N_init_11 : decode b_N_init 11 = .ok (.putfield 15, 3) := by decide +kernel
theorem d_N_init_14 : decode b_N_init 14 = .ok (.aload_n 0, 1) := by decide +kernel
theorem d_N_init_15 : decode b_N_init 15 = .ok (.iconst 4, 1) := by decide +kernel
theorem d_N_init_16 : decode b_N_init 16 = .ok (.newarray .int, 2) := by decide +kernel
theorem d_N_init_18 : decode b_N_init 18 = .ok (.putfield 19, 3) := by decide +kernel
theorem d_N_init_21 : decode b_N_init 21 = .ok (.aload_n 0, 1) := by decide +kernel
theorem d_N_init_22 : decode b_N_init 22 = .ok (.iconst 0, 1) := by decide +kernel
theorem d_N_init_23 : decode b_N_init 23 = .ok (.putfield 23, 3) := by decide +kernel
theorem d_N_init_26 : decode b_N_init 26 = .ok (.aload_n 0, 1) := by decide +kernel
theorem d_N_init_27 : decode b_N_init 27 = .ok (.iconst 0, 1) := by decide +kernel
theorem d_N_init_28 : decode b_N_init 28 = .ok (.putfield 26, 3) := by decide +kernel
theorem d_N_init_31 : decode b_N_init 31 = .ok (.aload_n 0, 1) := by decide +kernel
theorem d_N_init_32 : decode b_N_init 32 = .ok (.iconst 0, 1) := by decide +kernel
theorem d_N_init_33 : decode b_N_init 33 = .ok (.putfield 29, 3) := by decide +kernel
theorem d_N_init_36 : decode b_N_init 36 = .ok (.aload_n 0, 1) := by decide +kernel
theorem d_N_init_37 : decode b_N_init 37 = .ok (.iload_n 1, 1) := by decide +kernel
theorem d_N_init_38 : decode b_N_init 38 = .ok (.putfield 32, 3) := by decide +kernel
theorem d_N_init_41 : decode b_N_init 41 = .ok (.aload_n 0, 1) := by decide +kernel
theorem d_N_init_42 : decode b_N_init 42 = .ok (.new 35, 3) := by decide +kernel
theorem d_N_init_45 : decode b_N_init 45 = .ok (.dup, 1) := by decide +kernel
theorem d_N_init_46 : decode b_N_init 46 = .ok (.iload_n 2, 1) := by decide +kernel
theorem d_N_init_47 : decode b_N_init 47 = .ok (.iload_n 3, 1) := by decide +kernel
theorem d_N_init_48 : decode b_N_init 48 = .ok (.invokespecial 37, 3) := by decide +kernel
theorem d_N_init_51 : decode b_N_init 51 = .ok (.putfield 40, 3) := by decide +kernel
theorem d_N_init_54 : decode b_N_init 54 = .ok (.aload_n 0, 1) := by decide +kernel
theorem d_N_init_55 : decode b_N_init 55 = .ok (.new 35, 3) := by decide +kernel
theorem d_N_init_58 : decode b_N_init 58 = .ok (.dup, 1) := by decide +kernel
theorem d_N_init_59 : decode b_N_init 59 = .ok (.iload_n 2, 1) := by decide +kernel
theorem d_N_init_60 : decode b_N_init 60 = .ok (.iload_n 3, 1) := by decide +kernel
theorem d_N_init_61 : decode b_N_init 61 = .ok (.invokespecial 37, 3) := by decide +kernel
theorem d_N_init_64 : decode b_N_init 64 = .ok (.putfield 44, 3) := by decide +kernel
theorem d_N_init_67 : decode b_N_init 67 = .ok (.return_, 1) := by decide +kernel
theorem d_N_itemCount_0 : decode b_N_itemCount 0 = .ok (.aload_n 0, 1) := by decide +kernel
theorem d_N_itemCount_1 : decode b_N_itemCount 1 = .ok (.getfield 40, 3) := by decide +kernel
theorem d_N_itemCount_4 : decode b_N_itemCount 4 = .ok (.getfield 47, 3) := by decide +kernel
theorem d_N_itemCount_7 : decode b_N_itemCount 7 = .ok (.aload_n 0, 1) := by decide +kernel
theorem d_N_itemCount_8 : decode b_N_itemCount 8 = .ok (.getfield 23, 3) := by decide +kernel
theorem d_N_itemCount_11 : decode b_N_itemCount 11 = .ok (.iadd, 1) := by decide +kernel
theorem d_N_itemCount_12 : decode b_N_itemCount 12 = .ok (.ireturn, 1) := by decide +kernel
theorem d_N_putIntoOpenBlock_0 : decode b_N_putIntoOpenBlock 0 = .ok (.aload_n 0, 1) := by decide +kernel
theorem d_N_putIntoOpenBlock_1 : decode b_N_putIntoOpenBlock 1 = .ok (.getfield 19, 3) := by decide +kernel
theorem d_N_putIntoOpenBlock_4 : decode b_N_putIntoOpenBlock 4 = .ok (.aload_n 0, 1) := by decide +kernel
theorem d_N_putIntoOpenBlock_5 : decode b_N_putIntoOpenBlock 5 = .ok (.getfield 23, 3) := by decide +kernel
theorem d_N_putIntoOpenBlock_8 : decode b_N_putIntoOpenBlock 8 = .ok (.iload_n 1, 1) := by decide +kernel
theorem d_N_putIntoOpenBlock_9 : decode b_N_putIntoOpenBlock 9 = .ok (.iastore, 1) := by decide +kernel
theorem d_N_putIntoOpenBlock_10 : decode b_N_putIntoOpenBlock 10 = .ok (.aload_n 0, 1) := by decide +kernel
theorem d_N_putIntoOpenBlock_11 : decode b_N_putIntoOpenBlock 11 = .ok (.dup, 1) := by decide +kernel
theorem d_N_putIntoOpenBlock_12 : decode b_N_putIntoOpenBlock 12 = .ok (.getfield 23, 3) := by decide +kernel
theorem d_N_putIntoOpenBlock_15 : decode b_N_putIntoOpenBlock 15 = .ok (.iconst 1, 1) := by decide +kernel
theorem d_N_putIntoOpenBlock_16 : decode b_N_putIntoOpenBlock 16 = .ok (.iadd, 1) := by decide +kernel
theorem d_N_putIntoOpenBlock_17 : decode b_N_putIntoOpenBlock 17 = .ok (.putfield 23, 3) := by decide +kernel
theorem d_N_putIntoOpenBlock_20 : decode b_N_putIntoOpenBlock 20 = .ok (.aload_n 0, 1) := by decide +kernel
theorem d_N_putIntoOpenBlock_21 : decode b_N_putIntoOpenBlock 21 = .ok (.getfield 23, 3) := by decide +kernel
theorem d_N_putIntoOpenBlock_24 : decode b_N_putIntoOpenBlock 24 = .ok (.iconst 4, 1) := by decide +kernel
theorem d_N_putIntoOpenBlock_25 : decode b_N_putIntoOpenBlock 25 = .ok (.if_icmp .ne 8, 3) := by decide +kernel
theorem d_N_putIntoOpenBlock_28 : decode b_N_putIntoOpenBlock 28 = .ok (.aload_n 0, 1) := by decide +kernel
theorem d_N_putIntoOpenBlock_29 : decode b_N_putIntoOpenBlock 29 = .ok (.invokevirtual 50, 3) := by decide +kernel
theorem d_N_putIntoOpenBlock_32 : decode b_N_putIntoOpenBlock 32 = .ok (.pop, 1) := by decide +kernel
theorem d_N_putIntoOpenBlock_33 : decode b_N_putIntoOpenBlock 33 = .ok (.return_, 1) := by decide +kernel
theorem d_N_writeOpenBlock_0 : decode b_N_writeOpenBlock 0 = .ok (.aload_n 0, 1) := by decide +kernel
theorem d_N_writeOpenBlock_1 : decode b_N_writeOpenBlock 1 = .ok (.getfield 23, 3) := by decide +kernel
theorem d_N_writeOpenBlock_4 : decode b_N_writeOpenBlock 4 = .ok (.istore_n 1, 1) := by decide +kernel
theorem d_N_writeOpenBlock_5 : decode b_N_writeOpenBlock 5 = .ok (.iconst 0, 1) := by decide +kernel
theorem d_N_writeOpenBlock_6 : decode b_N_writeOpenBlock 6 = .ok (.istore_n 2, 1) := by decide +kernel
theorem d_N_writeOpenBlock_7 : decode b_N_writeOpenBlock 7 = .ok (.iload_n 2, 1) := by decide +kernel
theorem d_N_writeOpenBlock_8 : decode b_N_writeOpenBlock 8 = .ok (.iload_n 1, 1) := by decide +kernel
theorem d_N_writeOpenBlock_9 : decode b_N_writeOpenBlock 9 = .ok (.if_icmp .ge 26, 3) := by decide +kernel
theorem d_N_writeOpenBlock_12 : decode b_N_writeOpenBlock 12 = .ok (.aload_n 0, 1) := by decide +kernel
theorem d_N_writeOpenBlock_13 : decode b_N_writeOpenBlock 13 = .ok (.getfield 40, 3) := by decide +kernel
theorem d_N_writeOpenBlock_16 : decode b_N_writeOpenBlock 16 = .ok (.aload_n 0, 1) := by decide +kernel
theorem d_N_writeOpenBlock_17 : decode b_N_writeOpenBlock 17 = .ok (.getfield 19, 3) := by decide +kernel
theorem d_N_writeOpenBlock_20 : decode b_N_writeOpenBlock 20 = .ok (.iload_n 2, 1) := by decide +kernel
theorem d_N_writeOpenBlock_21 : decode b_N_writeOpenBlock 21 = .ok (.iaload, 1) := by decide +kernel
theorem d_N_writeOpenBlock_22 : decode b_N_writeOpenBlock 22 = .ok (.aload_n 0, 1) := by decide +kernel
theorem d_N_writeOpenBlock_23 : decode b_N_writeOpenBlock 23 = .ok (.getfield 32, 3) := by decide +kernel
theorem d_N_writeOpenBlock_26 : decode b_N_writeOpenBlock 26 = .ok (.invokevirtual 54, 3) := by decide +kernel
theorem d_N_writeOpenBlock_29 : decode b_N_writeOpenBlock 29 = .ok (.iinc 2 1, 3) := by decide +kernel
theorem d_N_writeOpenBlock_32 : decode b_N_writeOpenBlock 32 = .ok (.goto (-25), 3) := by decide +kernel
theorem d_N_writeOpenBlock_35 : decode b_N_writeOpenBlock 35 = .ok (.aload_n 0, 1) := by decide +kernel
theorem d_N_writeOpenBlock_36 : decode b_N_writeOpenBlock 36 = .ok (.iconst 0, 1) := by decide +kernel
theorem d_N_writeOpenBlock_37 : decode b_N_writeOpenBlock 37 = .ok (.putfield 23, 3) := by decide +kernel
theorem d_N_writeOpenBlock_40 : decode b_N_writeOpenBlock 40 = .ok (.iload_n 1, 1) := by decide +kernel
theorem d_N_writeOpenBlock_41 : decode b_N_writeOpenBlock 41 = .ok (.ireturn, 1) := by decide +kernel
theorem d_S_init_0 : decode b_S_init 0 = .ok (.aload_n 0, 1) := by decide +kernel
theorem d_S_init_1 : decode b_S_init 1 = .ok (.invokespecial 3, 3) := by decide +kernel
theorem d_S_init_4 : decode b_S_init 4 = .ok (.aload_n 0, 1) := by decide +kernel
theorem d_S_init_5 : decode b_S_init 5 = .ok (.iconst 0, 1) := by decide +kernel
theorem d_S_init_6 : decode b_S_init 6 = .ok (.putfield 9, 3) := by decide +kernel
theorem d_S_init_9 : decode b_S_init 9 = .ok (.aload_n 0, 1) := by decide +kernel
theorem d_S_init_10 : decode b_S_init 10 = .ok (.lconst 0, 1) := by decide +kernel
theorem d_S_init_11 : decode b_S_init 11 = .ok (.putfield 15, 3) := by decide +kernel
theorem d_S_init_14 : decode b_S_init 14 = .ok (.aload_n 0, 1) := by decide +kernel
theorem d_S_init_15 : decode b_S_init 15 = .ok (.iconst 0, 1) := by decide +kernel
theorem d_S_init_16 : decode b_S_init 16 = .ok (.putfield 19, 3) := by decide +kernel
theorem d_S_init_19 : decode b_S_init 19 = .ok (.aload_n 0, 1) := by decide +kernel
theorem d_S_init_20 : decode b_S_init 20 = .ok (.iconst 0, 1) := by decide +kernel
theorem d_S_init_21 : decode b_S_init 21 = .ok (.putfield 22, 3) := by decide +kernel
theorem d_S_init_24 : decode b_S_init 24 = .ok (.aload_n 0, 1) := by decide +kernel
theorem d_S_init_25 : decode b_S_init 25 = .ok (.bipush 12, 2) := by decide +kernel
theorem d_S_init_27 : decode b_S_init 27 = .ok (.newarray .int, 2) := by decide +kernel
theorem d_S_init_29 : decode b_S_init 29 = .ok (.putfield 25, 3) := by decide +kernel
theorem d_S_init_32 : decode b_S_init 32 = .ok (.aload_n 0, 1) := by decide +kernel
theorem d_S_init_33 : decode b_S_init 33 = .ok (.new 29, 3) := by decide +kernel
theorem d_S_init_36 : decode b_S_init 36 = .ok (.dup, 1) := by decide +kernel
theorem d_S_init_37 : decode b_S_init 37 = .ok (.iload_n 1, 1) := by decide +kernel
theorem d_S_init_38 : decode b_S_init 38 = .ok (.invokespecial 31, 3) := by decide +kernel
theorem d_S_init_41 : decode b_S_init 41 = .ok (.putfield 34, 3) := by decide +kernel
theorem d_S_init_44 : decode b_S_init 44 = .ok (.aload_n 0, 1) := by decide +kernel
theorem d_S_init_45 : decode b_S_init 45 = .ok (.new 38, 3) := by decide +kernel
theorem d_S_init_48 : decode b_S_init 48 = .ok (.dup, 1) := by decide +kernel
theorem d_S_init_49 : decode b_S_init 49 = .ok (.iload_n 2, 1) := by decide +kernel
theorem d_S_init_50 : decode b_S_init 50 = .ok (.invokespecial 40, 3) := by decide +kernel
theorem d_S_init_53 : decode b_S_init 53 = .ok (.putfield 41, 3) := by decide +kernel
theorem d_S_init_56 : decode b_S_init 56 = .ok (.return_, 1) := by decide +kernel
theorem d_S_makeEmpty_0 : decode b_S_makeEmpty 0 = .ok (.aload_n 0, 1) := by decide +kernel
theorem d_S_makeEmpty_1 : decode b_S_makeEmpty 1 = .ok (.iconst 0, 1) := by decide +kernel
theorem d_S_makeEmpty_2 : decode b_S_makeEmpty 2 = .ok (.putfield 9, 3) := by decide +kernel
theorem d_S_makeEmpty_5 : decode b_S_makeEmpty 5 = .ok (.aload_n 0, 1) := by decide +kernel
theorem d_S_makeEmpty_6 : decode b_S_makeEmpty 6 = .ok (.lconst 0, 1) := by decide +kernel
theorem d_S_makeEmpty_7 : decode b_S_makeEmpty 7 = .ok (.putfield 15, 3) := by decide +kernel
theorem d_S_makeEmpty_10 : decode b_S_makeEmpty 10 = .ok (.aload_n 0, 1) := by decide +kernel
theorem d_S_makeEmpty_11 : decode b_S_makeEmpty 11 = .ok (.getfield 25, 3) := by decide +kernel
theorem d_S_makeEmpty_14 : decode b_S_makeEmpty 14 = .ok (.invokestatic 45, 3) := by decide +kernel
theorem d_S_makeEmpty_17 : decode b_S_makeEmpty 17 = .ok (.aload_n 0, 1) := by decide +kernel
theorem d_S_makeEmpty_18 : decode b_S_makeEmpty 18 = .ok (.getfield 34, 3) := by decide +kernel
theorem d_S_makeEmpty_21 : decode b_S_makeEmpty 21 = .ok (.getfield 49, 3) := by decide +kernel
theorem d_S_makeEmpty_24 : decode b_S_makeEmpty 24 = .ok (.invokestatic 45, 3) := by decide +kernel
theorem d_S_makeEmpty_27 : decode b_S_makeEmpty 27 = .ok (.aload_n 0, 1) := by decide +kernel
theorem d_S_makeEmpty_28 : decode b_S_makeEmpty 28 = .ok (.getfield 41, 3) := by decide +kernel
theorem d_S_makeEmpty_31 : decode b_S_makeEmpty 31 = .ok (.getfield 52, 3) := by decide +kernel
theorem d_S_makeEmpty_34 : decode b_S_makeEmpty 34 = .ok (.invokestatic 45, 3) := by decide +kernel
theorem d_S_makeEmpty_37 : decode b_S_makeEmpty 37 = .ok (.return_, 1) := by decide +kernel
theorem d_S_setTo_0 : decode b_S_setTo 0 = .ok (.aload_n 0, 1) := by decide +kernel
theorem d_S_setTo_1 : decode b_S_setTo 1 = .ok (.aload_n 1, 1) := by decide +kernel
theorem d_S_setTo_2 : decode b_S_setTo 2 = .ok (.getfield 9, 3) := by decide +kernel
theorem d_S_setTo_5 : decode b_S_setTo 5 = .ok (.putfield 9, 3) := by decide +kernel
theorem d_S_setTo_8 : decode b_S_setTo 8 = .ok (.aload_n 0, 1) := by decide +kernel
theorem d_S_setTo_9 : decode b_S_setTo 9 = .ok (.aload_n 1, 1) := by decide +kernel
theorem d_S_setTo_10 : decode b_S_setTo 10 = .ok (.getfield 15, 3) := by decide +kernel
theorem d_S_setTo_13 : decode b_S_setTo 13 = .ok (.putfield 15, 3) := by decide +kernel
theorem d_S_setTo_16 : decode b_S_setTo 16 = .ok (.aload_n 0, 1) := by decide +kernel
theorem d_S_setTo_17 : decode b_S_setTo 17 = .ok (.aload_n 1, 1) := by decide +kernel
theorem d_S_setTo_18 : decode b_S_setTo 18 = .ok (.getfield 19, 3) := by decide +kernel
theorem d_S_setTo_21 : decode b_S_setTo 21 = .ok (.putfield 19, 3) := by decide +kernel
theorem d_S_setTo_24 : decode b_S_setTo 24 = .ok (.aload_n 0, 1) := by decide +kernel
theorem d_S_setTo_25 : decode b_S_setTo 25 = .ok (.aload_n 1, 1) := by decide +kernel
theorem d_S_setTo_26 : decode b_S_setTo 26 = .ok (.getfield 22, 3) := by decide +kernel
theorem d_S_setTo_29 : decode b_S_setTo 29 = .ok (.putfield 22, 3) := by decide +kernel
theorem d_S_setTo_32 : decode b_S_setTo 32 = .ok (.aload_n 0, 1) := by decide +kernel
theorem d_S_setTo_33 : decode b_S_setTo 33 = .ok (.getfield 25, 3) := by decide +kernel
theorem d_S_setTo_36 : decode b_S_setTo 36 = .ok (.aload_n 1, 1) := by decide +kernel
theorem d_S_setTo_37 : decode b_S_setTo 37 = .ok (.getfield 25, 3) := by decide +kernel
theorem d_S_setTo_40 : decode b_S_setTo 40 = .ok (.invokestatic 53, 3) := by decide +kernel
theorem d_S_setTo_43 : decode b_S_setTo 43 = .ok (.aload_n 0, 1) := by decide +kernel
theorem d_S_setTo_44 : decode b_S_setTo 44 = .ok (.getfield 34, 3) := by decide +kernel
theorem d_S_setTo_47 : decode b_S_setTo 47 = .ok (.getfield 49, 3) := by decide +kernel
theorem d_S_setTo_50 : decode b_S_setTo 50 = .ok (.aload_n 1, 1) := by decide +kernel
theorem d_S_setTo_51 : decode b_S_setTo 51 = .ok (.getfield 34, 3) := by decide +kernel
theorem d_S_setTo_54 : decode b_S_setTo 54 = .ok (.getfield 49, 3) := by decide +kernel
theorem d_S_setTo_57 : decode b_S_setTo 57 = .ok (.invokestatic 53, 3) := by decide +kernel
theorem d_S_setTo_60 : decode b_S_setTo 60 = .ok (.aload_n 0, 1) := by decide +kernel
theorem d_S_setTo_61 : decode b_S_setTo 61 = .ok (.getfield 41, 3) := by decide +kernel
theorem d_S_setTo_64 : decode b_S_setTo 64 = .ok (.getfield 52, 3) := by decide +kernel
theorem d_S_setTo_67 : decode b_S_setTo 67 = .ok (.aload_n 1, 1) := by decide +kernel
theorem d_S_setTo_68 : decode b_S_setTo 68 = .ok (.getfield 41, 3) := by decide +kernel
theorem d_S_setTo_71 : decode b_S_setTo 71 = .ok (.getfield 52, 3) := by decide +kernel
theorem d_S_setTo_74 : decode b_S_setTo 74 = .ok (.invokestatic 53, 3) := by decide +kernel
theorem d_S_setTo_77 : decode b_S_setTo 77 = .ok (.return_, 1) := by decide +kernel
theorem d_S_take_0 : decode b_S_take 0 = .ok (.aload_n 0, 1) := by decide +kernel
theorem d_S_take_1 : decode b_S_take 1 = .ok (.iload_n 1, 1) := by decide +kernel
theorem d_S_take_2 : decode b_S_take 2 = .ok (.iload_n 1, 1) := by decide +kernel
theorem d_S_take_3 : decode b_S_take 3 = .ok (.invokevirtual 57, 3) := by decide +kernel
theorem d_S_take_6 : decode b_S_take 6 = .ok (.aload_n 0, 1) := by decide +kernel
theorem d_S_take_7 : decode b_S_take 7 = .ok (.dup, 1) := by decide +kernel
theorem d_S_take_8 : decode b_S_take 8 = .ok (.getfield 9, 3) := by decide +kernel
theorem d_S_take_11 : decode b_S_take 11 = .ok (.iconst 1, 1) := by decide +kernel
theorem d_S_take_12 : decode b_S_take 12 = .ok (.iadd, 1) := by decide +kernel
theorem d_S_take_13 : decode b_S_take 13 = .ok (.putfield 9, 3) := by decide +kernel
theorem d_S_take_16 : decode b_S_take 16 = .ok (.aload_n 0, 1) := by decide +kernel
theorem d_S_take_17 : decode b_S_take 17 = .ok (.dup, 1) := by decide +kernel
theorem d_S_take_18 : decode b_S_take 18 = .ok (.getfield 15, 3) := by decide +kernel
theorem d_S_take_21 : decode b_S_take 21 = .ok (.iload_n 1, 1) := by decide +kernel
theorem d_S_take_22 : decode b_S_take 22 = .ok (.i2l, 1) := by decide +kernel
theorem d_S_take_23 : decode b_S_take 23 = .ok (.ladd, 1) := by decide +kernel
theorem d_S_take_24 : decode b_S_take 24 = .ok (.putfield 15, 3) := by decide +kernel
theorem d_S_take_27 : decode b_S_take 27 = .ok (.aload_n 0, 1) := by decide +kernel
theorem d_S_take_28 : decode b_S_take 28 = .ok (.getfield 25, 3) := by decide +kernel
theorem d_S_take_31 : decode b_S_take 31 = .ok (.iload_n 2, 1) := by decide +kernel
theorem d_S_take_32 : decode b_S_take 32 = .ok (.dup2, 1) := by decide +kernel
theorem d_S_take_33 : decode b_S_take 33 = .ok (.iaload, 1) := by decide +kernel
theorem d_S_take_34 : decode b_S_take 34 = .ok (.iconst 1, 1) := by decide +kernel
theorem d_S_take_35 : decode b_S_take 35 = .ok (.iadd, 1) := by decide +kernel
theorem d_S_take_36 : decode b_S_take 36 = .ok (.iastore, 1) := by decide +kernel
theorem d_S_take_37 : decode b_S_take 37 = .ok (.aload_n 0, 1) := by decide +kernel
theorem d_S_take_38 : decode b_S_take 38 = .ok (.getfield 34, 3) := by decide +kernel
theorem d_S_take_41 : decode b_S_take 41 = .ok (.iload_n 1, 1) := by decide +kernel
theorem d_S_take_42 : decode b_S_take 42 = .ok (.invokevirtual 61, 3) := by decide +kernel
theorem d_S_take_45 : decode b_S_take 45 = .ok (.aload_n 0, 1) := by decide +kernel
theorem d_S_take_46 : decode b_S_take 46 = .ok (.getfield 41, 3) := by decide +kernel
theorem d_S_take_49 : decode b_S_take 49 = .ok (.iload_n 1, 1) := by decide +kernel
theorem d_S_take_50 : decode b_S_take 50 = .ok (.aload_n 0, 1) := by decide +kernel
theorem d_S_take_51 : decode b_S_take 51 = .ok (.getfield 9, 3) := by decide +kernel
theorem d_S_take_54 : decode b_S_take 54 = .ok (.invokevirtual 64, 3) := by decide +kernel
theorem d_S_take_57 : decode b_S_take 57 = .ok (.return_, 1) := by decide +kernel
theorem d_S_merge_0 : decode b_S_merge 0 = .ok (.aload_n 0, 1) := by decide +kernel
theorem d_S_merge_1 : decode b_S_merge 1 = .ok (.aload_n 1, 1) := by decide +kernel
theorem d_S_merge_2 : decode b_S_merge 2 = .ok (.getfield 19, 3) := by decide +kernel
theorem d_S_merge_5 : decode b_S_merge 5 = .ok (.aload_n 1, 1) := by decide +kernel
theorem d_S_merge_6 : decode b_S_merge 6 = .ok (.getfield 22, 3) := by decide +kernel
theorem d_S_merge_9 : decode b_S_merge 9 = .ok (.invokevirtual 57, 3) := by decide +kernel
theorem d_S_merge_12 : decode b_S_merge 12 = .ok (.aload_n 0, 1) := by decide +kernel
theorem d_S_merge_13 : decode b_S_merge 13 = .ok (.dup, 1) := by decide +kernel
theorem d_S_merge_14 : decode b_S_merge 14 = .ok (.getfield 9, 3) := by decide +kernel
theorem d_S_merge_17 : decode b_S_merge 17 = .ok (.aload_n 1, 1) := by decide +kernel
theorem d_S_merge_18 : decode b_S_merge 18 = .ok (.getfield 9, 3) := by decide +kernel
theorem d_S_merge_21 : decode b_S_merge 21 = .ok (.iadd, 1) := by decide +kernel
theorem d_S_merge_22 : decode b_S_merge 22 = .ok (.putfield 9, 3) := by decide +kernel
theorem d_S_merge_25 : decode b_S_merge 25 = .ok (.aload_n 0, 1) := by decide +kernel
theorem d_S_merge_26 : decode b_S_merge 26 = .ok (.dup, 1) := by decide +kernel
theorem d_S_merge_27 : decode b_S_merge 27 = .ok (.getfield 15, 3) := by decide +kernel
theorem d_S_merge_30 : decode b_S_merge 30 = .ok (.aload_n 1, 1) := by decide +kernel
theorem d_S_merge_31 : decode b_S_merge 31 = .ok (.getfield 15, 3) := by decide +kernel
theorem d_S_merge_34 : decode b_S_merge 34 = .ok (.ladd, 1) := by decide +kernel
theorem d_S_merge_35 : decode b_S_merge 35 = .ok (.putfield 15, 3) := by decide +kernel
theorem d_S_merge_38 : decode b_S_merge 38 = .ok (.aload_n 0, 1) := by decide +kernel
theorem d_S_merge_39 : decode b_S_merge 39 = .ok (.getfield 25, 3) := by decide +kernel
theorem d_S_merge_42 : decode b_S_merge 42 = .ok (.aload_n 1, 1) := by decide +kernel
theorem d_S_merge_43 : decode b_S_merge 43 = .ok (.getfield 25, 3) := by decide +kernel
theorem d_S_merge_46 : decode b_S_merge 46 = .ok (.invokestatic 66, 3) := by decide +kernel
theorem d_S_merge_49 : decode b_S_merge 49 = .ok (.aload_n 0, 1) := by decide +kernel
theorem d_S_merge_50 : decode b_S_merge 50 = .ok (.getfield 34, 3) := by decide +kernel
theorem d_S_merge_53 : decode b_S_merge 53 = .ok (.aload_n 1, 1) := by decide +kernel
theorem d_S_merge_54 : decode b_S_merge 54 = .ok (.getfield 34, 3) := by decide +kernel
theorem d_S_merge_57 : decode b_S_merge 57 = .ok (.invokevirtual 69, 3) := by decide +kernel
theorem d_S_merge_60 : decode b_S_merge 60 = .ok (.aload_n 0, 1) := by decide +kernel
theorem d_S_merge_61 : decode b_S_merge 61 = .ok (.getfield 41, 3) := by decide +kernel
theorem d_S_merge_64 : decode b_S_merge 64 = .ok (.aload_n 1, 1) := by decide +kernel
theorem d_S_merge_65 : decode b_S_merge 65 = .ok (.getfield 41, 3) := by decide +kernel
theorem d_S_merge_68 : decode b_S_merge 68 = .ok (.aload_n 0, 1) := by decide +kernel
theorem d_S_merge_69 : decode b_S_merge 69 = .ok (.getfield 9, 3) := by decide +kernel
theorem d_S_merge_72 : decode b_S_merge 72 = .ok (.invokevirtual 73, 3) := by decide +kernel
theorem d_S_merge_75 : decode b_S_merge 75 = .ok (.return_, 1) := by decide +kernel
theorem d_S_widen_0 : decode b_S_widen 0 = .ok (.aload_n 0, 1) := by decide +kernel
theorem d_S_widen_1 : decode b_S_widen 1 = .ok (.aload_n 0, 1) := by decide +kernel
theorem d_S_widen_2 : decode b_S_widen 2 = .ok (.getfield 9, 3) := by decide +kernel
theorem d_S_widen_5 : decode b_S_widen 5 = .ok (.ifCond .ne 7, 3) := by decide +kernel
theorem d_S_widen_8 : decode b_S_widen 8 = .ok (.iload_n 1, 1) := by decide +kernel
theorem d_S_widen_9 : decode b_S_widen 9 = .ok (.goto 11, 3) := by decide +kernel
theorem d_S_widen_12 : decode b_S_widen 12 = .ok (.aload_n 0, 1) := by decide +kernel
theorem d_S_widen_13 : decode b_S_widen 13 = .ok (.getfield 19, 3) := by decide +kernel
theorem d_S_widen_16 : decode b_S_widen 16 = .ok (.iload_n 1, 1) := by decide +kernel
theorem d_S_widen_17 : decode b_S_widen 17 = .ok (.invokestatic 76, 3) := by decide +kernel
theorem d_S_widen_20 : decode b_S_widen 20 = .ok (.putfield 19, 3) := by decide +kernel
theorem d_S_widen_23 : decode b_S_widen 23 = .ok (.aload_n 0, 1) := by decide +kernel
theorem d_S_widen_24 : decode b_S_widen 24 = .ok (.aload_n 0, 1) := by decide +kernel
theorem d_S_widen_25 : decode b_S_widen 25 = .ok (.getfield 9, 3) := by decide +kernel
theorem d_S_widen_28 : decode b_S_widen 28 = .ok (.ifCond .ne 7, 3) := by decide +kernel
theorem d_S_widen_31 : decode b_S_widen 31 = .ok (.iload_n 2, 1) := by decide +kernel
theorem d_S_widen_32 : decode b_S_widen 32 = .ok (.goto 11, 3) := by decide +kernel
theorem d_S_widen_35 : decode b_S_widen 35 = .ok (.aload_n 0, 1) := by decide +kernel
theorem d_S_widen_36 : decode b_S_widen 36 = .ok (.getfield 22, 3) := by decide +kernel
theorem d_S_widen_39 : decode b_S_widen 39 = .ok (.iload_n 2, 1) := by decide +kernel
theorem d_S_widen_40 : decode b_S_widen 40 = .ok (.invokestatic 82, 3) := by decide +kernel
theorem d_S_widen_43 : decode b_S_widen 43 = .ok (.putfield 22, 3) := by decide +kernel
theorem d_S_widen_46 : decode b_S_widen 46 = .ok (.return_, 1) := by decide +kernel
