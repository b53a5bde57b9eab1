theorem d_T_init_0 : decode b_T_init 0 = .ok (.aload_n 0, 1) := by decide +kernel
theorem d_T_init_1 : decode b_T_init 1 = .ok (.invokespecial 1, 3) := by decide +kernel
theorem d_T_init_4 : decode b_T_init 4 = .ok (.aload_n 0, 1) := by decide +kernel
theorem d_T_init_5 : decode b_T_init 5 = .ok (.bipush 12, 2) := by decide +kernel
theorem d_T_init_7 : decode b_T_init 7 = .ok (.anewarray 9, 3) := by decide +kernel
theorem d_T_init_10 : decode b_T_init 10 = .ok (.putfield 11, 3) := by decide +kernel
theorem d_T_init_13 : decode b_T_init 13 = .ok (.aload_n 0, 1) := by decide +kernel
theorem d_T_init_14 : decode b_T_init 14 = .ok (.iconst 1, 1) := by decide +kernel
theorem d_T_init_15 : decode b_T_init 15 = .ok (.putfield 15, 3) := by decide +kernel
theorem d_T_init_18 : decode b_T_init 18 = .ok (.aload_n 0, 1) := by decide +kernel
theorem d_T_init_19 : decode b_T_init 19 = .ok (.bipush 12, 2) := by decide +kernel
theorem d_T_init_21 : decode b_T_init 21 = .ok (.anewarray 19, 3) := by decide +kernel
theorem d_T_init_24 : decode b_T_init 24 = .ok (.putfield 21, 3) := by decide +kernel
theorem d_T_init_27 : decode b_T_init 27 = .ok (.aload_n 0, 1) := by decide +kernel
theorem d_T_init_28 : decode b_T_init 28 = .ok (.iconst 0, 1) := by decide +kernel
theorem d_T_init_29 : decode b_T_init 29 = .ok (.putfield 25, 3) := by decide +kernel
theorem d_T_init_32 : decode b_T_init 32 = .ok (.iconst 1, 1) := by decide +kernel
theorem d_T_init_33 : decode b_T_init 33 = .ok (.bipush 6, 2) := by decide +kernel
theorem d_T_init_35 : decode b_T_init 35 = .ok (.iload_n 1, 1) := by decide +kernel
theorem d_T_init_36 : decode b_T_init 36 = .ok (.invokestatic 28, 3) := by decide +kernel
theorem d_T_init_39 : decode b_T_init 39 = .ok (.invokestatic 34, 3) := by decide +kernel
theorem d_T_init_42 : decode b_T_init 42 = .ok (.istore_n 3, 1) := by decide +kernel
theorem d_T_init_43 : decode b_T_init 43 = .ok (.iconst 2, 1) := by decide +kernel
theorem d_T_init_44 : decode b_T_init 44 = .ok (.bipush 16, 2) := by decide +kernel
theorem d_T_init_46 : decode b_T_init 46 = .ok (.iload_n 2, 1) := by decide +kernel
theorem d_T_init_47 : decode b_T_init 47 = .ok (.invokestatic 28, 3) := by decide +kernel
theorem d_T_init_50 : decode b_T_init 50 = .ok (.invokestatic 34, 3) := by decide +kernel
theorem d_T_init_53 : decode b_T_init 53 = .ok (.istore 4, 2) := by decide +kernel
theorem d_T_init_55 : decode b_T_init 55 = .ok (.iconst 0, 1) := by decide +kernel
theorem d_T_init_56 : decode b_T_init 56 = .ok (.istore 5, 2) := by decide +kernel
theorem d_T_init_58 : decode b_T_init 58 = .ok (.iload 5, 2) := by decide +kernel
theorem d_T_init_60 : decode b_T_init 60 = .ok (.bipush 12, 2) := by decide +kernel
theorem d_T_init_62 : decode b_T_init 62 = .ok (.if_icmp .ge 28, 3) := by decide +kernel
theorem d_T_init_65 : decode b_T_init 65 = .ok (.aload_n 0, 1) := by decide +kernel
theorem d_T_init_66 : decode b_T_init 66 = .ok (.getfield 11, 3) := by decide +kernel
theorem d_T_init_69 : decode b_T_init 69 = .ok (.iload 5, 2) := by decide +kernel
theorem d_T_init_71 : decode b_T_init 71 = .ok (.new 9, 3) := by decide +kernel
theorem d_T_init_74 : decode b_T_init 74 = .ok (.dup, 1) := by decide +kernel
theorem d_T_init_75 : decode b_T_init 75 = .ok (.iload 5, 2) := by decide +kernel
theorem d_T_init_77 : decode b_T_init 77 = .ok (.iload_n 3, 1) := by decide +kernel
theorem d_T_init_78 : decode b_T_init 78 = .ok (.iload 4, 2) := by decide +kernel
theorem d_T_init_80 : decode b_T_init 80 = .ok (.invokespecial 37, 3) := by decide +kernel
theorem d_T_init_83 : decode b_T_init 83 = .ok (.aastore, 1) := by decide +kernel
theorem d_T_init_84 : decode b_T_init 84 = .ok (.iinc 5 1, 3) := by decide +kernel
theorem d_T_init_87 : decode b_T_init 87 = .ok (.goto (-29), 3) := by decide +kernel
theorem d_T_init_90 : decode b_T_init 90 = .ok (.iconst 0, 1) := by decide +kernel
theorem d_T_init_91 : decode b_T_init 91 = .ok (.istore 5, 2) := by decide +kernel
theorem d_T_init_93 : decode b_T_init 93 = .ok (.iload 5, 2) := by decide +kernel
theorem d_T_init_95 : decode b_T_init 95 = .ok (.bipush 12, 2) := by decide +kernel
theorem d_T_init_97 : decode b_T_init 97 = .ok (.if_icmp .ge 26, 3) := by decide +kernel
theorem d_T_init_100 : decode b_T_init 100 = .ok (.aload_n 0, 1) := by decide +kernel
theorem d_T_init_101 : decode b_T_init 101 = .ok (.getfield 21, 3) := by decide +kernel
theorem d_T_init_104 : decode b_T_init 104 = .ok (.iload 5, 2) := by decide +kernel
theorem d_T_init_106 : decode b_T_init 106 = .ok (.new 19, 3) := by decide +kernel
theorem d_T_init_109 : decode b_T_init 109 = .ok (.dup, 1) := by decide +kernel
theorem d_T_init_110 : decode b_T_init 110 = .ok (.iload_n 3, 1) := by decide +kernel
theorem d_T_init_111 : decode b_T_init 111 = .ok (.iload 4, 2) := by decide +kernel
theorem d_T_init_113 : decode b_T_init 113 = .ok (.invokespecial 40, 3) := by decide +kernel
theorem d_T_init_116 : decode b_T_init 116 = .ok (.aastore, 1) := by decide +kernel
theorem d_T_init_117 : decode b_T_init 117 = .ok (.iinc 5 1, 3) := by decide +kernel
theorem d_T_init_120 : decode b_T_init 120 = .ok (.goto (-27), 3) := by decide +kernel
theorem d_T_init_123 : decode b_T_init 123 = .ok (.return_, 1) := by decide +kernel
theorem d_T_attach_0 : decode b_T_attach 0 = .ok (.aload_n 0, 1) := by decide +kernel
theorem d_T_attach_1 : decode b_T_attach 1 = .ok (.iload_n 1, 1) := by decide +kernel
theorem d_T_attach_2 : decode b_T_attach 2 = .ok (.invokevirtual 43, 3) := by decide +kernel
theorem d_T_attach_5 : decode b_T_attach 5 = .ok (.ifCond .eq 24, 3) := by decide +kernel
theorem d_T_attach_8 : decode b_T_attach 8 = .ok (.aload_n 0, 1) := by decide +kernel
theorem d_T_attach_9 : decode b_T_attach 9 = .ok (.getfield 11, 3) := by decide +kernel
theorem d_T_attach_12 : decode b_T_attach 12 = .ok (.iload_n 1, 1) := by decide +kernel
theorem d_T_attach_13 : decode b_T_attach 13 = .ok (.aaload, 1) := by decide +kernel
theorem d_T_attach_14 : decode b_T_attach 14 = .ok (.getfield 47, 3) := by decide +kernel
theorem d_T_attach_17 : decode b_T_attach 17 = .ok (.ifCond .ne 12, 3) := by decide +kernel
theorem d_T_attach_20 : decode b_T_attach 20 = .ok (.aload_n 0, 1) := by decide +kernel
theorem d_T_attach_21 : decode b_T_attach 21 = .ok (.getfield 15, 3) := by decide +kernel
theorem d_T_attach_24 : decode b_T_attach 24 = .ok (.bipush 12, 2) := by decide +kernel
theorem d_T_attach_26 : decode b_T_attach 26 = .ok (.if_icmp .lt 5, 3) := by decide +kernel
theorem d_T_attach_29 : decode b_T_attach 29 = .ok (.iconst (-1), 1) := by decide +kernel
theorem d_T_attach_30 : decode b_T_attach 30 = .ok (.ireturn, 1) := by decide +kernel
theorem d_T_attach_31 : decode b_T_attach 31 = .ok (.aload_n 0, 1) := by decide +kernel
theorem d_T_attach_32 : decode b_T_attach 32 = .ok (.getfield 15, 3) := by decide +kernel
theorem d_T_attach_35 : decode b_T_attach 35 = .ok (.istore_n 3, 1) := by decide +kernel
theorem d_T_attach_36 : decode b_T_attach 36 = .ok (.aload_n 0, 1) := by decide +kernel
theorem d_T_attach_37 : decode b_T_attach 37 = .ok (.getfield 11, 3) := by decide +kernel
theorem d_T_attach_40 : decode b_T_attach 40 = .ok (.iload_n 3, 1) := by decide +kernel
theorem d_T_attach_41 : decode b_T_attach 41 = .ok (.aaload, 1) := by decide +kernel
theorem d_T_attach_42 : decode b_T_attach 42 = .ok (.iload_n 1, 1) := by decide +kernel
theorem d_T_attach_43 : decode b_T_attach 43 = .ok (.putfield 51, 3) := by decide +kernel
theorem d_T_attach_46 : decode b_T_attach 46 = .ok (.aload_n 0, 1) := by decide +kernel
theorem d_T_attach_47 : decode b_T_attach 47 = .ok (.getfield 11, 3) := by decide +kernel
theorem d_T_attach_50 : decode b_T_attach 50 = .ok (.iload_n 3, 1) := by decide +kernel
theorem d_T_attach_51 : decode b_T_attach 51 = .ok (.aaload, 1) := by decide +kernel
theorem d_T_attach_52 : decode b_T_attach 52 = .ok (.iload_n 2, 1) := by decide +kernel
theorem d_T_attach_53 : decode b_T_attach 53 = .ok (.putfield 47, 3) := by decide +kernel
theorem d_T_attach_56 : decode b_T_attach 56 = .ok (.aload_n 0, 1) := by decide +kernel
theorem d_T_attach_57 : decode b_T_attach 57 = .ok (.dup, 1) := by decide +kernel
theorem d_T_attach_58 : decode b_T_attach 58 = .ok (.getfield 15, 3) := by decide +kernel
theorem d_T_attach_61 : decode b_T_attach 61 = .ok (.iconst 1, 1) := by decide +kernel
theorem d_T_attach_62 : decode b_T_attach 62 = .ok (.iadd, 1) := by decide +kernel
theorem d_T_attach_63 : decode b_T_attach 63 = .ok (.putfield 15, 3) := by decide +kernel
theorem d_T_attach_66 : decode b_T_attach 66 = .ok (.iload_n 3, 1) := by decide +kernel
theorem d_T_attach_67 : decode b_T_attach 67 = .ok (.ireturn, 1) := by decide +kernel
theorem d_T_add_0 : decode b_T_add 0 = .ok (.aload_n 0, 1) := by decide +kernel
theorem d_T_add_1 : decode b_T_add 1 = .ok (.iload_n 1, 1) := by decide +kernel
theorem d_T_add_2 : decode b_T_add 2 = .ok (.invokevirtual 54, 3) := by decide +kernel
theorem d_T_add_5 : decode b_T_add 5 = .ok (.ifCond .eq 24, 3) := by decide +kernel
theorem d_T_add_8 : decode b_T_add 8 = .ok (.iload_n 2, 1) := by decide +kernel
theorem d_T_add_9 : decode b_T_add 9 = .ok (.invokestatic 57, 3) := by decide +kernel
theorem d_T_add_12 : decode b_T_add 12 = .ok (.ifCond .eq 17, 3) := by decide +kernel
theorem d_T_add_15 : decode b_T_add 15 = .ok (.aload_n 0, 1) := by decide +kernel
theorem d_T_add_16 : decode b_T_add 16 = .ok (.getfield 11, 3) := by decide +kernel
theorem d_T_add_19 : decode b_T_add 19 = .ok (.iload_n 1, 1) := by decide +kernel
theorem d_T_add_20 : decode b_T_add 20 = .ok (.aaload, 1) := by decide +kernel
theorem d_T_add_21 : decode b_T_add 21 = .ok (.invokevirtual 60, 3) := by decide +kernel
theorem d_T_add_24 : decode b_T_add 24 = .ok (.bipush 48, 2) := by decide +kernel
theorem d_T_add_26 : decode b_T_add 26 = .ok (.if_icmp .lt 5, 3) := by decide +kernel
theorem d_T_add_29 : decode b_T_add 29 = .ok (.iconst 0, 1) := by decide +kernel
theorem d_T_add_30 : decode b_T_add 30 = .ok (.ireturn, 1) := by decide +kernel
theorem d_T_add_31 : decode b_T_add 31 = .ok (.aload_n 0, 1) := by decide +kernel
theorem d_T_add_32 : decode b_T_add 32 = .ok (.getfield 11, 3) := by decide +kernel
theorem d_T_add_35 : decode b_T_add 35 = .ok (.iload_n 1, 1) := by decide +kernel
theorem d_T_add_36 : decode b_T_add 36 = .ok (.aaload, 1) := by decide +kernel
theorem d_T_add_37 : decode b_T_add 37 = .ok (.iload_n 2, 1) := by decide +kernel
theorem d_T_add_38 : decode b_T_add 38 = .ok (.invokevirtual 64, 3) := by decide +kernel
theorem d_T_add_41 : decode b_T_add 41 = .ok (.iconst 1, 1) := by decide +kernel
theorem d_T_add_42 : decode b_T_add 42 = .ok (.ireturn, 1) := by decide +kernel
theorem d_T_flush_0 : decode b_T_flush 0 = .ok (.aload_n 0, 1) := by decide +kernel
theorem d_T_flush_1 : decode b_T_flush 1 = .ok (.iload_n 1, 1) := by decide +kernel
theorem d_T_flush_2 : decode b_T_flush 2 = .ok (.invokevirtual 54, 3) := by decide +kernel
theorem d_T_flush_5 : decode b_T_flush 5 = .ok (.ifCond .eq 15, 3) := by decide +kernel
theorem d_T_flush_8 : decode b_T_flush 8 = .ok (.aload_n 0, 1) := by decide +kernel
theorem d_T_flush_9 : decode b_T_flush 9 = .ok (.getfield 11, 3) := by decide +kernel
theorem d_T_flush_12 : decode b_T_flush 12 = .ok (.iload_n 1, 1) := by decide +kernel
theorem d_T_flush_13 : decode b_T_flush 13 = .ok (.aaload, 1) := by decide +kernel
theorem d_T_flush_14 : decode b_T_flush 14 = .ok (.invokevirtual 68, 3) := by decide +kernel
theorem d_T_flush_17 : decode b_T_flush 17 = .ok (.goto 4, 3) := by decide +kernel
theorem d_T_flush_20 : decode b_T_flush 20 = .ok (.iconst (-1), 1) := by decide +kernel
theorem d_T_flush_21 : decode b_T_flush 21 = .ok (.ireturn, 1) := by decide +kernel
theorem d_T_crash_0 : decode b_T_crash 0 = .ok (.aload_n 0, 1) := by decide +kernel
theorem d_T_crash_1 : decode b_T_crash 1 = .ok (.iload_n 1, 1) := by decide +kernel
theorem d_T_crash_2 : decode b_T_crash 2 = .ok (.invokevirtual 43, 3) := by decide +kernel
theorem d_T_crash_5 : decode b_T_crash 5 = .ok (.ifCond .ne 5, 3) := by decide +kernel
theorem d_T_crash_8 : decode b_T_crash 8 = .ok (.iconst 0, 1) := by decide +kernel
theorem d_T_crash_9 : decode b_T_crash 9 = .ok (.ireturn, 1) := by decide +kernel
theorem d_T_crash_10 : decode b_T_crash 10 = .ok (.aload_n 0, 1) := by decide +kernel
theorem d_T_crash_11 : decode b_T_crash 11 = .ok (.getfield 11, 3) := by decide +kernel
theorem d_T_crash_14 : decode b_T_crash 14 = .ok (.iload_n 1, 1) := by decide +kernel
theorem d_T_crash_15 : decode b_T_crash 15 = .ok (.aaload, 1) := by decide +kernel
theorem d_T_crash_16 : decode b_T_crash 16 = .ok (.getfield 47, 3) := by decide +kernel
theorem d_T_crash_19 : decode b_T_crash 19 = .ok (.ifCond .eq 16, 3) := by decide +kernel
theorem d_T_crash_22 : decode b_T_crash 22 = .ok (.aload_n 0, 1) := by decide +kernel
theorem d_T_crash_23 : decode b_T_crash 23 = .ok (.getfield 11, 3) := by decide +kernel
theorem d_T_crash_26 : decode b_T_crash 26 = .ok (.iload_n 1, 1) := by decide +kernel
theorem d_T_crash_27 : decode b_T_crash 27 = .ok (.aaload, 1) := by decide +kernel
theorem d_T_crash_28 : decode b_T_crash 28 = .ok (.iconst 0, 1) := by decide +kernel
theorem d_T_crash_29 : decode b_T_crash 29 = .ok (.putfield 71, 3) := by decide +kernel
theorem d_T_crash_32 : decode b_T_crash 32 = .ok (.goto 13, 3) := by decide +kernel
theorem d_T_crash_35 : decode b_T_crash 35 = .ok (.aload_n 0, 1) := by decide +kernel
theorem d_T_crash_36 : decode b_T_crash 36 = .ok (.iload_n 1, 1) := by decide +kernel
theorem d_T_crash_37 : decode b_T_crash 37 = .ok (.invokevirtual 74, 3) := by decide +kernel
theorem d_T_crash_40 : decode b_T_crash 40 = .ok (.aload_n 0, 1) := by decide +kernel
theorem d_T_crash_41 : decode b_T_crash 41 = .ok (.iload_n 1, 1) := by decide +kernel
theorem d_T_crash_42 : decode b_T_crash 42 = .ok (.invokevirtual 77, 3) := by decide +kernel
theorem d_T_crash_45 : decode b_T_crash 45 = .ok (.iconst 1, 1) := by decide +kernel
theorem d_T_crash_46 : decode b_T_crash 46 = .ok (.ireturn, 1) := by decide +kernel
theorem d_T_report_0 : decode b_T_report 0 = .ok (.aload_n 0, 1) := by decide +kernel
theorem d_T_report_1 : decode b_T_report 1 = .ok (.invokevirtual 80, 3) := by decide +kernel
theorem d_T_report_4 : decode b_T_report 4 = .ok (.istore_n 2, 1) := by decide +kernel
theorem d_T_report_5 : decode b_T_report 5 = .ok (.aload_n 0, 1) := by decide +kernel
theorem d_T_report_6 : decode b_T_report 6 = .ok (.iload_n 1, 1) := by decide +kernel
theorem d_T_report_7 : decode b_T_report 7 = .ok (.invokevirtual 43, 3) := by decide +kernel
theorem d_T_report_10 : decode b_T_report 10 = .ok (.ifCond .eq 20, 3) := by decide +kernel
theorem d_T_report_13 : decode b_T_report 13 = .ok (.aload_n 0, 1) := by decide +kernel
theorem d_T_report_14 : decode b_T_report 14 = .ok (.getfield 11, 3) := by decide +kernel
theorem d_T_report_17 : decode b_T_report 17 = .ok (.iload_n 1, 1) := by decide +kernel
theorem d_T_report_18 : decode b_T_report 18 = .ok (.aaload, 1) := by decide +kernel
theorem d_T_report_19 : decode b_T_report 19 = .ok (.getfield 51, 3) := by decide +kernel
theorem d_T_report_22 : decode b_T_report 22 = .ok (.iconst (-1), 1) := by decide +kernel
theorem d_T_report_23 : decode b_T_report 23 = .ok (.if_icmp .eq 7, 3) := by decide +kernel
theorem d_T_report_26 : decode b_T_report 26 = .ok (.iload_n 2, 1) := by decide +kernel
theorem d_T_report_27 : decode b_T_report 27 = .ok (.ifCond .ge 5, 3) := by decide +kernel
theorem d_T_report_30 : decode b_T_report 30 = .ok (.iconst (-1), 1) := by decide +kernel
theorem d_T_report_31 : decode b_T_report 31 = .ok (.ireturn, 1) := by decide +kernel
theorem d_T_report_32 : decode b_T_report 32 = .ok (.aload_n 0, 1) := by decide +kernel
theorem d_T_report_33 : decode b_T_report 33 = .ok (.getfield 11, 3) := by decide +kernel
theorem d_T_report_36 : decode b_T_report 36 = .ok (.iload_n 1, 1) := by decide +kernel
theorem d_T_report_37 : decode b_T_report 37 = .ok (.aaload, 1) := by decide +kernel
theorem d_T_report_38 : decode b_T_report 38 = .ok (.dup, 1) := by decide +kernel
theorem d_T_report_39 : decode b_T_report 39 = .ok (.getfield 83, 3) := by decide +kernel
theorem d_T_report_42 : decode b_T_report 42 = .ok (.iconst 1, 1) := by decide +kernel
theorem d_T_report_43 : decode b_T_report 43 = .ok (.iadd, 1) := by decide +kernel
theorem d_T_report_44 : decode b_T_report 44 = .ok (.putfield 83, 3) := by decide +kernel
theorem d_T_report_47 : decode b_T_report 47 = .ok (.aload_n 0, 1) := by decide +kernel
theorem d_T_report_48 : decode b_T_report 48 = .ok (.dup, 1) := by decide +kernel
theorem d_T_report_49 : decode b_T_report 49 = .ok (.getfield 25, 3) := by decide +kernel
theorem d_T_report_52 : decode b_T_report 52 = .ok (.iconst 1, 1) := by decide +kernel
theorem d_T_report_53 : decode b_T_report 53 = .ok (.iadd, 1) := by decide +kernel
theorem d_T_report_54 : decode b_T_report 54 = .ok (.putfield 25, 3) := by decide +kernel
theorem d_T_report_57 : decode b_T_report 57 = .ok (.aload_n 0, 1) := by decide +kernel
theorem d_T_report_58 : decode b_T_report 58 = .ok (.getfield 21, 3) := by decide +kernel
theorem d_T_report_61 : decode b_T_report 61 = .ok (.iload_n 2, 1) := by decide +kernel
theorem d_T_report_62 : decode b_T_report 62 = .ok (.aaload, 1) := by decide +kernel
theorem d_T_report_63 : decode b_T_report 63 = .ok (.aload_n 0, 1) := by decide +kernel
theorem d_T_report_64 : decode b_T_report 64 = .ok (.getfield 25, 3) := by decide +kernel
theorem d_T_report_67 : decode b_T_report 67 = .ok (.iload_n 1, 1) := by decide +kernel
theorem d_T_report_68 : decode b_T_report 68 = .ok (.aload_n 0, 1) := by decide +kernel
theorem d_T_report_69 : decode b_T_report 69 = .ok (.getfield 11, 3) := by decide +kernel
theorem d_T_report_72 : decode b_T_report 72 = .ok (.iload_n 1, 1) := by decide +kernel
theorem d_T_report_73 : decode b_T_report 73 = .ok (.aaload, 1) := by decide +kernel
theorem d_T_report_74 : decode b_T_report 74 = .ok (.getfield 83, 3) := by decide +kernel
theorem d_T_report_77 : decode b_T_report 77 = .ok (.aload_n 0, 1) := by decide +kernel
theorem d_T_report_78 : decode b_T_report 78 = .ok (.getfield 11, 3) := by decide +kernel
theorem d_T_report_81 : decode b_T_report 81 = .ok (.iload_n 1, 1) := by decide +kernel
theorem d_T_report_82 : decode b_T_report 82 = .ok (.aaload, 1) := by decide +kernel
theorem d_T_report_83 : decode b_T_report 83 = .ok (.getfield 86, 3) := by decide +kernel
theorem d_T_report_86 : decode b_T_report 86 = .ok (.invokevirtual 90, 3) := by decide +kernel
theorem d_T_report_89 : decode b_T_report 89 = .ok (.aload_n 0, 1) := by decide +kernel
theorem d_T_report_90 : decode b_T_report 90 = .ok (.getfield 25, 3) := by decide +kernel
theorem d_T_report_93 : decode b_T_report 93 = .ok (.ireturn, 1) := by decide +kernel
theorem d_T_copy_0 : decode b_T_copy 0 = .ok (.aload_n 0, 1) := by decide +kernel
theorem d_T_copy_1 : decode b_T_copy 1 = .ok (.iload_n 1, 1) := by decide +kernel
theorem d_T_copy_2 : decode b_T_copy 2 = .ok (.invokevirtual 94, 3) := by decide +kernel
theorem d_T_copy_5 : decode b_T_copy 5 = .ok (.istore_n 2, 1) := by decide +kernel
theorem d_T_copy_6 : decode b_T_copy 6 = .ok (.aload_n 0, 1) := by decide +kernel
theorem d_T_copy_7 : decode b_T_copy 7 = .ok (.invokevirtual 80, 3) := by decide +kernel
theorem d_T_copy_10 : decode b_T_copy 10 = .ok (.istore_n 3, 1) := by decide +kernel
theorem d_T_copy_11 : decode b_T_copy 11 = .ok (.iload_n 2, 1) := by decide +kernel
theorem d_T_copy_12 : decode b_T_copy 12 = .ok (.ifCond .lt 7, 3) := by decide +kernel
theorem d_T_copy_15 : decode b_T_copy 15 = .ok (.iload_n 3, 1) := by decide +kernel
theorem d_T_copy_16 : decode b_T_copy 16 = .ok (.ifCond .ge 5, 3) := by decide +kernel
theorem d_T_copy_19 : decode b_T_copy 19 = .ok (.iconst (-1), 1) := by decide +kernel
theorem d_T_copy_20 : decode b_T_copy 20 = .ok (.ireturn, 1) := by decide +kernel
theorem d_T_copy_21 : decode b_T_copy 21 = .ok (.aload_n 0, 1) := by decide +kernel
theorem d_T_copy_22 : decode b_T_copy 22 = .ok (.getfield 21, 3) := by decide +kernel
theorem d_T_copy_25 : decode b_T_copy 25 = .ok (.iload_n 2, 1) := by decide +kernel
theorem d_T_copy_26 : decode b_T_copy 26 = .ok (.aaload, 1) := by decide +kernel
theorem d_T_copy_27 : decode b_T_copy 27 = .ok (.astore 4, 2) := by decide +kernel
theorem d_T_copy_29 : decode b_T_copy 29 = .ok (.aload_n 0, 1) := by decide +kernel
theorem d_T_copy_30 : decode b_T_copy 30 = .ok (.dup, 1) := by decide +kernel
theorem d_T_copy_31 : decode b_T_copy 31 = .ok (.getfield 25, 3) := by decide +kernel
theorem d_T_copy_34 : decode b_T_copy 34 = .ok (.iconst 1, 1) := by decide +kernel
theorem d_T_copy_35 : decode b_T_copy 35 = .ok (.iadd, 1) := by decide +kernel
theorem d_T_copy_36 : decode b_T_copy 36 = .ok (.putfield 25, 3) := by decide +kernel
theorem d_T_copy_39 : decode b_T_copy 39 = .ok (.aload_n 0, 1) := by decide +kernel
theorem d_T_copy_40 : decode b_T_copy 40 = .ok (.getfield 21, 3) := by decide +kernel
theorem d_T_copy_43 : decode b_T_copy 43 = .ok (.iload_n 3, 1) := by decide +kernel
theorem d_T_copy_44 : decode b_T_copy 44 = .ok (.aaload, 1) := by decide +kernel
theorem d_T_copy_45 : decode b_T_copy 45 = .ok (.aload_n 0, 1) := by decide +kernel
theorem d_T_copy_46 : decode b_T_copy 46 = .ok (.getfield 25, 3) := by decide +kernel
theorem d_T_copy_49 : decode b_T_copy 49 = .ok (.aload 4, 2) := by decide +kernel
theorem d_T_copy_51 : decode b_T_copy 51 = .ok (.getfield 98, 3) := by decide +kernel
theorem d_T_copy_54 : decode b_T_copy 54 = .ok (.aload 4, 2) := by decide +kernel
theorem d_T_copy_56 : decode b_T_copy 56 = .ok (.getfield 101, 3) := by decide +kernel
theorem d_T_copy_59 : decode b_T_copy 59 = .ok (.aload 4, 2) := by decide +kernel
theorem d_T_copy_61 : decode b_T_copy 61 = .ok (.getfield 104, 3) := by decide +kernel
theorem d_T_copy_64 : decode b_T_copy 64 = .ok (.invokevirtual 90, 3) := by decide +kernel
theorem d_T_copy_67 : decode b_T_copy 67 = .ok (.aload_n 0, 1) := by decide +kernel
theorem d_T_copy_68 : decode b_T_copy 68 = .ok (.getfield 25, 3) := by decide +kernel
theorem d_T_copy_71 : decode b_T_copy 71 = .ok (.ireturn, 1) := by decide +kernel
theorem d_T_drop_0 : decode b_T_drop 0 = .ok (.aload_n 0, 1) := by decide +kernel
theorem d_T_drop_1 : decode b_T_drop 1 = .ok (.iload_n 1, 1) := by decide +kernel
theorem d_T_drop_2 : decode b_T_drop 2 = .ok (.invokevirtual 94, 3) := by decide +kernel
theorem d_T_drop_5 : decode b_T_drop 5 = .ok (.istore_n 2, 1) := by decide +kernel
theorem d_T_drop_6 : decode b_T_drop 6 = .ok (.iload_n 2, 1) := by decide +kernel
theorem d_T_drop_7 : decode b_T_drop 7 = .ok (.ifCond .ge 5, 3) := by decide +kernel
theorem d_T_drop_10 : decode b_T_drop 10 = .ok (.iconst 0, 1) := by decide +kernel
theorem d_T_drop_11 : decode b_T_drop 11 = .ok (.ireturn, 1) := by decide +kernel
theorem d_T_drop_12 : decode b_T_drop 12 = .ok (.aload_n 0, 1) := by decide +kernel
theorem d_T_drop_13 : decode b_T_drop 13 = .ok (.getfield 21, 3) := by decide +kernel
theorem d_T_drop_16 : decode b_T_drop 16 = .ok (.iload_n 2, 1) := by decide +kernel
theorem d_T_drop_17 : decode b_T_drop 17 = .ok (.aaload, 1) := by decide +kernel
theorem d_T_drop_18 : decode b_T_drop 18 = .ok (.iconst 0, 1) := by decide +kernel
theorem d_T_drop_19 : decode b_T_drop 19 = .ok (.putfield 105, 3) := by decide +kernel
theorem d_T_drop_22 : decode b_T_drop 22 = .ok (.iconst 1, 1) := by decide +kernel
theorem d_T_drop_23 : decode b_T_drop 23 = .ok (.ireturn, 1) := by decide +kernel
theorem d_T_deliver_0 : decode b_T_deliver 0 = .ok (.aload_n 0, 1) := by decide +kernel
theorem d_T_deliver_1 : decode b_T_deliver 1 = .ok (.iload_n 1, 1) := by decide +kernel
theorem d_T_deliver_2 : decode b_T_deliver 2 = .ok (.invokevirtual 94, 3) := by decide +kernel
theorem d_T_deliver_5 : decode b_T_deliver 5 = .ok (.istore_n 2, 1) := by decide +kernel
theorem d_T_deliver_6 : decode b_T_deliver 6 = .ok (.iload_n 2, 1) := by decide +kernel
theorem d_T_deliver_7 : decode b_T_deliver 7 = .ok (.ifCond .ge 5, 3) := by decide +kernel
theorem d_T_deliver_10 : decode b_T_deliver 10 = .ok (.iconst (-1), 1) := by decide +kernel
theorem d_T_deliver_11 : decode b_T_deliver 11 = .ok (.ireturn, 1) := by decide +kernel
theorem d_T_deliver_12 : decode b_T_deliver 12 = .ok (.aload_n 0, 1) := by decide +kernel
theorem d_T_deliver_13 : decode b_T_deliver 13 = .ok (.getfield 21, 3) := by decide +kernel
theorem d_T_deliver_16 : decode b_T_deliver 16 = .ok (.iload_n 2, 1) := by decide +kernel
theorem d_T_deliver_17 : decode b_T_deliver 17 = .ok (.aaload, 1) := by decide +kernel
theorem d_T_deliver_18 : decode b_T_deliver 18 = .ok (.astore_n 3, 1) := by decide +kernel
theorem d_T_deliver_19 : decode b_T_deliver 19 = .ok (.aload_n 3, 1) := by decide +kernel
theorem d_T_deliver_20 : decode b_T_deliver 20 = .ok (.iconst 0, 1) := by decide +kernel
theorem d_T_deliver_21 : decode b_T_deliver 21 = .ok (.putfield 105, 3) := by decide +kernel
theorem d_T_deliver_24 : decode b_T_deliver 24 = .ok (.aload_n 0, 1) := by decide +kernel
theorem d_T_deliver_25 : decode b_T_deliver 25 = .ok (.getfield 11, 3) := by decide +kernel
theorem d_T_deliver_28 : decode b_T_deliver 28 = .ok (.aload_n 3, 1) := by decide +kernel
theorem d_T_deliver_29 : decode b_T_deliver 29 = .ok (.getfield 98, 3) := by decide +kernel
theorem d_T_deliver_32 : decode b_T_deliver 32 = .ok (.aaload, 1) := by decide +kernel
theorem d_T_deliver_33 : decode b_T_deliver 33 = .ok (.astore 4, 2) := by decide +kernel
theorem d_T_deliver_35 : decode b_T_deliver 35 = .ok (.aload 4, 2) := by decide +kernel
theorem d_T_deliver_37 : decode b_T_deliver 37 = .ok (.getfield 108, 3) := by decide +kernel
theorem d_T_deliver_40 : decode b_T_deliver 40 = .ok (.aload_n 3, 1) := by decide +kernel
theorem d_T_deliver_41 : decode b_T_deliver 41 = .ok (.getfield 101, 3) := by decide +kernel
theorem d_T_deliver_44 : decode b_T_deliver 44 = .ok (.if_icmp .lt 5, 3) := by decide +kernel
theorem d_T_deliver_47 : decode b_T_deliver 47 = .ok (.iconst 0, 1) := by decide +kernel
theorem d_T_deliver_48 : decode b_T_deliver 48 = .ok (.ireturn, 1) := by decide +kernel
theorem d_T_deliver_49 : decode b_T_deliver 49 = .ok (.aload 4, 2) := by decide +kernel
theorem d_T_deliver_51 : decode b_T_deliver 51 = .ok (.aload_n 3, 1) := by decide +kernel
theorem d_T_deliver_52 : decode b_T_deliver 52 = .ok (.getfield 101, 3) := by decide +kernel
theorem d_T_deliver_55 : decode b_T_deliver 55 = .ok (.putfield 108, 3) := by decide +kernel
theorem d_T_deliver_58 : decode b_T_deliver 58 = .ok (.aload 4, 2) := by decide +kernel
theorem d_T_deliver_60 : decode b_T_deliver 60 = .ok (.getfield 111, 3) := by decide +kernel
theorem d_T_deliver_63 : decode b_T_deliver 63 = .ok (.aload_n 3, 1) := by decide +kernel
theorem d_T_deliver_64 : decode b_T_deliver 64 = .ok (.getfield 104, 3) := by decide +kernel
theorem d_T_deliver_67 : decode b_T_deliver 67 = .ok (.invokevirtual 114, 3) := by decide +kernel
theorem d_T_deliver_70 : decode b_T_deliver 70 = .ok (.aload_n 0, 1) := by decide +kernel
theorem d_T_deliver_71 : decode b_T_deliver 71 = .ok (.aload 4, 2) := by decide +kernel
theorem d_T_deliver_73 : decode b_T_deliver 73 = .ok (.getfield 51, 3) := by decide +kernel
theorem d_T_deliver_76 : decode b_T_deliver 76 = .ok (.invokevirtual 77, 3) := by decide +kernel
theorem d_T_deliver_79 : decode b_T_deliver 79 = .ok (.iconst 1, 1) := by decide +kernel
theorem d_T_deliver_80 : decode b_T_deliver 80 = .ok (.ireturn, 1) := by decide +kernel
theorem d_T_onTheWay_0 : decode b_T_onTheWay 0 = .ok (.iconst 0, 1) := by decide +kernel
theorem d_T_onTheWay_1 : decode b_T_onTheWay 1 = .ok (.istore_n 1, 1) := by decide +kernel
theorem d_T_onTheWay_2 : decode b_T_onTheWay 2 = .ok (.iconst 0, 1) := by decide +kernel
theorem d_T_onTheWay_3 : decode b_T_onTheWay 3 = .ok (.istore_n 2, 1) := by decide +kernel
theorem d_T_onTheWay_4 : decode b_T_onTheWay 4 = .ok (.iload_n 2, 1) := by decide +kernel
theorem d_T_onTheWay_5 : decode b_T_onTheWay 5 = .ok (.bipush 12, 2) := by decide +kernel
theorem d_T_onTheWay_7 : decode b_T_onTheWay 7 = .ok (.if_icmp .ge 24, 3) := by decide +kernel
theorem d_T_onTheWay_10 : decode b_T_onTheWay 10 = .ok (.aload_n 0, 1) := by decide +kernel
theorem d_T_onTheWay_11 : decode b_T_onTheWay 11 = .ok (.getfield 21, 3) := by decide +kernel
theorem d_T_onTheWay_14 : decode b_T_onTheWay 14 = .ok (.iload_n 2, 1) := by decide +kernel
theorem d_T_onTheWay_15 : decode b_T_onTheWay 15 = .ok (.aaload, 1) := by decide +kernel
theorem d_T_onTheWay_16 : decode b_T_onTheWay 16 = .ok (.getfield 105, 3) := by decide +kernel
theorem d_T_onTheWay_19 : decode b_T_onTheWay 19 = .ok (.ifCond .eq 6, 3) := by decide +kernel
theorem d_T_onTheWay_22 : decode b_T_onTheWay 22 = .ok (.iinc 1 1, 3) := by decide +kernel
theorem d_T_onTheWay_25 : decode b_T_onTheWay 25 = .ok (.iinc 2 1, 3) := by decide +kernel
theorem d_T_onTheWay_28 : decode b_T_onTheWay 28 = .ok (.goto (-24), 3) := by decide +kernel
theorem d_T_onTheWay_31 : decode b_T_onTheWay 31 = .ok (.iload_n 1, 1) := by decide +kernel
theorem d_T_onTheWay_32 : decode b_T_onTheWay 32 = .ok (.ireturn, 1) := by decide +kernel
theorem d_T_total_0 : decode b_T_total 0 = .ok (.aload_n 0, 1) := by decide +kernel
theorem d_T_total_1 : decode b_T_total 1 = .ok (.iload_n 1, 1) := by decide +kernel
theorem d_T_total_2 : decode b_T_total 2 = .ok (.invokevirtual 43, 3) := by decide +kernel
theorem d_T_total_5 : decode b_T_total 5 = .ok (.ifCond .eq 18, 3) := by decide +kernel
theorem d_T_total_8 : decode b_T_total 8 = .ok (.aload_n 0, 1) := by decide +kernel
theorem d_T_total_9 : decode b_T_total 9 = .ok (.getfield 11, 3) := by decide +kernel
theorem d_T_total_12 : decode b_T_total 12 = .ok (.iload_n 1, 1) := by decide +kernel
theorem d_T_total_13 : decode b_T_total 13 = .ok (.aaload, 1) := by decide +kernel
theorem d_T_total_14 : decode b_T_total 14 = .ok (.getfield 86, 3) := by decide +kernel
theorem d_T_total_17 : decode b_T_total 17 = .ok (.getfield 120, 3) := by decide +kernel
theorem d_T_total_20 : decode b_T_total 20 = .ok (.goto 4, 3) := by decide +kernel
theorem d_T_total_23 : decode b_T_total 23 = .ok (.iconst (-1), 1) := by decide +kernel
theorem d_T_total_24 : decode b_T_total 24 = .ok (.ireturn, 1) := by decide +kernel
theorem d_T_sum_0 : decode b_T_sum 0 = .ok (.aload_n 0, 1) := by decide +kernel
theorem d_T_sum_1 : decode b_T_sum 1 = .ok (.iload_n 1, 1) := by decide +kernel
theorem d_T_sum_2 : decode b_T_sum 2 = .ok (.invokevirtual 43, 3) := by decide +kernel
theorem d_T_sum_5 : decode b_T_sum 5 = .ok (.ifCond .eq 18, 3) := by decide +kernel
theorem d_T_sum_8 : decode b_T_sum 8 = .ok (.aload_n 0, 1) := by decide +kernel
theorem d_T_sum_9 : decode b_T_sum 9 = .ok (.getfield 11, 3) := by decide +kernel
theorem d_T_sum_12 : decode b_T_sum 12 = .ok (.iload_n 1, 1) := by decide +kernel
theorem d_T_sum_13 : decode b_T_sum 13 = .ok (.aaload, 1) := by decide +kernel
theorem d_T_sum_14 : decode b_T_sum 14 = .ok (.getfield 86, 3) := by decide +kernel
theorem d_T_sum_17 : decode b_T_sum 17 = .ok (.getfield 123, 3) := by decide +kernel
theorem d_T_sum_20 : decode b_T_sum 20 = .ok (.goto 6, 3) := by decide +kernel
theorem d_T_sum_23 : decode b_T_sum 23 = .ok (.ldc2_w 127, 3) := by decide +kernel
theorem d_T_sum_26 : decode b_T_sum 26 = .ok (.lreturn, 1) := by decide +kernel
theorem d_T_extreme_0 : decode b_T_extreme 0 = .ok (.aload_n 0, 1) := by decide +kernel
theorem d_T_extreme_1 : decode b_T_extreme 1 = .ok (.iload_n 1, 1) := by decide +kernel
theorem d_T_extreme_2 : decode b_T_extreme 2 = .ok (.invokevirtual 43, 3) := by decide +kernel
theorem d_T_extreme_5 : decode b_T_extreme 5 = .ok (.ifCond .eq 18, 3) := by decide +kernel
theorem d_T_extreme_8 : decode b_T_extreme 8 = .ok (.aload_n 0, 1) := by decide +kernel
theorem d_T_extreme_9 : decode b_T_extreme 9 = .ok (.getfield 11, 3) := by decide +kernel
theorem d_T_extreme_12 : decode b_T_extreme 12 = .ok (.iload_n 1, 1) := by decide +kernel
theorem d_T_extreme_13 : decode b_T_extreme 13 = .ok (.aaload, 1) := by decide +kernel
theorem d_T_extreme_14 : decode b_T_extreme 14 = .ok (.getfield 86, 3) := by decide +kernel
theorem d_T_extreme_17 : decode b_T_extreme 17 = .ok (.getfield 120, 3) := by decide +kernel
theorem d_T_extreme_20 : decode b_T_extreme 20 = .ok (.ifCond .ne 5, 3) := by decide +kernel
theorem d_T_extreme_23 : decode b_T_extreme 23 = .ok (.iconst (-1), 1) := by decide +kernel
theorem d_T_extreme_24 : decode b_T_extreme 24 = .ok (.ireturn, 1) := by decide +kernel
theorem d_T_extreme_25 : decode b_T_extreme 25 = .ok (.iload_n 2, 1) := by decide +kernel
theorem d_T_extreme_26 : decode b_T_extreme 26 = .ok (.ifCond .eq 18, 3) := by decide +kernel
theorem d_T_extreme_29 : decode b_T_extreme 29 = .ok (.aload_n 0, 1) := by decide +kernel
theorem d_T_extreme_30 : decode b_T_extreme 30 = .ok (.getfield 11, 3) := by decide +kernel
theorem d_T_extreme_33 : decode b_T_extreme 33 = .ok (.iload_n 1, 1) := by decide +kernel
theorem d_T_extreme_34 : decode b_T_extreme 34 = .ok (.aaload, 1) := by decide +kernel
theorem d_T_extreme_35 : decode b_T_extreme 35 = .ok (.getfield 86, 3) := by decide +kernel
theorem d_T_extreme_38 : decode b_T_extreme 38 = .ok (.getfield 129, 3) := by decide +kernel
theorem d_T_extreme_41 : decode b_T_extreme 41 = .ok (.goto 15, 3) := by decide +kernel
theorem d_T_extreme_44 : decode b_T_extreme 44 = .ok (.aload_n 0, 1) := by decide +kernel
theorem d_T_extreme_45 : decode b_T_extreme 45 = .ok (.getfield 11, 3) := by decide +kernel
theorem d_T_extreme_48 : decode b_T_extreme 48 = .ok (.iload_n 1, 1) := by decide +kernel
theorem d_T_extreme_49 : decode b_T_extreme 49 = .ok (.aaload, 1) := by decide +kernel
theorem d_T_extreme_50 : decode b_T_extreme 50 = .ok (.getfield 86, 3) := by decide +kernel
theorem d_T_extreme_53 : decode b_T_extreme 53 = .ok (.getfield 132, 3) := by decide +kernel
theorem d_T_extreme_56 : decode b_T_extreme 56 = .ok (.ireturn, 1) := by decide +kernel
theorem d_T_covered_0 : decode b_T_covered 0 = .ok (.aload_n 0, 1) := by decide +kernel
theorem d_T_covered_1 : decode b_T_covered 1 = .ok (.iload_n 1, 1) := by decide +kernel
theorem d_T_covered_2 : decode b_T_covered 2 = .ok (.invokevirtual 43, 3) := by decide +kernel
theorem d_T_covered_5 : decode b_T_covered 5 = .ok (.ifCond .eq 28, 3) := by decide +kernel
theorem d_T_covered_8 : decode b_T_covered 8 = .ok (.aload_n 0, 1) := by decide +kernel
theorem d_T_covered_9 : decode b_T_covered 9 = .ok (.iload_n 2, 1) := by decide +kernel
theorem d_T_covered_10 : decode b_T_covered 10 = .ok (.invokevirtual 54, 3) := by decide +kernel
theorem d_T_covered_13 : decode b_T_covered 13 = .ok (.ifCond .eq 20, 3) := by decide +kernel
theorem d_T_covered_16 : decode b_T_covered 16 = .ok (.aload_n 0, 1) := by decide +kernel
theorem d_T_covered_17 : decode b_T_covered 17 = .ok (.getfield 11, 3) := by decide +kernel
theorem d_T_covered_20 : decode b_T_covered 20 = .ok (.iload_n 1, 1) := by decide +kernel
theorem d_T_covered_21 : decode b_T_covered 21 = .ok (.aaload, 1) := by decide +kernel
theorem d_T_covered_22 : decode b_T_covered 22 = .ok (.getfield 86, 3) := by decide +kernel
theorem d_T_covered_25 : decode b_T_covered 25 = .ok (.getfield 135, 3) := by decide +kernel
theorem d_T_covered_28 : decode b_T_covered 28 = .ok (.iload_n 2, 1) := by decide +kernel
theorem d_T_covered_29 : decode b_T_covered 29 = .ok (.iaload, 1) := by decide +kernel
theorem d_T_covered_30 : decode b_T_covered 30 = .ok (.goto 4, 3) := by decide +kernel
theorem d_T_covered_33 : decode b_T_covered 33 = .ok (.iconst (-1), 1) := by decide +kernel
theorem d_T_covered_34 : decode b_T_covered 34 = .ok (.ireturn, 1) := by decide +kernel
theorem d_T_estimate_0 : decode b_T_estimate 0 = .ok (.aload_n 0, 1) := by decide +kernel
theorem d_T_estimate_1 : decode b_T_estimate 1 = .ok (.iload_n 1, 1) := by decide +kernel
theorem d_T_estimate_2 : decode b_T_estimate 2 = .ok (.invokevirtual 43, 3) := by decide +kernel
theorem d_T_estimate_5 : decode b_T_estimate 5 = .ok (.ifCond .eq 30, 3) := by decide +kernel
theorem d_T_estimate_8 : decode b_T_estimate 8 = .ok (.iload_n 2, 1) := by decide +kernel
theorem d_T_estimate_9 : decode b_T_estimate 9 = .ok (.invokestatic 57, 3) := by decide +kernel
theorem d_T_estimate_12 : decode b_T_estimate 12 = .ok (.ifCond .eq 23, 3) := by decide +kernel
theorem d_T_estimate_15 : decode b_T_estimate 15 = .ok (.aload_n 0, 1) := by decide +kernel
theorem d_T_estimate_16 : decode b_T_estimate 16 = .ok (.getfield 11, 3) := by decide +kernel
theorem d_T_estimate_19 : decode b_T_estimate 19 = .ok (.iload_n 1, 1) := by decide +kernel
theorem d_T_estimate_20 : decode b_T_estimate 20 = .ok (.aaload, 1) := by decide +kernel
theorem d_T_estimate_21 : decode b_T_estimate 21 = .ok (.getfield 86, 3) := by decide +kernel
theorem d_T_estimate_24 : decode b_T_estimate 24 = .ok (.getfield 139, 3) := by decide +kernel
theorem d_T_estimate_27 : decode b_T_estimate 27 = .ok (.getfield 143, 3) := by decide +kernel
theorem d_T_estimate_30 : decode b_T_estimate 30 = .ok (.iload_n 2, 1) := by decide +kernel
theorem d_T_estimate_31 : decode b_T_estimate 31 = .ok (.iaload, 1) := by decide +kernel
theorem d_T_estimate_32 : decode b_T_estimate 32 = .ok (.goto 4, 3) := by decide +kernel
theorem d_T_estimate_35 : decode b_T_estimate 35 = .ok (.iconst (-1), 1) := by decide +kernel
theorem d_T_estimate_36 : decode b_T_estimate 36 = .ok (.ireturn, 1) := by decide +kernel
theorem d_T_top_0 : decode b_T_top 0 = .ok (.aload_n 0, 1) := by decide +kernel
theorem d_T_top_1 : decode b_T_top 1 = .ok (.iload_n 1, 1) := by decide +kernel
theorem d_T_top_2 : decode b_T_top 2 = .ok (.invokevirtual 43, 3) := by decide +kernel
theorem d_T_top_5 : decode b_T_top 5 = .ok (.ifCond .eq 22, 3) := by decide +kernel
theorem d_T_top_8 : decode b_T_top 8 = .ok (.aload_n 0, 1) := by decide +kernel
theorem d_T_top_9 : decode b_T_top 9 = .ok (.getfield 11, 3) := by decide +kernel
theorem d_T_top_12 : decode b_T_top 12 = .ok (.iload_n 1, 1) := by decide +kernel
theorem d_T_top_13 : decode b_T_top 13 = .ok (.aaload, 1) := by decide +kernel
theorem d_T_top_14 : decode b_T_top 14 = .ok (.getfield 86, 3) := by decide +kernel
theorem d_T_top_17 : decode b_T_top 17 = .ok (.getfield 139, 3) := by decide +kernel
theorem d_T_top_20 : decode b_T_top 20 = .ok (.iload_n 2, 1) := by decide +kernel
theorem d_T_top_21 : decode b_T_top 21 = .ok (.invokevirtual 148, 3) := by decide +kernel
theorem d_T_top_24 : decode b_T_top 24 = .ok (.goto 4, 3) := by decide +kernel
theorem d_T_top_27 : decode b_T_top 27 = .ok (.iconst (-1), 1) := by decide +kernel
theorem d_T_top_28 : decode b_T_top 28 = .ok (.ireturn, 1) := by decide +kernel
theorem d_T_digestSize_0 : decode b_T_digestSize 0 = .ok (.aload_n 0, 1) := by decide +kernel
theorem d_T_digestSize_1 : decode b_T_digestSize 1 = .ok (.iload_n 1, 1) := by decide +kernel
theorem d_T_digestSize_2 : decode b_T_digestSize 2 = .ok (.invokevirtual 43, 3) := by decide +kernel
theorem d_T_digestSize_5 : decode b_T_digestSize 5 = .ok (.ifCond .eq 21, 3) := by decide +kernel
theorem d_T_digestSize_8 : decode b_T_digestSize 8 = .ok (.aload_n 0, 1) := by decide +kernel
theorem d_T_digestSize_9 : decode b_T_digestSize 9 = .ok (.getfield 11, 3) := by decide +kernel
theorem d_T_digestSize_12 : decode b_T_digestSize 12 = .ok (.iload_n 1, 1) := by decide +kernel
theorem d_T_digestSize_13 : decode b_T_digestSize 13 = .ok (.aaload, 1) := by decide +kernel
theorem d_T_digestSize_14 : decode b_T_digestSize 14 = .ok (.getfield 86, 3) := by decide +kernel
theorem d_T_digestSize_17 : decode b_T_digestSize 17 = .ok (.getfield 151, 3) := by decide +kernel
theorem d_T_digestSize_20 : decode b_T_digestSize 20 = .ok (.invokevirtual 155, 3) := by decide +kernel
theorem d_T_digestSize_23 : decode b_T_digestSize 23 = .ok (.goto 4, 3) := by decide +kernel
theorem d_T_digestSize_26 : decode b_T_digestSize 26 = .ok (.iconst (-1), 1) := by decide +kernel
theorem d_T_digestSize_27 : decode b_T_digestSize 27 = .ok (.ireturn, 1) := by decide +kernel
theorem d_T_below_0 : decode b_T_below 0 = .ok (.aload_n 0, 1) := by decide +kernel
theorem d_T_below_1 : decode b_T_below 1 = .ok (.iload_n 1, 1) := by decide +kernel
theorem d_T_below_2 : decode b_T_below 2 = .ok (.invokevirtual 43, 3) := by decide +kernel
theorem d_T_below_5 : decode b_T_below 5 = .ok (.ifCond .eq 13, 3) := by decide +kernel
theorem d_T_below_8 : decode b_T_below 8 = .ok (.iload_n 2, 1) := by decide +kernel
theorem d_T_below_9 : decode b_T_below 9 = .ok (.ifCond .lt 9, 3) := by decide +kernel
theorem d_T_below_12 : decode b_T_below 12 = .ok (.iload_n 2, 1) := by decide +kernel
theorem d_T_below_13 : decode b_T_below 13 = .ok (.bipush 32, 2) := by decide +kernel
theorem d_T_below_15 : decode b_T_below 15 = .ok (.if_icmp .le 5, 3) := by decide +kernel
theorem d_T_below_18 : decode b_T_below 18 = .ok (.iconst (-1), 1) := by decide +kernel
theorem d_T_below_19 : decode b_T_below 19 = .ok (.ireturn, 1) := by decide +kernel
theorem d_T_below_20 : decode b_T_below 20 = .ok (.aload_n 0, 1) := by decide +kernel
theorem d_T_below_21 : decode b_T_below 21 = .ok (.getfield 11, 3) := by decide +kernel
theorem d_T_below_24 : decode b_T_below 24 = .ok (.iload_n 1, 1) := by decide +kernel
theorem d_T_below_25 : decode b_T_below 25 = .ok (.aaload, 1) := by decide +kernel
theorem d_T_below_26 : decode b_T_below 26 = .ok (.getfield 86, 3) := by decide +kernel
theorem d_T_below_29 : decode b_T_below 29 = .ok (.getfield 151, 3) := by decide +kernel
theorem d_T_below_32 : decode b_T_below 32 = .ok (.astore 4, 2) := by decide +kernel
theorem d_T_below_34 : decode b_T_below 34 = .ok (.iload_n 3, 1) := by decide +kernel
theorem d_T_below_35 : decode b_T_below 35 = .ok (.ifCond .eq 12, 3) := by decide +kernel
theorem d_T_below_38 : decode b_T_below 38 = .ok (.aload 4, 2) := by decide +kernel
theorem d_T_below_40 : decode b_T_below 40 = .ok (.iload_n 2, 1) := by decide +kernel
theorem d_T_below_41 : decode b_T_below 41 = .ok (.invokevirtual 160, 3) := by decide +kernel
theorem d_T_below_44 : decode b_T_below 44 = .ok (.goto 9, 3) := by decide +kernel
theorem d_T_below_47 : decode b_T_below 47 = .ok (.aload 4, 2) := by decide +kernel
theorem d_T_below_49 : decode b_T_below 49 = .ok (.iload_n 2, 1) := by decide +kernel
theorem d_T_below_50 : decode b_T_below 50 = .ok (.invokevirtual 163, 3) := by decide +kernel
theorem d_T_below_53 : decode b_T_below 53 = .ok (.ireturn, 1) := by decide +kernel
theorem d_T_quantile_0 : decode b_T_quantile 0 = .ok (.aload_n 0, 1) := by decide +kernel
theorem d_T_quantile_1 : decode b_T_quantile 1 = .ok (.iload_n 1, 1) := by decide +kernel
theorem d_T_quantile_2 : decode b_T_quantile 2 = .ok (.invokevirtual 43, 3) := by decide +kernel
theorem d_T_quantile_5 : decode b_T_quantile 5 = .ok (.ifCond .eq 14, 3) := by decide +kernel
theorem d_T_quantile_8 : decode b_T_quantile 8 = .ok (.iload_n 2, 1) := by decide +kernel
theorem d_T_quantile_9 : decode b_T_quantile 9 = .ok (.ifCond .lt 10, 3) := by decide +kernel
theorem d_T_quantile_12 : decode b_T_quantile 12 = .ok (.iload_n 2, 1) := by decide +kernel
theorem d_T_quantile_13 : decode b_T_quantile 13 = .ok (.sipush 1000, 3) := by decide +kernel
theorem d_T_quantile_16 : decode b_T_quantile 16 = .ok (.if_icmp .le 5, 3) := by decide +kernel
theorem d_T_quantile_19 : decode b_T_quantile 19 = .ok (.iconst (-1), 1) := by decide +kernel
theorem d_T_quantile_20 : decode b_T_quantile 20 = .ok (.ireturn, 1) := by decide +kernel
theorem d_T_quantile_21 : decode b_T_quantile 21 = .ok (.aload_n 0, 1) := by decide +kernel
theorem d_T_quantile_22 : decode b_T_quantile 22 = .ok (.getfield 11, 3) := by decide +kernel
theorem d_T_quantile_25 : decode b_T_quantile 25 = .ok (.iload_n 1, 1) := by decide +kernel
theorem d_T_quantile_26 : decode b_T_quantile 26 = .ok (.aaload, 1) := by decide +kernel
theorem d_T_quantile_27 : decode b_T_quantile 27 = .ok (.getfield 86, 3) := by decide +kernel
theorem d_T_quantile_30 : decode b_T_quantile 30 = .ok (.astore_n 3, 1) := by decide +kernel
theorem d_T_quantile_31 : decode b_T_quantile 31 = .ok (.aload_n 3, 1) := by decide +kernel
theorem d_T_quantile_32 : decode b_T_quantile 32 = .ok (.getfield 151, 3) := by decide +kernel
theorem d_T_quantile_35 : decode b_T_quantile 35 = .ok (.iload_n 2, 1) := by decide +kernel
theorem d_T_quantile_36 : decode b_T_quantile 36 = .ok (.aload_n 3, 1) := by decide +kernel
theorem d_T_quantile_37 : decode b_T_quantile 37 = .ok (.getfield 120, 3) := by decide +kernel
theorem d_T_quantile_40 : decode b_T_quantile 40 = .ok (.imul, 1) := by decide +kernel
theorem d_T_quantile_41 : decode b_T_quantile 41 = .ok (.invokevirtual 166, 3) := by decide +kernel
theorem d_T_quantile_44 : decode b_T_quantile 44 = .ok (.ireturn, 1) := by decide +kernel
theorem d_T_isNode_0 : decode b_T_isNode 0 = .ok (.iload_n 1, 1) := by decide +kernel
theorem d_T_isNode_1 : decode b_T_isNode 1 = .ok (.ifCond .lt 15, 3) := by decide +kernel
theorem d_T_isNode_4 : decode b_T_isNode 4 = .ok (.iload_n 1, 1) := by decide +kernel
theorem d_T_isNode_5 : decode b_T_isNode 5 = .ok (.aload_n 0, 1) := by decide +kernel
theorem d_T_isNode_6 : decode b_T_isNode 6 = .ok (.getfield 15, 3) := by decide +kernel
theorem d_T_isNode_9 : decode b_T_isNode 9 = .ok (.if_icmp .ge 7, 3) := by decide +kernel
theorem d_T_isNode_12 : decode b_T_isNode 12 = .ok (.iconst 1, 1) := by decide +kernel
theorem d_T_isNode_13 : decode b_T_isNode 13 = .ok (.goto 4, 3) := by decide +kernel
theorem d_T_isNode_16 : decode b_T_isNode 16 = .ok (.iconst 0, 1) := by decide +kernel
theorem d_T_isNode_17 : decode b_T_isNode 17 = .ok (.ireturn, 1) := by decide +kernel
theorem d_T_isLeaf_0 : decode b_T_isLeaf 0 = .ok (.aload_n 0, 1) := by decide +kernel
theorem d_T_isLeaf_1 : decode b_T_isLeaf 1 = .ok (.iload_n 1, 1) := by decide +kernel
theorem d_T_isLeaf_2 : decode b_T_isLeaf 2 = .ok (.invokevirtual 43, 3) := by decide +kernel
theorem d_T_isLeaf_5 : decode b_T_isLeaf 5 = .ok (.ifCond .eq 19, 3) := by decide +kernel
theorem d_T_isLeaf_8 : decode b_T_isLeaf 8 = .ok (.aload_n 0, 1) := by decide +kernel
theorem d_T_isLeaf_9 : decode b_T_isLeaf 9 = .ok (.getfield 11, 3) := by decide +kernel
theorem d_T_isLeaf_12 : decode b_T_isLeaf 12 = .ok (.iload_n 1, 1) := by decide +kernel
theorem d_T_isLeaf_13 : decode b_T_isLeaf 13 = .ok (.aaload, 1) := by decide +kernel
theorem d_T_isLeaf_14 : decode b_T_isLeaf 14 = .ok (.getfield 47, 3) := by decide +kernel
theorem d_T_isLeaf_17 : decode b_T_isLeaf 17 = .ok (.ifCond .eq 7, 3) := by decide +kernel
theorem d_T_isLeaf_20 : decode b_T_isLeaf 20 = .ok (.iconst 1, 1) := by decide +kernel
theorem d_T_isLeaf_21 : decode b_T_isLeaf 21 = .ok (.goto 4, 3) := by decide +kernel
theorem d_T_isLeaf_24 : decode b_T_isLeaf 24 = .ok (.iconst 0, 1) := by decide +kernel
theorem d_T_isLeaf_25 : decode b_T_isLeaf 25 = .ok (.ireturn, 1) := by decide +kernel
theorem d_T_isValue_0 : decode b_T_isValue 0 = .ok (.iload_n 0, 1) := by decide +kernel
theorem d_T_isValue_1 : decode b_T_isValue 1 = .ok (.ifCond .lt 13, 3) := by decide +kernel
theorem d_T_isValue_4 : decode b_T_isValue 4 = .ok (.iload_n 0, 1) := by decide +kernel
theorem d_T_isValue_5 : decode b_T_isValue 5 = .ok (.bipush 32, 2) := by decide +kernel
theorem d_T_isValue_7 : decode b_T_isValue 7 = .ok (.if_icmp .ge 7, 3) := by decide +kernel
theorem d_T_isValue_10 : decode b_T_isValue 10 = .ok (.iconst 1, 1) := by decide +kernel
theorem d_T_isValue_11 : decode b_T_isValue 11 = .ok (.goto 4, 3) := by decide +kernel
theorem d_T_isValue_14 : decode b_T_isValue 14 = .ok (.iconst 0, 1) := by decide +kernel
theorem d_T_isValue_15 : decode b_T_isValue 15 = .ok (.ireturn, 1) := by decide +kernel
theorem d_T_slotOf_0 : decode b_T_slotOf 0 = .ok (.iload_n 1, 1) := by decide +kernel
theorem d_T_slotOf_1 : decode b_T_slotOf 1 = .ok (.iconst 1, 1) := by decide +kernel
theorem d_T_slotOf_2 : decode b_T_slotOf 2 = .ok (.if_icmp .ge 7, 3) := by decide +kernel
theorem d_T_slotOf_5 : decode b_T_slotOf 5 = .ok (.iconst (-1), 1) := by decide +kernel
theorem d_T_slotOf_6 : decode b_T_slotOf 6 = .ok (.goto 8, 3) := by decide +kernel
theorem d_T_slotOf_9 : decode b_T_slotOf 9 = .ok (.aload_n 0, 1) := by decide +kernel
theorem d_T_slotOf_10 : decode b_T_slotOf 10 = .ok (.iload_n 1, 1) := by decide +kernel
theorem d_T_slotOf_11 : decode b_T_slotOf 11 = .ok (.invokevirtual 169, 3) := by decide +kernel
theorem d_T_slotOf_14 : decode b_T_slotOf 14 = .ok (.ireturn, 1) := by decide +kernel
theorem d_T_freeSlot_0 : decode b_T_freeSlot 0 = .ok (.aload_n 0, 1) := by decide +kernel
theorem d_T_freeSlot_1 : decode b_T_freeSlot 1 = .ok (.iconst 0, 1) := by decide +kernel
theorem d_T_freeSlot_2 : decode b_T_freeSlot 2 = .ok (.invokevirtual 169, 3) := by decide +kernel
theorem d_T_freeSlot_5 : decode b_T_freeSlot 5 = .ok (.ireturn, 1) := by decide +kernel
theorem d_T_slotWithNumber_0 : decode b_T_slotWithNumber 0 = .ok (.iconst 0, 1) := by decide +kernel
theorem d_T_slotWithNumber_1 : decode b_T_slotWithNumber 1 = .ok (.istore_n 2, 1) := by decide +kernel
theorem d_T_slotWithNumber_2 : decode b_T_slotWithNumber 2 = .ok (.iload_n 2, 1) := by decide +kernel
theorem d_T_slotWithNumber_3 : decode b_T_slotWithNumber 3 = .ok (.bipush 12, 2) := by decide +kernel
theorem d_T_slotWithNumber_5 : decode b_T_slotWithNumber 5 = .ok (.if_icmp .ge 24, 3) := by decide +kernel
theorem d_T_slotWithNumber_8 : decode b_T_slotWithNumber 8 = .ok (.aload_n 0, 1) := by decide +kernel
theorem d_T_slotWithNumber_9 : decode b_T_slotWithNumber 9 = .ok (.getfield 21, 3) := by decide +kernel
theorem d_T_slotWithNumber_12 : decode b_T_slotWithNumber 12 = .ok (.iload_n 2, 1) := by decide +kernel
theorem d_T_slotWithNumber_13 : decode b_T_slotWithNumber 13 = .ok (.aaload, 1) := by decide +kernel
theorem d_T_slotWithNumber_14 : decode b_T_slotWithNumber 14 = .ok (.getfield 105, 3) := by decide +kernel
theorem d_T_slotWithNumber_17 : decode b_T_slotWithNumber 17 = .ok (.iload_n 1, 1) := by decide +kernel
theorem d_T_slotWithNumber_18 : decode b_T_slotWithNumber 18 = .ok (.if_icmp .ne 5, 3) := by decide +kernel
theorem d_T_slotWithNumber_21 : decode b_T_slotWithNumber 21 = .ok (.iload_n 2, 1) := by decide +kernel
theorem d_T_slotWithNumber_22 : decode b_T_slotWithNumber 22 = .ok (.ireturn, 1) := by decide +kernel
theorem d_T_slotWithNumber_23 : decode b_T_slotWithNumber 23 = .ok (.iinc 2 1, 3) := by decide +kernel
theorem d_T_slotWithNumber_26 : decode b_T_slotWithNumber 26 = .ok (.goto (-24), 3) := by decide +kernel
theorem d_T_slotWithNumber_29 : decode b_T_slotWithNumber 29 = .ok (.iconst (-1), 1) := by decide +kernel
theorem d_T_slotWithNumber_30 : decode b_T_slotWithNumber 30 = .ok (.ireturn, 1) := by decide +kernel
theorem d_T_forgetChildren_0 : decode b_T_forgetChildren 0 = .ok (.iconst 1, 1) := by decide +kernel
theorem d_T_forgetChildren_1 : decode b_T_forgetChildren 1 = .ok (.istore_n 2, 1) := by decide +kernel
theorem d_T_forgetChildren_2 : decode b_T_forgetChildren 2 = .ok (.iload_n 2, 1) := by decide +kernel
theorem d_T_forgetChildren_3 : decode b_T_forgetChildren 3 = .ok (.aload_n 0, 1) := by decide +kernel
theorem d_T_forgetChildren_4 : decode b_T_forgetChildren 4 = .ok (.getfield 15, 3) := by decide +kernel
theorem d_T_forgetChildren_7 : decode b_T_forgetChildren 7 = .ok (.if_icmp .ge 32, 3) := by decide +kernel
theorem d_T_forgetChildren_10 : decode b_T_forgetChildren 10 = .ok (.aload_n 0, 1) := by decide +kernel
theorem d_T_forgetChildren_11 : decode b_T_forgetChildren 11 = .ok (.getfield 11, 3) := by decide +kernel
theorem d_T_forgetChildren_14 : decode b_T_forgetChildren 14 = .ok (.iload_n 2, 1) := by decide +kernel
theorem d_T_forgetChildren_15 : decode b_T_forgetChildren 15 = .ok (.aaload, 1) := by decide +kernel
theorem d_T_forgetChildren_16 : decode b_T_forgetChildren 16 = .ok (.getfield 51, 3) := by decide +kernel
theorem d_T_forgetChildren_19 : decode b_T_forgetChildren 19 = .ok (.iload_n 1, 1) := by decide +kernel
theorem d_T_forgetChildren_20 : decode b_T_forgetChildren 20 = .ok (.if_icmp .ne 13, 3) := by decide +kernel
theorem d_T_forgetChildren_23 : decode b_T_forgetChildren 23 = .ok (.aload_n 0, 1) := by decide +kernel
theorem d_T_forgetChildren_24 : decode b_T_forgetChildren 24 = .ok (.getfield 11, 3) := by decide +kernel
theorem d_T_forgetChildren_27 : decode b_T_forgetChildren 27 = .ok (.iload_n 2, 1) := by decide +kernel
theorem d_T_forgetChildren_28 : decode b_T_forgetChildren 28 = .ok (.aaload, 1) := by decide +kernel
theorem d_T_forgetChildren_29 : decode b_T_forgetChildren 29 = .ok (.iconst 0, 1) := by decide +kernel
theorem d_T_forgetChildren_30 : decode b_T_forgetChildren 30 = .ok (.putfield 108, 3) := by decide +kernel
theorem d_T_forgetChildren_33 : decode b_T_forgetChildren 33 = .ok (.iinc 2 1, 3) := by decide +kernel
theorem d_T_forgetChildren_36 : decode b_T_forgetChildren 36 = .ok (.goto (-34), 3) := by decide +kernel
theorem d_T_forgetChildren_39 : decode b_T_forgetChildren 39 = .ok (.return_, 1) := by decide +kernel
theorem d_T_mergeKept_0 : decode b_T_mergeKept 0 = .ok (.aload_n 0, 1) := by decide +kernel
theorem d_T_mergeKept_1 : decode b_T_mergeKept 1 = .ok (.getfield 11, 3) := by decide +kernel
theorem d_T_mergeKept_4 : decode b_T_mergeKept 4 = .ok (.iload_n 1, 1) := by decide +kernel
theorem d_T_mergeKept_5 : decode b_T_mergeKept 5 = .ok (.aaload, 1) := by decide +kernel
theorem d_T_mergeKept_6 : decode b_T_mergeKept 6 = .ok (.getfield 86, 3) := by decide +kernel
theorem d_T_mergeKept_9 : decode b_T_mergeKept 9 = .ok (.astore_n 2, 1) := by decide +kernel
theorem d_T_mergeKept_10 : decode b_T_mergeKept 10 = .ok (.aload_n 2, 1) := by decide +kernel
theorem d_T_mergeKept_11 : decode b_T_mergeKept 11 = .ok (.invokevirtual 172, 3) := by decide +kernel
theorem d_T_mergeKept_14 : decode b_T_mergeKept 14 = .ok (.iconst 1, 1) := by decide +kernel
theorem d_T_mergeKept_15 : decode b_T_mergeKept 15 = .ok (.istore_n 3, 1) := by decide +kernel
theorem d_T_mergeKept_16 : decode b_T_mergeKept 16 = .ok (.iload_n 3, 1) := by decide +kernel
theorem d_T_mergeKept_17 : decode b_T_mergeKept 17 = .ok (.aload_n 0, 1) := by decide +kernel
theorem d_T_mergeKept_18 : decode b_T_mergeKept 18 = .ok (.getfield 15, 3) := by decide +kernel
theorem d_T_mergeKept_21 : decode b_T_mergeKept 21 = .ok (.if_icmp .ge 54, 3) := by decide +kernel
theorem d_T_mergeKept_24 : decode b_T_mergeKept 24 = .ok (.aload_n 0, 1) := by decide +kernel
theorem d_T_mergeKept_25 : decode b_T_mergeKept 25 = .ok (.getfield 11, 3) := by decide +kernel
theorem d_T_mergeKept_28 : decode b_T_mergeKept 28 = .ok (.iload_n 3, 1) := by decide +kernel
theorem d_T_mergeKept_29 : decode b_T_mergeKept 29 = .ok (.aaload, 1) := by decide +kernel
theorem d_T_mergeKept_30 : decode b_T_mergeKept 30 = .ok (.astore 4, 2) := by decide +kernel
theorem d_T_mergeKept_32 : decode b_T_mergeKept 32 = .ok (.aload 4, 2) := by decide +kernel
theorem d_T_mergeKept_34 : decode b_T_mergeKept 34 = .ok (.getfield 51, 3) := by decide +kernel
theorem d_T_mergeKept_37 : decode b_T_mergeKept 37 = .ok (.iload_n 1, 1) := by decide +kernel
theorem d_T_mergeKept_38 : decode b_T_mergeKept 38 = .ok (.if_icmp .ne 31, 3) := by decide +kernel
theorem d_T_mergeKept_41 : decode b_T_mergeKept 41 = .ok (.aload 4, 2) := by decide +kernel
theorem d_T_mergeKept_43 : decode b_T_mergeKept 43 = .ok (.getfield 108, 3) := by decide +kernel
theorem d_T_mergeKept_46 : decode b_T_mergeKept 46 = .ok (.ifCond .le 23, 3) := by decide +kernel
theorem d_T_mergeKept_49 : decode b_T_mergeKept 49 = .ok (.aload 4, 2) := by decide +kernel
theorem d_T_mergeKept_51 : decode b_T_mergeKept 51 = .ok (.getfield 111, 3) := by decide +kernel
theorem d_T_mergeKept_54 : decode b_T_mergeKept 54 = .ok (.getfield 120, 3) := by decide +kernel
theorem d_T_mergeKept_57 : decode b_T_mergeKept 57 = .ok (.ifCond .le 12, 3) := by decide +kernel
theorem d_T_mergeKept_60 : decode b_T_mergeKept 60 = .ok (.aload_n 2, 1) := by decide +kernel
theorem d_T_mergeKept_61 : decode b_T_mergeKept 61 = .ok (.aload 4, 2) := by decide +kernel
theorem d_T_mergeKept_63 : decode b_T_mergeKept 63 = .ok (.getfield 111, 3) := by decide +kernel
theorem d_T_mergeKept_66 : decode b_T_mergeKept 66 = .ok (.invokevirtual 175, 3) := by decide +kernel
theorem d_T_mergeKept_69 : decode b_T_mergeKept 69 = .ok (.iinc 3 1, 3) := by decide +kernel
theorem d_T_mergeKept_72 : decode b_T_mergeKept 72 = .ok (.goto (-56), 3) := by decide +kernel
theorem d_T_mergeKept_75 : decode b_T_mergeKept 75 = .ok (.return_, 1) := by decide +kernel
theorem d_T_clear_0 : decode b_T_clear 0 = .ok (.iconst 0, 1) := by decide +kernel
theorem d_T_clear_1 : decode b_T_clear 1 = .ok (.istore_n 1, 1) := by decide +kernel
theorem d_T_clear_2 : decode b_T_clear 2 = .ok (.iload_n 1, 1) := by decide +kernel
theorem d_T_clear_3 : decode b_T_clear 3 = .ok (.aload_n 0, 1) := by decide +kernel
theorem d_T_clear_4 : decode b_T_clear 4 = .ok (.arraylength, 1) := by decide +kernel
theorem d_T_clear_5 : decode b_T_clear 5 = .ok (.if_icmp .ge 13, 3) := by decide +kernel
theorem d_T_clear_8 : decode b_T_clear 8 = .ok (.aload_n 0, 1) := by decide +kernel
theorem d_T_clear_9 : decode b_T_clear 9 = .ok (.iload_n 1, 1) := by decide +kernel
theorem d_T_clear_10 : decode b_T_clear 10 = .ok (.iconst 0, 1) := by decide +kernel
theorem d_T_clear_11 : decode b_T_clear 11 = .ok (.iastore, 1) := by decide +kernel
theorem d_T_clear_12 : decode b_T_clear 12 = .ok (.iinc 1 1, 3) := by decide +kernel
theorem d_T_clear_15 : decode b_T_clear 15 = .ok (.goto (-13), 3) := by decide +kernel
theorem d_T_clear_18 : decode b_T_clear 18 = .ok (.return_, 1) := by decide +kernel
theorem d_T_overwrite_0 : decode b_T_overwrite 0 = .ok (.iconst 0, 1) := by decide +kernel
theorem d_T_overwrite_1 : decode b_T_overwrite 1 = .ok (.istore_n 2, 1) := by decide +kernel
theorem d_T_overwrite_2 : decode b_T_overwrite 2 = .ok (.iload_n 2, 1) := by decide +kernel
theorem d_T_overwrite_3 : decode b_T_overwrite 3 = .ok (.aload_n 0, 1) := by decide +kernel
theorem d_T_overwrite_4 : decode b_T_overwrite 4 = .ok (.arraylength, 1) := by decide +kernel
theorem d_T_overwrite_5 : decode b_T_overwrite 5 = .ok (.if_icmp .ge 21, 3) := by decide +kernel
theorem d_T_overwrite_8 : decode b_T_overwrite 8 = .ok (.iload_n 2, 1) := by decide +kernel
theorem d_T_overwrite_9 : decode b_T_overwrite 9 = .ok (.aload_n 1, 1) := by decide +kernel
theorem d_T_overwrite_10 : decode b_T_overwrite 10 = .ok (.arraylength, 1) := by decide +kernel
theorem d_T_overwrite_11 : decode b_T_overwrite 11 = .ok (.if_icmp .ge 15, 3) := by decide +kernel
theorem d_T_overwrite_14 : decode b_T_overwrite 14 = .ok (.aload_n 0, 1) := by decide +kernel
theorem d_T_overwrite_15 : decode b_T_overwrite 15 = .ok (.iload_n 2, 1) := by decide +kernel
theorem d_T_overwrite_16 : decode b_T_overwrite 16 = .ok (.aload_n 1, 1) := by decide +kernel
theorem d_T_overwrite_17 : decode b_T_overwrite 17 = .ok (.iload_n 2, 1) := by decide +kernel
theorem d_T_overwrite_18 : decode b_T_overwrite 18 = .ok (.iaload, 1) := by decide +kernel
theorem d_T_overwrite_19 : decode b_T_overwrite 19 = .ok (.iastore, 1) := by decide +kernel
theorem d_T_overwrite_20 : decode b_T_overwrite 20 = .ok (.iinc 2 1, 3) := by decide +kernel
theorem d_T_overwrite_23 : decode b_T_overwrite 23 = .ok (.goto (-21), 3) := by decide +kernel
theorem d_T_overwrite_26 : decode b_T_overwrite 26 = .ok (.return_, 1) := by decide +kernel
theorem d_T_addTo_0 : decode b_T_addTo 0 = .ok (.iconst 0, 1) := by decide +kernel
theorem d_T_addTo_1 : decode b_T_addTo 1 = .ok (.istore_n 2, 1) := by decide +kernel
theorem d_T_addTo_2 : decode b_T_addTo 2 = .ok (.iload_n 2, 1) := by decide +kernel
theorem d_T_addTo_3 : decode b_T_addTo 3 = .ok (.aload_n 0, 1) := by decide +kernel
theorem d_T_addTo_4 : decode b_T_addTo 4 = .ok (.arraylength, 1) := by decide +kernel
theorem d_T_addTo_5 : decode b_T_addTo 5 = .ok (.if_icmp .ge 24, 3) := by decide +kernel
theorem d_T_addTo_8 : decode b_T_addTo 8 = .ok (.iload_n 2, 1) := by decide +kernel
theorem d_T_addTo_9 : decode b_T_addTo 9 = .ok (.aload_n 1, 1) := by decide +kernel
theorem d_T_addTo_10 : decode b_T_addTo 10 = .ok (.arraylength, 1) := by decide +kernel
theorem d_T_addTo_11 : decode b_T_addTo 11 = .ok (.if_icmp .ge 18, 3) := by decide +kernel
theorem d_T_addTo_14 : decode b_T_addTo 14 = .ok (.aload_n 0, 1) := by decide +kernel
theorem d_T_addTo_15 : decode b_T_addTo 15 = .ok (.iload_n 2, 1) := by decide +kernel
theorem d_T_addTo_16 : decode b_T_addTo 16 = .ok (.dup2, 1) := by decide +kernel
theorem d_T_addTo_17 : decode b_T_addTo 17 = .ok (.iaload, 1) := by decide +kernel
theorem d_T_addTo_18 : decode b_T_addTo 18 = .ok (.aload_n 1, 1) := by decide +kernel
theorem d_T_addTo_19 : decode b_T_addTo 19 = .ok (.iload_n 2, 1) := by decide +kernel
theorem d_T_addTo_20 : decode b_T_addTo 20 = .ok (.iaload, 1) := by decide +kernel
theorem d_T_addTo_21 : decode b_T_addTo 21 = .ok (.iadd, 1) := by decide +kernel
theorem d_T_addTo_22 : decode b_T_addTo 22 = .ok (.iastore, 1) := by decide +kernel
theorem d_T_addTo_23 : decode b_T_addTo 23 = .ok (.iinc 2 1, 3) := by decide +kernel
theorem d_T_addTo_26 : decode b_T_addTo 26 = .ok (.goto (-24), 3) := by decide +kernel
theorem d_T_addTo_29 : decode b_T_addTo 29 = .ok (.return_, 1) := by decide +kernel
