theorem dM_init_0 : decode cM_init 0 = .ok (.aload_n 0, 1) := by decide +kernel
theorem dM_init_1 : decode cM_init 1 = .ok (.invokespecial 1, 3) := by decide +kernel
theorem dM_init_4 : decode cM_init 4 = .ok (.aload_n 0, 1) := by decide +kernel
theorem dM_init_5 : decode cM_init 5 = .ok (.sipush 1000, 3) := by decide +kernel
theorem dM_init_8 : decode cM_init 8 = .ok (.newarray .int, 2) := by decide +kernel
theorem dM_init_10 : decode cM_init 10 = .ok (.putfield 7, 3) := by decide +kernel
theorem dM_init_13 : decode cM_init 13 = .ok (.aload_n 0, 1) := by decide +kernel
theorem dM_init_14 : decode cM_init 14 = .ok (.sipush 2100, 3) := by decide +kernel
theorem dM_init_17 : decode cM_init 17 = .ok (.newarray .int, 2) := by decide +kernel
theorem dM_init_19 : decode cM_init 19 = .ok (.putfield 13, 3) := by decide +kernel
theorem dM_init_22 : decode cM_init 22 = .ok (.aload_n 0, 1) := by decide +kernel
theorem dM_init_23 : decode cM_init 23 = .ok (.sipush 2100, 3) := by decide +kernel
theorem dM_init_26 : decode cM_init 26 = .ok (.newarray .int, 2) := by decide +kernel
theorem dM_init_28 : decode cM_init 28 = .ok (.putfield 16, 3) := by decide +kernel
theorem dM_init_31 : decode cM_init 31 = .ok (.aload_n 0, 1) := by decide +kernel
theorem dM_init_32 : decode cM_init 32 = .ok (.sipush 2100, 3) := by decide +kernel
theorem dM_init_35 : decode cM_init 35 = .ok (.newarray .int, 2) := by decide +kernel
theorem dM_init_37 : decode cM_init 37 = .ok (.putfield 19, 3) := by decide +kernel
theorem dM_init_40 : decode cM_init 40 = .ok (.aload_n 0, 1) := by decide +kernel
theorem dM_init_41 : decode cM_init 41 = .ok (.sipush 2100, 3) := by decide +kernel
theorem dM_init_44 : decode cM_init 44 = .ok (.newarray .int, 2) := by decide +kernel
theorem dM_init_46 : decode cM_init 46 = .ok (.putfield 22, 3) := by decide +kernel
theorem dM_init_49 : decode cM_init 49 = .ok (.aload_n 0, 1) := by decide +kernel
theorem dM_init_50 : decode cM_init 50 = .ok (.sipush 2100, 3) := by decide +kernel
theorem dM_init_53 : decode cM_init 53 = .ok (.newarray .int, 2) := by decide +kernel
theorem dM_init_55 : decode cM_init 55 = .ok (.putfield 25, 3) := by decide +kernel
theorem dM_init_58 : decode cM_init 58 = .ok (.aload_n 0, 1) := by decide +kernel
theorem dM_init_59 : decode cM_init 59 = .ok (.sipush 2100, 3) := by decide +kernel
theorem dM_init_62 : decode cM_init 62 = .ok (.newarray .int, 2) := by decide +kernel
theorem dM_init_64 : decode cM_init 64 = .ok (.putfield 28, 3) := by decide +kernel
theorem dM_init_67 : decode cM_init 67 = .ok (.aload_n 0, 1) := by decide +kernel
theorem dM_init_68 : decode cM_init 68 = .ok (.sipush 2100, 3) := by decide +kernel
theorem dM_init_71 : decode cM_init 71 = .ok (.newarray .int, 2) := by decide +kernel
theorem dM_init_73 : decode cM_init 73 = .ok (.putfield 31, 3) := by decide +kernel
theorem dM_init_76 : decode cM_init 76 = .ok (.aload_n 0, 1) := by decide +kernel
theorem dM_init_77 : decode cM_init 77 = .ok (.ldc 34, 2) := by decide +kernel
theorem dM_init_79 : decode cM_init 79 = .ok (.putfield 36, 3) := by decide +kernel
theorem dM_init_82 : decode cM_init 82 = .ok (.aload_n 0, 1) := by decide +kernel
theorem dM_init_83 : decode cM_init 83 = .ok (.ldc 40, 2) := by decide +kernel
theorem dM_init_85 : decode cM_init 85 = .ok (.putfield 42, 3) := by decide +kernel
theorem dM_init_88 : decode cM_init 88 = .ok (.aload_n 0, 1) := by decide +kernel
theorem dM_init_89 : decode cM_init 89 = .ok (.ldc 45, 2) := by decide +kernel
theorem dM_init_91 : decode cM_init 91 = .ok (.putfield 47, 3) := by decide +kernel
theorem dM_init_94 : decode cM_init 94 = .ok (.return_, 1) := by decide +kernel
theorem dM_feed_0 : decode cM_feed 0 = .ok (.aload_n 0, 1) := by decide +kernel
theorem dM_feed_1 : decode cM_feed 1 = .ok (.getfield 54, 3) := by decide +kernel
theorem dM_feed_4 : decode cM_feed 4 = .ok (.bipush 20, 2) := by decide +kernel
theorem dM_feed_6 : decode cM_feed 6 = .ok (.iadd, 1) := by decide +kernel
theorem dM_feed_7 : decode cM_feed 7 = .ok (.sipush 1000, 3) := by decide +kernel
theorem dM_feed_10 : decode cM_feed 10 = .ok (.if_icmp .le 5, 3) := by decide +kernel
theorem dM_feed_13 : decode cM_feed 13 = .ok (.iconst 0, 1) := by decide +kernel
theorem dM_feed_14 : decode cM_feed 14 = .ok (.ireturn, 1) := by decide +kernel
theorem dM_feed_15 : decode cM_feed 15 = .ok (.aload_n 0, 1) := by decide +kernel
theorem dM_feed_16 : decode cM_feed 16 = .ok (.iload_n 1, 1) := by decide +kernel
theorem dM_feed_17 : decode cM_feed 17 = .ok (.invokevirtual 57, 3) := by decide +kernel
theorem dM_feed_20 : decode cM_feed 20 = .ok (.aload_n 0, 1) := by decide +kernel
theorem dM_feed_21 : decode cM_feed 21 = .ok (.iload_n 2, 1) := by decide +kernel
theorem dM_feed_22 : decode cM_feed 22 = .ok (.invokevirtual 57, 3) := by decide +kernel
theorem dM_feed_25 : decode cM_feed 25 = .ok (.aload_n 0, 1) := by decide +kernel
theorem dM_feed_26 : decode cM_feed 26 = .ok (.iload_n 3, 1) := by decide +kernel
theorem dM_feed_27 : decode cM_feed 27 = .ok (.invokevirtual 57, 3) := by decide +kernel
theorem dM_feed_30 : decode cM_feed 30 = .ok (.aload_n 0, 1) := by decide +kernel
theorem dM_feed_31 : decode cM_feed 31 = .ok (.iload 4, 2) := by decide +kernel
theorem dM_feed_33 : decode cM_feed 33 = .ok (.invokevirtual 57, 3) := by decide +kernel
theorem dM_feed_36 : decode cM_feed 36 = .ok (.aload_n 0, 1) := by decide +kernel
theorem dM_feed_37 : decode cM_feed 37 = .ok (.iload 5, 2) := by decide +kernel
theorem dM_feed_39 : decode cM_feed 39 = .ok (.invokevirtual 57, 3) := by decide +kernel
theorem dM_feed_42 : decode cM_feed 42 = .ok (.iconst 1, 1) := by decide +kernel
theorem dM_feed_43 : decode cM_feed 43 = .ok (.ireturn, 1) := by decide +kernel
theorem dM_put_0 : decode cM_put 0 = .ok (.bipush 24, 2) := by decide +kernel
theorem dM_put_2 : decode cM_put 2 = .ok (.istore_n 2, 1) := by decide +kernel
theorem dM_put_3 : decode cM_put 3 = .ok (.iload_n 2, 1) := by decide +kernel
theorem dM_put_4 : decode cM_put 4 = .ok (.ifCond .lt 35, 3) := by decide +kernel
theorem dM_put_7 : decode cM_put 7 = .ok (.aload_n 0, 1) := by decide +kernel
theorem dM_put_8 : decode cM_put 8 = .ok (.getfield 7, 3) := by decide +kernel
theorem dM_put_11 : decode cM_put 11 = .ok (.aload_n 0, 1) := by decide +kernel
theorem dM_put_12 : decode cM_put 12 = .ok (.getfield 54, 3) := by decide +kernel
theorem dM_put_15 : decode cM_put 15 = .ok (.iload_n 1, 1) := by decide +kernel
theorem dM_put_16 : decode cM_put 16 = .ok (.iload_n 2, 1) := by decide +kernel
theorem dM_put_17 : decode cM_put 17 = .ok (.ishr, 1) := by decide +kernel
theorem dM_put_18 : decode cM_put 18 = .ok (.sipush 255, 3) := by decide +kernel
theorem dM_put_21 : decode cM_put 21 = .ok (.iand, 1) := by decide +kernel
theorem dM_put_22 : decode cM_put 22 = .ok (.iastore, 1) := by decide +kernel
theorem dM_put_23 : decode cM_put 23 = .ok (.aload_n 0, 1) := by decide +kernel
theorem dM_put_24 : decode cM_put 24 = .ok (.dup, 1) := by decide +kernel
theorem dM_put_25 : decode cM_put 25 = .ok (.getfield 54, 3) := by decide +kernel
theorem dM_put_28 : decode cM_put 28 = .ok (.iconst 1, 1) := by decide +kernel
theorem dM_put_29 : decode cM_put 29 = .ok (.iadd, 1) := by decide +kernel
theorem dM_put_30 : decode cM_put 30 = .ok (.putfield 54, 3) := by decide +kernel
theorem dM_put_33 : decode cM_put 33 = .ok (.iinc 2 (-8), 3) := by decide +kernel
theorem dM_put_36 : decode cM_put 36 = .ok (.goto (-33), 3) := by decide +kernel
theorem dM_put_39 : decode cM_put 39 = .ok (.return_, 1) := by decide +kernel
theorem dM_end_0 : decode cM_end 0 = .ok (.iload_n 1, 1) := by decide +kernel
theorem dM_end_1 : decode cM_end 1 = .ok (.ifCond .lt 11, 3) := by decide +kernel
theorem dM_end_4 : decode cM_end 4 = .ok (.iload_n 1, 1) := by decide +kernel
theorem dM_end_5 : decode cM_end 5 = .ok (.aload_n 0, 1) := by decide +kernel
theorem dM_end_6 : decode cM_end 6 = .ok (.getfield 54, 3) := by decide +kernel
theorem dM_end_9 : decode cM_end 9 = .ok (.if_icmp .le 5, 3) := by decide +kernel
theorem dM_end_12 : decode cM_end 12 = .ok (.iconst 0, 1) := by decide +kernel
theorem dM_end_13 : decode cM_end 13 = .ok (.ireturn, 1) := by decide +kernel
theorem dM_end_14 : decode cM_end 14 = .ok (.aload_n 0, 1) := by decide +kernel
theorem dM_end_15 : decode cM_end 15 = .ok (.iload_n 1, 1) := by decide +kernel
theorem dM_end_16 : decode cM_end 16 = .ok (.putfield 54, 3) := by decide +kernel
theorem dM_end_19 : decode cM_end 19 = .ok (.iconst 1, 1) := by decide +kernel
theorem dM_end_20 : decode cM_end 20 = .ok (.ireturn, 1) := by decide +kernel
theorem dM_read_0 : decode cM_read 0 = .ok (.aload_n 0, 1) := by decide +kernel
theorem dM_read_1 : decode cM_read 1 = .ok (.iconst 0, 1) := by decide +kernel
theorem dM_read_2 : decode cM_read 2 = .ok (.putfield 81, 3) := by decide +kernel
theorem dM_read_5 : decode cM_read 5 = .ok (.aload_n 0, 1) := by decide +kernel
theorem dM_read_6 : decode cM_read 6 = .ok (.iconst 0, 1) := by decide +kernel
theorem dM_read_7 : decode cM_read 7 = .ok (.putfield 84, 3) := by decide +kernel
theorem dM_read_10 : decode cM_read 10 = .ok (.aload_n 0, 1) := by decide +kernel
theorem dM_read_11 : decode cM_read 11 = .ok (.iconst 0, 1) := by decide +kernel
theorem dM_read_12 : decode cM_read 12 = .ok (.putfield 71, 3) := by decide +kernel
theorem dM_read_15 : decode cM_read 15 = .ok (.aload_n 0, 1) := by decide +kernel
theorem dM_read_16 : decode cM_read 16 = .ok (.iconst 0, 1) := by decide +kernel
theorem dM_read_17 : decode cM_read 17 = .ok (.putfield 78, 3) := by decide +kernel
theorem dM_read_20 : decode cM_read 20 = .ok (.aload_n 0, 1) := by decide +kernel
theorem dM_read_21 : decode cM_read 21 = .ok (.invokevirtual 166, 3) := by decide +kernel
theorem dM_read_24 : decode cM_read 24 = .ok (.aload_n 0, 1) := by decide +kernel
theorem dM_read_25 : decode cM_read 25 = .ok (.getfield 71, 3) := by decide +kernel
theorem dM_read_28 : decode cM_read 28 = .ok (.aload_n 0, 1) := by decide +kernel
theorem dM_read_29 : decode cM_read 29 = .ok (.getfield 54, 3) := by decide +kernel
theorem dM_read_32 : decode cM_read 32 = .ok (.if_icmp .ge 7, 3) := by decide +kernel
theorem dM_read_35 : decode cM_read 35 = .ok (.iconst 1, 1) := by decide +kernel
theorem dM_read_36 : decode cM_read 36 = .ok (.goto 4, 3) := by decide +kernel
theorem dM_read_39 : decode cM_read 39 = .ok (.iconst 0, 1) := by decide +kernel
theorem dM_read_40 : decode cM_read 40 = .ok (.istore_n 1, 1) := by decide +kernel
theorem dM_read_41 : decode cM_read 41 = .ok (.iload_n 1, 1) := by decide +kernel
theorem dM_read_42 : decode cM_read 42 = .ok (.ifCond .eq 69, 3) := by decide +kernel
theorem dM_read_45 : decode cM_read 45 = .ok (.aload_n 0, 1) := by decide +kernel
theorem dM_read_46 : decode cM_read 46 = .ok (.invokevirtual 169, 3) := by decide +kernel
theorem dM_read_49 : decode cM_read 49 = .ok (.aload_n 0, 1) := by decide +kernel
theorem dM_read_50 : decode cM_read 50 = .ok (.getfield 123, 3) := by decide +kernel
theorem dM_read_53 : decode cM_read 53 = .ok (.bipush 6, 2) := by decide +kernel
theorem dM_read_55 : decode cM_read 55 = .ok (.if_icmp .ne 20, 3) := by decide +kernel
theorem dM_read_58 : decode cM_read 58 = .ok (.aload_n 0, 1) := by decide +kernel
theorem dM_read_59 : decode cM_read 59 = .ok (.bipush 6, 2) := by decide +kernel
theorem dM_read_61 : decode cM_read 61 = .ok (.iconst 0, 1) := by decide +kernel
theorem dM_read_62 : decode cM_read 62 = .ok (.invokevirtual 157, 3) := by decide +kernel
theorem dM_read_65 : decode cM_read 65 = .ok (.aload_n 0, 1) := by decide +kernel
theorem dM_read_66 : decode cM_read 66 = .ok (.iconst 0, 1) := by decide +kernel
theorem dM_read_67 : decode cM_read 67 = .ok (.putfield 54, 3) := by decide +kernel
theorem dM_read_70 : decode cM_read 70 = .ok (.aload_n 0, 1) := by decide +kernel
theorem dM_read_71 : decode cM_read 71 = .ok (.getfield 81, 3) := by decide +kernel
theorem dM_read_74 : decode cM_read 74 = .ok (.ireturn, 1) := by decide +kernel
theorem dM_read_75 : decode cM_read 75 = .ok (.aload_n 0, 1) := by decide +kernel
theorem dM_read_76 : decode cM_read 76 = .ok (.invokevirtual 172, 3) := by decide +kernel
theorem dM_read_79 : decode cM_read 79 = .ok (.aload_n 0, 1) := by decide +kernel
theorem dM_read_80 : decode cM_read 80 = .ok (.aload_n 0, 1) := by decide +kernel
theorem dM_read_81 : decode cM_read 81 = .ok (.getfield 120, 3) := by decide +kernel
theorem dM_read_84 : decode cM_read 84 = .ok (.putfield 71, 3) := by decide +kernel
theorem dM_read_87 : decode cM_read 87 = .ok (.aload_n 0, 1) := by decide +kernel
theorem dM_read_88 : decode cM_read 88 = .ok (.invokevirtual 166, 3) := by decide +kernel
theorem dM_read_91 : decode cM_read 91 = .ok (.aload_n 0, 1) := by decide +kernel
theorem dM_read_92 : decode cM_read 92 = .ok (.getfield 71, 3) := by decide +kernel
theorem dM_read_95 : decode cM_read 95 = .ok (.aload_n 0, 1) := by decide +kernel
theorem dM_read_96 : decode cM_read 96 = .ok (.getfield 54, 3) := by decide +kernel
theorem dM_read_99 : decode cM_read 99 = .ok (.if_icmp .ge 7, 3) := by decide +kernel
theorem dM_read_102 : decode cM_read 102 = .ok (.iconst 1, 1) := by decide +kernel
theorem dM_read_103 : decode cM_read 103 = .ok (.goto 4, 3) := by decide +kernel
theorem dM_read_106 : decode cM_read 106 = .ok (.iconst 0, 1) := by decide +kernel
theorem dM_read_107 : decode cM_read 107 = .ok (.istore_n 1, 1) := by decide +kernel
theorem dM_read_108 : decode cM_read 108 = .ok (.goto (-67), 3) := by decide +kernel
theorem dM_read_111 : decode cM_read 111 = .ok (.aload_n 0, 1) := by decide +kernel
theorem dM_read_112 : decode cM_read 112 = .ok (.iconst 5, 1) := by decide +kernel
theorem dM_read_113 : decode cM_read 113 = .ok (.iconst 0, 1) := by decide +kernel
theorem dM_read_114 : decode cM_read 114 = .ok (.invokevirtual 157, 3) := by decide +kernel
theorem dM_read_117 : decode cM_read 117 = .ok (.aload_n 0, 1) := by decide +kernel
theorem dM_read_118 : decode cM_read 118 = .ok (.iconst 0, 1) := by decide +kernel
theorem dM_read_119 : decode cM_read 119 = .ok (.putfield 54, 3) := by decide +kernel
theorem dM_read_122 : decode cM_read 122 = .ok (.aload_n 0, 1) := by decide +kernel
theorem dM_read_123 : decode cM_read 123 = .ok (.getfield 81, 3) := by decide +kernel
theorem dM_read_126 : decode cM_read 126 = .ok (.ireturn, 1) := by decide +kernel
theorem dM_skip_0 : decode cM_skip 0 = .ok (.iconst 1, 1) := by decide +kernel
theorem dM_skip_1 : decode cM_skip 1 = .ok (.istore_n 1, 1) := by decide +kernel
theorem dM_skip_2 : decode cM_skip 2 = .ok (.iload_n 1, 1) := by decide +kernel
theorem dM_skip_3 : decode cM_skip 3 = .ok (.ifCond .eq 158, 3) := by decide +kernel
theorem dM_skip_6 : decode cM_skip 6 = .ok (.aload_n 0, 1) := by decide +kernel
theorem dM_skip_7 : decode cM_skip 7 = .ok (.aload_n 0, 1) := by decide +kernel
theorem dM_skip_8 : decode cM_skip 8 = .ok (.getfield 71, 3) := by decide +kernel
theorem dM_skip_11 : decode cM_skip 11 = .ok (.invokevirtual 74, 3) := by decide +kernel
theorem dM_skip_14 : decode cM_skip 14 = .ok (.istore_n 2, 1) := by decide +kernel
theorem dM_skip_15 : decode cM_skip 15 = .ok (.iload_n 2, 1) := by decide +kernel
theorem dM_skip_16 : decode cM_skip 16 = .ok (.bipush 47, 2) := by decide +kernel
theorem dM_skip_18 : decode cM_skip 18 = .ok (.if_icmp .ne 22, 3) := by decide +kernel
theorem dM_skip_21 : decode cM_skip 21 = .ok (.aload_n 0, 1) := by decide +kernel
theorem dM_skip_22 : decode cM_skip 22 = .ok (.aload_n 0, 1) := by decide +kernel
theorem dM_skip_23 : decode cM_skip 23 = .ok (.getfield 71, 3) := by decide +kernel
theorem dM_skip_26 : decode cM_skip 26 = .ok (.iconst 1, 1) := by decide +kernel
theorem dM_skip_27 : decode cM_skip 27 = .ok (.iadd, 1) := by decide +kernel
theorem dM_skip_28 : decode cM_skip 28 = .ok (.invokevirtual 74, 3) := by decide +kernel
theorem dM_skip_31 : decode cM_skip 31 = .ok (.bipush 47, 2) := by decide +kernel
theorem dM_skip_33 : decode cM_skip 33 = .ok (.if_icmp .ne 7, 3) := by decide +kernel
theorem dM_skip_36 : decode cM_skip 36 = .ok (.iconst 1, 1) := by decide +kernel
theorem dM_skip_37 : decode cM_skip 37 = .ok (.goto 4, 3) := by decide +kernel
theorem dM_skip_40 : decode cM_skip 40 = .ok (.iconst 0, 1) := by decide +kernel
theorem dM_skip_41 : decode cM_skip 41 = .ok (.istore_n 3, 1) := by decide +kernel
theorem dM_skip_42 : decode cM_skip 42 = .ok (.iload_n 3, 1) := by decide +kernel
theorem dM_skip_43 : decode cM_skip 43 = .ok (.ifCond .eq 40, 3) := by decide +kernel
theorem dM_skip_46 : decode cM_skip 46 = .ok (.aload_n 0, 1) := by decide +kernel
theorem dM_skip_47 : decode cM_skip 47 = .ok (.getfield 71, 3) := by decide +kernel
theorem dM_skip_50 : decode cM_skip 50 = .ok (.aload_n 0, 1) := by decide +kernel
theorem dM_skip_51 : decode cM_skip 51 = .ok (.getfield 54, 3) := by decide +kernel
theorem dM_skip_54 : decode cM_skip 54 = .ok (.if_icmp .ge 29, 3) := by decide +kernel
theorem dM_skip_57 : decode cM_skip 57 = .ok (.aload_n 0, 1) := by decide +kernel
theorem dM_skip_58 : decode cM_skip 58 = .ok (.aload_n 0, 1) := by decide +kernel
theorem dM_skip_59 : decode cM_skip 59 = .ok (.getfield 71, 3) := by decide +kernel
theorem dM_skip_62 : decode cM_skip 62 = .ok (.invokevirtual 74, 3) := by decide +kernel
theorem dM_skip_65 : decode cM_skip 65 = .ok (.bipush 10, 2) := by decide +kernel
theorem dM_skip_67 : decode cM_skip 67 = .ok (.if_icmp .eq 16, 3) := by decide +kernel
theorem dM_skip_70 : decode cM_skip 70 = .ok (.aload_n 0, 1) := by decide +kernel
theorem dM_skip_71 : decode cM_skip 71 = .ok (.dup, 1) := by decide +kernel
theorem dM_skip_72 : decode cM_skip 72 = .ok (.getfield 71, 3) := by decide +kernel
theorem dM_skip_75 : decode cM_skip 75 = .ok (.iconst 1, 1) := by decide +kernel
theorem dM_skip_76 : decode cM_skip 76 = .ok (.iadd, 1) := by decide +kernel
theorem dM_skip_77 : decode cM_skip 77 = .ok (.putfield 71, 3) := by decide +kernel
theorem dM_skip_80 : decode cM_skip 80 = .ok (.goto (-38), 3) := by decide +kernel
theorem dM_skip_83 : decode cM_skip 83 = .ok (.iload_n 3, 1) := by decide +kernel
theorem dM_skip_84 : decode cM_skip 84 = .ok (.ifCond .ne 27, 3) := by decide +kernel
theorem dM_skip_87 : decode cM_skip 87 = .ok (.iload_n 2, 1) := by decide +kernel
theorem dM_skip_88 : decode cM_skip 88 = .ok (.bipush 9, 2) := by decide +kernel
theorem dM_skip_90 : decode cM_skip 90 = .ok (.if_icmp .eq 21, 3) := by decide +kernel
theorem dM_skip_93 : decode cM_skip 93 = .ok (.iload_n 2, 1) := by decide +kernel
theorem dM_skip_94 : decode cM_skip 94 = .ok (.bipush 10, 2) := by decide +kernel
theorem dM_skip_96 : decode cM_skip 96 = .ok (.if_icmp .eq 15, 3) := by decide +kernel
theorem dM_skip_99 : decode cM_skip 99 = .ok (.iload_n 2, 1) := by decide +kernel
theorem dM_skip_100 : decode cM_skip 100 = .ok (.bipush 13, 2) := by decide +kernel
theorem dM_skip_102 : decode cM_skip 102 = .ok (.if_icmp .eq 9, 3) := by decide +kernel
theorem dM_skip_105 : decode cM_skip 105 = .ok (.iload_n 2, 1) := by decide +kernel
theorem dM_skip_106 : decode cM_skip 106 = .ok (.bipush 32, 2) := by decide +kernel
theorem dM_skip_108 : decode cM_skip 108 = .ok (.if_icmp .ne 7, 3) := by decide +kernel
theorem dM_skip_111 : decode cM_skip 111 = .ok (.iconst 1, 1) := by decide +kernel
theorem dM_skip_112 : decode cM_skip 112 = .ok (.goto 4, 3) := by decide +kernel
theorem dM_skip_115 : decode cM_skip 115 = .ok (.iconst 0, 1) := by decide +kernel
theorem dM_skip_116 : decode cM_skip 116 = .ok (.istore_n 1, 1) := by decide +kernel
theorem dM_skip_117 : decode cM_skip 117 = .ok (.iload_n 1, 1) := by decide +kernel
theorem dM_skip_118 : decode cM_skip 118 = .ok (.ifCond .eq (-116), 3) := by decide +kernel
theorem dM_skip_121 : decode cM_skip 121 = .ok (.iload_n 3, 1) := by decide +kernel
theorem dM_skip_122 : decode cM_skip 122 = .ok (.ifCond .eq 6, 3) := by decide +kernel
theorem dM_skip_125 : decode cM_skip 125 = .ok (.goto (-123), 3) := by decide +kernel
theorem dM_skip_128 : decode cM_skip 128 = .ok (.aload_n 0, 1) := by decide +kernel
theorem dM_skip_129 : decode cM_skip 129 = .ok (.dup, 1) := by decide +kernel
theorem dM_skip_130 : decode cM_skip 130 = .ok (.getfield 78, 3) := by decide +kernel
theorem dM_skip_133 : decode cM_skip 133 = .ok (.iload_n 2, 1) := by decide +kernel
theorem dM_skip_134 : decode cM_skip 134 = .ok (.bipush 10, 2) := by decide +kernel
theorem dM_skip_136 : decode cM_skip 136 = .ok (.if_icmp .ne 7, 3) := by decide +kernel
theorem dM_skip_139 : decode cM_skip 139 = .ok (.iconst 1, 1) := by decide +kernel
theorem dM_skip_140 : decode cM_skip 140 = .ok (.goto 4, 3) := by decide +kernel
theorem dM_skip_143 : decode cM_skip 143 = .ok (.iconst 0, 1) := by decide +kernel
theorem dM_skip_144 : decode cM_skip 144 = .ok (.iadd, 1) := by decide +kernel
theorem dM_skip_145 : decode cM_skip 145 = .ok (.putfield 78, 3) := by decide +kernel
theorem dM_skip_148 : decode cM_skip 148 = .ok (.aload_n 0, 1) := by decide +kernel
theorem dM_skip_149 : decode cM_skip 149 = .ok (.dup, 1) := by decide +kernel
theorem dM_skip_150 : decode cM_skip 150 = .ok (.getfield 71, 3) := by decide +kernel
theorem dM_skip_153 : decode cM_skip 153 = .ok (.iconst 1, 1) := by decide +kernel
theorem dM_skip_154 : decode cM_skip 154 = .ok (.iadd, 1) := by decide +kernel
theorem dM_skip_155 : decode cM_skip 155 = .ok (.putfield 71, 3) := by decide +kernel
theorem dM_skip_158 : decode cM_skip 158 = .ok (.goto (-156), 3) := by decide +kernel
theorem dM_skip_161 : decode cM_skip 161 = .ok (.return_, 1) := by decide +kernel
theorem dM_see_0 : decode cM_see 0 = .ok (.iload_n 1, 1) := by decide +kernel
theorem dM_see_1 : decode cM_see 1 = .ok (.aload_n 0, 1) := by decide +kernel
theorem dM_see_2 : decode cM_see 2 = .ok (.getfield 54, 3) := by decide +kernel
theorem dM_see_5 : decode cM_see 5 = .ok (.if_icmp .ge 12, 3) := by decide +kernel
theorem dM_see_8 : decode cM_see 8 = .ok (.aload_n 0, 1) := by decide +kernel
theorem dM_see_9 : decode cM_see 9 = .ok (.getfield 7, 3) := by decide +kernel
theorem dM_see_12 : decode cM_see 12 = .ok (.iload_n 1, 1) := by decide +kernel
theorem dM_see_13 : decode cM_see 13 = .ok (.iaload, 1) := by decide +kernel
theorem dM_see_14 : decode cM_see 14 = .ok (.goto 4, 3) := by decide +kernel
theorem dM_see_17 : decode cM_see 17 = .ok (.iconst (-1), 1) := by decide +kernel
theorem dM_see_18 : decode cM_see 18 = .ok (.ireturn, 1) := by decide +kernel
theorem dM_readToken_0 : decode cM_readToken 0 = .ok (.aload_n 0, 1) := by decide +kernel
theorem dM_readToken_1 : decode cM_readToken 1 = .ok (.aload_n 0, 1) := by decide +kernel
theorem dM_readToken_2 : decode cM_readToken 2 = .ok (.getfield 71, 3) := by decide +kernel
theorem dM_readToken_5 : decode cM_readToken 5 = .ok (.invokevirtual 74, 3) := by decide +kernel
theorem dM_readToken_8 : decode cM_readToken 8 = .ok (.istore_n 1, 1) := by decide +kernel
theorem dM_readToken_9 : decode cM_readToken 9 = .ok (.aload_n 0, 1) := by decide +kernel
theorem dM_readToken_10 : decode cM_readToken 10 = .ok (.iconst 0, 1) := by decide +kernel
theorem dM_readToken_11 : decode cM_readToken 11 = .ok (.putfield 131, 3) := by decide +kernel
theorem dM_readToken_14 : decode cM_readToken 14 = .ok (.iload_n 1, 1) := by decide +kernel
theorem dM_readToken_15 : decode cM_readToken 15 = .ok (.invokestatic 65, 3) := by decide +kernel
theorem dM_readToken_18 : decode cM_readToken 18 = .ok (.ifCond .eq 10, 3) := by decide +kernel
theorem dM_readToken_21 : decode cM_readToken 21 = .ok (.aload_n 0, 1) := by decide +kernel
theorem dM_readToken_22 : decode cM_readToken 22 = .ok (.invokevirtual 141, 3) := by decide +kernel
theorem dM_readToken_25 : decode cM_readToken 25 = .ok (.goto 110, 3) := by decide +kernel
theorem dM_readToken_28 : decode cM_readToken 28 = .ok (.iload_n 1, 1) := by decide +kernel
theorem dM_readToken_29 : decode cM_readToken 29 = .ok (.invokestatic 68, 3) := by decide +kernel
theorem dM_readToken_32 : decode cM_readToken 32 = .ok (.ifCond .eq 16, 3) := by decide +kernel
theorem dM_readToken_35 : decode cM_readToken 35 = .ok (.aload_n 0, 1) := by decide +kernel
theorem dM_readToken_36 : decode cM_readToken 36 = .ok (.aload_n 0, 1) := by decide +kernel
theorem dM_readToken_37 : decode cM_readToken 37 = .ok (.getfield 71, 3) := by decide +kernel
theorem dM_readToken_40 : decode cM_readToken 40 = .ok (.bipush 10, 2) := by decide +kernel
theorem dM_readToken_42 : decode cM_readToken 42 = .ok (.invokevirtual 144, 3) := by decide +kernel
theorem dM_readToken_45 : decode cM_readToken 45 = .ok (.goto 90, 3) := by decide +kernel
theorem dM_readToken_48 : decode cM_readToken 48 = .ok (.iload_n 1, 1) := by decide +kernel
theorem dM_readToken_49 : decode cM_readToken 49 = .ok (.bipush 35, 2) := by decide +kernel
theorem dM_readToken_51 : decode cM_readToken 51 = .ok (.if_icmp .ne 33, 3) := by decide +kernel
theorem dM_readToken_54 : decode cM_readToken 54 = .ok (.aload_n 0, 1) := by decide +kernel
theorem dM_readToken_55 : decode cM_readToken 55 = .ok (.aload_n 0, 1) := by decide +kernel
theorem dM_readToken_56 : decode cM_readToken 56 = .ok (.getfield 71, 3) := by decide +kernel
theorem dM_readToken_59 : decode cM_readToken 59 = .ok (.iconst 1, 1) := by decide +kernel
theorem dM_readToken_60 : decode cM_readToken 60 = .ok (.iadd, 1) := by decide +kernel
theorem dM_readToken_61 : decode cM_readToken 61 = .ok (.invokevirtual 74, 3) := by decide +kernel
theorem dM_readToken_64 : decode cM_readToken 64 = .ok (.bipush 88, 2) := by decide +kernel
theorem dM_readToken_66 : decode cM_readToken 66 = .ok (.if_icmp .ne 18, 3) := by decide +kernel
theorem dM_readToken_69 : decode cM_readToken 69 = .ok (.aload_n 0, 1) := by decide +kernel
theorem dM_readToken_70 : decode cM_readToken 70 = .ok (.aload_n 0, 1) := by decide +kernel
theorem dM_readToken_71 : decode cM_readToken 71 = .ok (.getfield 71, 3) := by decide +kernel
theorem dM_readToken_74 : decode cM_readToken 74 = .ok (.iconst 2, 1) := by decide +kernel
theorem dM_readToken_75 : decode cM_readToken 75 = .ok (.iadd, 1) := by decide +kernel
theorem dM_readToken_76 : decode cM_readToken 76 = .ok (.bipush 16, 2) := by decide +kernel
theorem dM_readToken_78 : decode cM_readToken 78 = .ok (.invokevirtual 144, 3) := by decide +kernel
theorem dM_readToken_81 : decode cM_readToken 81 = .ok (.goto 54, 3) := by decide +kernel
theorem dM_readToken_84 : decode cM_readToken 84 = .ok (.iload_n 1, 1) := by decide +kernel
theorem dM_readToken_85 : decode cM_readToken 85 = .ok (.bipush 35, 2) := by decide +kernel
theorem dM_readToken_87 : decode cM_readToken 87 = .ok (.if_icmp .ne 18, 3) := by decide +kernel
theorem dM_readToken_90 : decode cM_readToken 90 = .ok (.aload_n 0, 1) := by decide +kernel
theorem dM_readToken_91 : decode cM_readToken 91 = .ok (.aload_n 0, 1) := by decide +kernel
theorem dM_readToken_92 : decode cM_readToken 92 = .ok (.getfield 71, 3) := by decide +kernel
theorem dM_readToken_95 : decode cM_readToken 95 = .ok (.iconst 1, 1) := by decide +kernel
theorem dM_readToken_96 : decode cM_readToken 96 = .ok (.iadd, 1) := by decide +kernel
theorem dM_readToken_97 : decode cM_readToken 97 = .ok (.bipush 8, 2) := by decide +kernel
theorem dM_readToken_99 : decode cM_readToken 99 = .ok (.invokevirtual 144, 3) := by decide +kernel
theorem dM_readToken_102 : decode cM_readToken 102 = .ok (.goto 33, 3) := by decide +kernel
theorem dM_readToken_105 : decode cM_readToken 105 = .ok (.iload_n 1, 1) := by decide +kernel
theorem dM_readToken_106 : decode cM_readToken 106 = .ok (.bipush 39, 2) := by decide +kernel
theorem dM_readToken_108 : decode cM_readToken 108 = .ok (.if_icmp .ne 10, 3) := by decide +kernel
theorem dM_readToken_111 : decode cM_readToken 111 = .ok (.aload_n 0, 1) := by decide +kernel
theorem dM_readToken_112 : decode cM_readToken 112 = .ok (.invokevirtual 148, 3) := by decide +kernel
theorem dM_readToken_115 : decode cM_readToken 115 = .ok (.goto 20, 3) := by decide +kernel
theorem dM_readToken_118 : decode cM_readToken 118 = .ok (.iload_n 1, 1) := by decide +kernel
theorem dM_readToken_119 : decode cM_readToken 119 = .ok (.bipush 34, 2) := by decide +kernel
theorem dM_readToken_121 : decode cM_readToken 121 = .ok (.if_icmp .ne 10, 3) := by decide +kernel
theorem dM_readToken_124 : decode cM_readToken 124 = .ok (.aload_n 0, 1) := by decide +kernel
theorem dM_readToken_125 : decode cM_readToken 125 = .ok (.invokevirtual 151, 3) := by decide +kernel
theorem dM_readToken_128 : decode cM_readToken 128 = .ok (.goto 7, 3) := by decide +kernel
theorem dM_readToken_131 : decode cM_readToken 131 = .ok (.aload_n 0, 1) := by decide +kernel
theorem dM_readToken_132 : decode cM_readToken 132 = .ok (.invokevirtual 154, 3) := by decide +kernel
theorem dM_readToken_135 : decode cM_readToken 135 = .ok (.return_, 1) := by decide +kernel
theorem dM_isLetter_0 : decode cM_isLetter 0 = .ok (.iload_n 0, 1) := by decide +kernel
theorem dM_isLetter_1 : decode cM_isLetter 1 = .ok (.invokestatic 61, 3) := by decide +kernel
theorem dM_isLetter_4 : decode cM_isLetter 4 = .ok (.ifCond .ne 15, 3) := by decide +kernel
theorem dM_isLetter_7 : decode cM_isLetter 7 = .ok (.iload_n 0, 1) := by decide +kernel
theorem dM_isLetter_8 : decode cM_isLetter 8 = .ok (.bipush 97, 2) := by decide +kernel
theorem dM_isLetter_10 : decode cM_isLetter 10 = .ok (.if_icmp .lt 13, 3) := by decide +kernel
theorem dM_isLetter_13 : decode cM_isLetter 13 = .ok (.iload_n 0, 1) := by decide +kernel
theorem dM_isLetter_14 : decode cM_isLetter 14 = .ok (.bipush 122, 2) := by decide +kernel
theorem dM_isLetter_16 : decode cM_isLetter 16 = .ok (.if_icmp .gt 7, 3) := by decide +kernel
theorem dM_isLetter_19 : decode cM_isLetter 19 = .ok (.iconst 1, 1) := by decide +kernel
theorem dM_isLetter_20 : decode cM_isLetter 20 = .ok (.goto 4, 3) := by decide +kernel
theorem dM_isLetter_23 : decode cM_isLetter 23 = .ok (.iconst 0, 1) := by decide +kernel
theorem dM_isLetter_24 : decode cM_isLetter 24 = .ok (.ireturn, 1) := by decide +kernel
theorem dM_isGreat_0 : decode cM_isGreat 0 = .ok (.iload_n 0, 1) := by decide +kernel
theorem dM_isGreat_1 : decode cM_isGreat 1 = .ok (.bipush 65, 2) := by decide +kernel
theorem dM_isGreat_3 : decode cM_isGreat 3 = .ok (.if_icmp .lt 13, 3) := by decide +kernel
theorem dM_isGreat_6 : decode cM_isGreat 6 = .ok (.iload_n 0, 1) := by decide +kernel
theorem dM_isGreat_7 : decode cM_isGreat 7 = .ok (.bipush 90, 2) := by decide +kernel
theorem dM_isGreat_9 : decode cM_isGreat 9 = .ok (.if_icmp .gt 7, 3) := by decide +kernel
theorem dM_isGreat_12 : decode cM_isGreat 12 = .ok (.iconst 1, 1) := by decide +kernel
theorem dM_isGreat_13 : decode cM_isGreat 13 = .ok (.goto 4, 3) := by decide +kernel
theorem dM_isGreat_16 : decode cM_isGreat 16 = .ok (.iconst 0, 1) := by decide +kernel
theorem dM_isGreat_17 : decode cM_isGreat 17 = .ok (.ireturn, 1) := by decide +kernel
theorem dM_readName_0 : decode cM_readName 0 = .ok (.aload_n 0, 1) := by decide +kernel
theorem dM_readName_1 : decode cM_readName 1 = .ok (.getfield 71, 3) := by decide +kernel
theorem dM_readName_4 : decode cM_readName 4 = .ok (.istore_n 1, 1) := by decide +kernel
theorem dM_readName_5 : decode cM_readName 5 = .ok (.aload_n 0, 1) := by decide +kernel
theorem dM_readName_6 : decode cM_readName 6 = .ok (.iload_n 1, 1) := by decide +kernel
theorem dM_readName_7 : decode cM_readName 7 = .ok (.invokevirtual 74, 3) := by decide +kernel
theorem dM_readName_10 : decode cM_readName 10 = .ok (.invokestatic 117, 3) := by decide +kernel
theorem dM_readName_13 : decode cM_readName 13 = .ok (.ifCond .eq 9, 3) := by decide +kernel
theorem dM_readName_16 : decode cM_readName 16 = .ok (.iinc 1 1, 3) := by decide +kernel
theorem dM_readName_19 : decode cM_readName 19 = .ok (.goto (-14), 3) := by decide +kernel
theorem dM_readName_22 : decode cM_readName 22 = .ok (.aload_n 0, 1) := by decide +kernel
theorem dM_readName_23 : decode cM_readName 23 = .ok (.iload_n 1, 1) := by decide +kernel
theorem dM_readName_24 : decode cM_readName 24 = .ok (.putfield 120, 3) := by decide +kernel
theorem dM_readName_27 : decode cM_readName 27 = .ok (.aload_n 0, 1) := by decide +kernel
theorem dM_readName_28 : decode cM_readName 28 = .ok (.iload_n 1, 1) := by decide +kernel
theorem dM_readName_29 : decode cM_readName 29 = .ok (.aload_n 0, 1) := by decide +kernel
theorem dM_readName_30 : decode cM_readName 30 = .ok (.getfield 71, 3) := by decide +kernel
theorem dM_readName_33 : decode cM_readName 33 = .ok (.isub, 1) := by decide +kernel
theorem dM_readName_34 : decode cM_readName 34 = .ok (.bipush 40, 2) := by decide +kernel
theorem dM_readName_36 : decode cM_readName 36 = .ok (.if_icmp .le 8, 3) := by decide +kernel
theorem dM_readName_39 : decode cM_readName 39 = .ok (.bipush 6, 2) := by decide +kernel
theorem dM_readName_41 : decode cM_readName 41 = .ok (.goto 4, 3) := by decide +kernel
theorem dM_readName_44 : decode cM_readName 44 = .ok (.iconst 0, 1) := by decide +kernel
theorem dM_readName_45 : decode cM_readName 45 = .ok (.putfield 123, 3) := by decide +kernel
theorem dM_readName_48 : decode cM_readName 48 = .ok (.return_, 1) := by decide +kernel
theorem dM_isNamed_0 : decode cM_isNamed 0 = .ok (.iload_n 0, 1) := by decide +kernel
theorem dM_isNamed_1 : decode cM_isNamed 1 = .ok (.invokestatic 65, 3) := by decide +kernel
theorem dM_isNamed_4 : decode cM_isNamed 4 = .ok (.ifCond .ne 22, 3) := by decide +kernel
theorem dM_isNamed_7 : decode cM_isNamed 7 = .ok (.iload_n 0, 1) := by decide +kernel
theorem dM_isNamed_8 : decode cM_isNamed 8 = .ok (.invokestatic 68, 3) := by decide +kernel
theorem dM_isNamed_11 : decode cM_isNamed 11 = .ok (.ifCond .ne 15, 3) := by decide +kernel
theorem dM_isNamed_14 : decode cM_isNamed 14 = .ok (.iload_n 0, 1) := by decide +kernel
theorem dM_isNamed_15 : decode cM_isNamed 15 = .ok (.bipush 46, 2) := by decide +kernel
theorem dM_isNamed_17 : decode cM_isNamed 17 = .ok (.if_icmp .eq 9, 3) := by decide +kernel
theorem dM_isNamed_20 : decode cM_isNamed 20 = .ok (.iload_n 0, 1) := by decide +kernel
theorem dM_isNamed_21 : decode cM_isNamed 21 = .ok (.bipush 95, 2) := by decide +kernel
theorem dM_isNamed_23 : decode cM_isNamed 23 = .ok (.if_icmp .ne 7, 3) := by decide +kernel
theorem dM_isNamed_26 : decode cM_isNamed 26 = .ok (.iconst 1, 1) := by decide +kernel
theorem dM_isNamed_27 : decode cM_isNamed 27 = .ok (.goto 4, 3) := by decide +kernel
theorem dM_isNamed_30 : decode cM_isNamed 30 = .ok (.iconst 0, 1) := by decide +kernel
theorem dM_isNamed_31 : decode cM_isNamed 31 = .ok (.ireturn, 1) := by decide +kernel
theorem dM_isDigit_0 : decode cM_isDigit 0 = .ok (.iload_n 0, 1) := by decide +kernel
theorem dM_isDigit_1 : decode cM_isDigit 1 = .ok (.bipush 48, 2) := by decide +kernel
theorem dM_isDigit_3 : decode cM_isDigit 3 = .ok (.if_icmp .lt 13, 3) := by decide +kernel
theorem dM_isDigit_6 : decode cM_isDigit 6 = .ok (.iload_n 0, 1) := by decide +kernel
theorem dM_isDigit_7 : decode cM_isDigit 7 = .ok (.bipush 57, 2) := by decide +kernel
theorem dM_isDigit_9 : decode cM_isDigit 9 = .ok (.if_icmp .gt 7, 3) := by decide +kernel
theorem dM_isDigit_12 : decode cM_isDigit 12 = .ok (.iconst 1, 1) := by decide +kernel
theorem dM_isDigit_13 : decode cM_isDigit 13 = .ok (.goto 4, 3) := by decide +kernel
theorem dM_isDigit_16 : decode cM_isDigit 16 = .ok (.iconst 0, 1) := by decide +kernel
theorem dM_isDigit_17 : decode cM_isDigit 17 = .ok (.ireturn, 1) := by decide +kernel
theorem dM_readDigits_0 : decode cM_readDigits 0 = .ok (.lconst 0, 1) := by decide +kernel
theorem dM_readDigits_1 : decode cM_readDigits 1 = .ok (.lstore_n 3, 1) := by decide +kernel
theorem dM_readDigits_2 : decode cM_readDigits 2 = .ok (.iload_n 1, 1) := by decide +kernel
theorem dM_readDigits_3 : decode cM_readDigits 3 = .ok (.istore 5, 2) := by decide +kernel
theorem dM_readDigits_5 : decode cM_readDigits 5 = .ok (.aload_n 0, 1) := by decide +kernel
theorem dM_readDigits_6 : decode cM_readDigits 6 = .ok (.iload 5, 2) := by decide +kernel
theorem dM_readDigits_8 : decode cM_readDigits 8 = .ok (.invokevirtual 74, 3) := by decide +kernel
theorem dM_readDigits_11 : decode cM_readDigits 11 = .ok (.invokestatic 126, 3) := by decide +kernel
theorem dM_readDigits_14 : decode cM_readDigits 14 = .ok (.istore 6, 2) := by decide +kernel
theorem dM_readDigits_16 : decode cM_readDigits 16 = .ok (.iload 6, 2) := by decide +kernel
theorem dM_readDigits_18 : decode cM_readDigits 18 = .ok (.iload_n 2, 1) := by decide +kernel
theorem dM_readDigits_19 : decode cM_readDigits 19 = .ok (.if_icmp .ge 41, 3) := by decide +kernel
theorem dM_readDigits_22 : decode cM_readDigits 22 = .ok (.lload_n 3, 1) := by decide +kernel
theorem dM_readDigits_23 : decode cM_readDigits 23 = .ok (.ldc2_w 129, 3) := by decide +kernel
theorem dM_readDigits_26 : decode cM_readDigits 26 = .ok (.lcmp, 1) := by decide +kernel
theorem dM_readDigits_27 : decode cM_readDigits 27 = .ok (.ifCond .lt 7, 3) := by decide +kernel
theorem dM_readDigits_30 : decode cM_readDigits 30 = .ok (.lload_n 3, 1) := by decide +kernel
theorem dM_readDigits_31 : decode cM_readDigits 31 = .ok (.goto 11, 3) := by decide +kernel
theorem dM_readDigits_34 : decode cM_readDigits 34 = .ok (.lload_n 3, 1) := by decide +kernel
theorem dM_readDigits_35 : decode cM_readDigits 35 = .ok (.iload_n 2, 1) := by decide +kernel
theorem dM_readDigits_36 : decode cM_readDigits 36 = .ok (.i2l, 1) := by decide +kernel
theorem dM_readDigits_37 : decode cM_readDigits 37 = .ok (.lmul, 1) := by decide +kernel
theorem dM_readDigits_38 : decode cM_readDigits 38 = .ok (.iload 6, 2) := by decide +kernel
theorem dM_readDigits_40 : decode cM_readDigits 40 = .ok (.i2l, 1) := by decide +kernel
theorem dM_readDigits_41 : decode cM_readDigits 41 = .ok (.ladd, 1) := by decide +kernel
theorem dM_readDigits_42 : decode cM_readDigits 42 = .ok (.lstore_n 3, 1) := by decide +kernel
theorem dM_readDigits_43 : decode cM_readDigits 43 = .ok (.iinc 5 1, 3) := by decide +kernel
theorem dM_readDigits_46 : decode cM_readDigits 46 = .ok (.aload_n 0, 1) := by decide +kernel
theorem dM_readDigits_47 : decode cM_readDigits 47 = .ok (.iload 5, 2) := by decide +kernel
theorem dM_readDigits_49 : decode cM_readDigits 49 = .ok (.invokevirtual 74, 3) := by decide +kernel
theorem dM_readDigits_52 : decode cM_readDigits 52 = .ok (.invokestatic 126, 3) := by decide +kernel
theorem dM_readDigits_55 : decode cM_readDigits 55 = .ok (.istore 6, 2) := by decide +kernel
theorem dM_readDigits_57 : decode cM_readDigits 57 = .ok (.goto (-41), 3) := by decide +kernel
theorem dM_readDigits_60 : decode cM_readDigits 60 = .ok (.aload_n 0, 1) := by decide +kernel
theorem dM_readDigits_61 : decode cM_readDigits 61 = .ok (.iload 5, 2) := by decide +kernel
theorem dM_readDigits_63 : decode cM_readDigits 63 = .ok (.iload_n 1, 1) := by decide +kernel
theorem dM_readDigits_64 : decode cM_readDigits 64 = .ok (.if_icmp .eq 11, 3) := by decide +kernel
theorem dM_readDigits_67 : decode cM_readDigits 67 = .ok (.lload_n 3, 1) := by decide +kernel
theorem dM_readDigits_68 : decode cM_readDigits 68 = .ok (.ldc2_w 129, 3) := by decide +kernel
theorem dM_readDigits_71 : decode cM_readDigits 71 = .ok (.lcmp, 1) := by decide +kernel
theorem dM_readDigits_72 : decode cM_readDigits 72 = .ok (.ifCond .lt 8, 3) := by decide +kernel
theorem dM_readDigits_75 : decode cM_readDigits 75 = .ok (.bipush 6, 2) := by decide +kernel
theorem dM_readDigits_77 : decode cM_readDigits 77 = .ok (.goto 4, 3) := by decide +kernel
theorem dM_readDigits_80 : decode cM_readDigits 80 = .ok (.iconst 1, 1) := by decide +kernel
theorem dM_readDigits_81 : decode cM_readDigits 81 = .ok (.putfield 123, 3) := by decide +kernel
theorem dM_readDigits_84 : decode cM_readDigits 84 = .ok (.aload_n 0, 1) := by decide +kernel
theorem dM_readDigits_85 : decode cM_readDigits 85 = .ok (.lload_n 3, 1) := by decide +kernel
theorem dM_readDigits_86 : decode cM_readDigits 86 = .ok (.l2i, 1) := by decide +kernel
theorem dM_readDigits_87 : decode cM_readDigits 87 = .ok (.putfield 131, 3) := by decide +kernel
theorem dM_readDigits_90 : decode cM_readDigits 90 = .ok (.aload_n 0, 1) := by decide +kernel
theorem dM_readDigits_91 : decode cM_readDigits 91 = .ok (.iload 5, 2) := by decide +kernel
theorem dM_readDigits_93 : decode cM_readDigits 93 = .ok (.putfield 120, 3) := by decide +kernel
theorem dM_readDigits_96 : decode cM_readDigits 96 = .ok (.return_, 1) := by decide +kernel
theorem dM_digit_0 : decode cM_digit 0 = .ok (.iload_n 0, 1) := by decide +kernel
theorem dM_digit_1 : decode cM_digit 1 = .ok (.invokestatic 68, 3) := by decide +kernel
theorem dM_digit_4 : decode cM_digit 4 = .ok (.ifCond .eq 10, 3) := by decide +kernel
theorem dM_digit_7 : decode cM_digit 7 = .ok (.iload_n 0, 1) := by decide +kernel
theorem dM_digit_8 : decode cM_digit 8 = .ok (.bipush 48, 2) := by decide +kernel
theorem dM_digit_10 : decode cM_digit 10 = .ok (.isub, 1) := by decide +kernel
theorem dM_digit_11 : decode cM_digit 11 = .ok (.goto 27, 3) := by decide +kernel
theorem dM_digit_14 : decode cM_digit 14 = .ok (.iload_n 0, 1) := by decide +kernel
theorem dM_digit_15 : decode cM_digit 15 = .ok (.bipush 65, 2) := by decide +kernel
theorem dM_digit_17 : decode cM_digit 17 = .ok (.if_icmp .lt 19, 3) := by decide +kernel
theorem dM_digit_20 : decode cM_digit 20 = .ok (.iload_n 0, 1) := by decide +kernel
theorem dM_digit_21 : decode cM_digit 21 = .ok (.bipush 70, 2) := by decide +kernel
theorem dM_digit_23 : decode cM_digit 23 = .ok (.if_icmp .gt 13, 3) := by decide +kernel
theorem dM_digit_26 : decode cM_digit 26 = .ok (.iload_n 0, 1) := by decide +kernel
theorem dM_digit_27 : decode cM_digit 27 = .ok (.bipush 65, 2) := by decide +kernel
theorem dM_digit_29 : decode cM_digit 29 = .ok (.isub, 1) := by decide +kernel
theorem dM_digit_30 : decode cM_digit 30 = .ok (.bipush 10, 2) := by decide +kernel
theorem dM_digit_32 : decode cM_digit 32 = .ok (.iadd, 1) := by decide +kernel
theorem dM_digit_33 : decode cM_digit 33 = .ok (.goto 5, 3) := by decide +kernel
theorem dM_digit_36 : decode cM_digit 36 = .ok (.bipush 99, 2) := by decide +kernel
theorem dM_digit_38 : decode cM_digit 38 = .ok (.ireturn, 1) := by decide +kernel
theorem dM_readByte_0 : decode cM_readByte 0 = .ok (.aload_n 0, 1) := by decide +kernel
theorem dM_readByte_1 : decode cM_readByte 1 = .ok (.aload_n 0, 1) := by decide +kernel
theorem dM_readByte_2 : decode cM_readByte 2 = .ok (.aload_n 0, 1) := by decide +kernel
theorem dM_readByte_3 : decode cM_readByte 3 = .ok (.getfield 71, 3) := by decide +kernel
theorem dM_readByte_6 : decode cM_readByte 6 = .ok (.iconst 1, 1) := by decide +kernel
theorem dM_readByte_7 : decode cM_readByte 7 = .ok (.iadd, 1) := by decide +kernel
theorem dM_readByte_8 : decode cM_readByte 8 = .ok (.bipush 39, 2) := by decide +kernel
theorem dM_readByte_10 : decode cM_readByte 10 = .ok (.invokevirtual 134, 3) := by decide +kernel
theorem dM_readByte_13 : decode cM_readByte 13 = .ok (.putfield 131, 3) := by decide +kernel
theorem dM_readByte_16 : decode cM_readByte 16 = .ok (.aload_n 0, 1) := by decide +kernel
theorem dM_readByte_17 : decode cM_readByte 17 = .ok (.aload_n 0, 1) := by decide +kernel
theorem dM_readByte_18 : decode cM_readByte 18 = .ok (.aload_n 0, 1) := by decide +kernel
theorem dM_readByte_19 : decode cM_readByte 19 = .ok (.getfield 71, 3) := by decide +kernel
theorem dM_readByte_22 : decode cM_readByte 22 = .ok (.iconst 1, 1) := by decide +kernel
theorem dM_readByte_23 : decode cM_readByte 23 = .ok (.iadd, 1) := by decide +kernel
theorem dM_readByte_24 : decode cM_readByte 24 = .ok (.invokevirtual 138, 3) := by decide +kernel
theorem dM_readByte_27 : decode cM_readByte 27 = .ok (.iconst 1, 1) := by decide +kernel
theorem dM_readByte_28 : decode cM_readByte 28 = .ok (.iadd, 1) := by decide +kernel
theorem dM_readByte_29 : decode cM_readByte 29 = .ok (.putfield 120, 3) := by decide +kernel
theorem dM_readByte_32 : decode cM_readByte 32 = .ok (.aload_n 0, 1) := by decide +kernel
theorem dM_readByte_33 : decode cM_readByte 33 = .ok (.aload_n 0, 1) := by decide +kernel
theorem dM_readByte_34 : decode cM_readByte 34 = .ok (.getfield 131, 3) := by decide +kernel
theorem dM_readByte_37 : decode cM_readByte 37 = .ok (.ifCond .lt 22, 3) := by decide +kernel
theorem dM_readByte_40 : decode cM_readByte 40 = .ok (.aload_n 0, 1) := by decide +kernel
theorem dM_readByte_41 : decode cM_readByte 41 = .ok (.aload_n 0, 1) := by decide +kernel
theorem dM_readByte_42 : decode cM_readByte 42 = .ok (.getfield 120, 3) := by decide +kernel
theorem dM_readByte_45 : decode cM_readByte 45 = .ok (.iconst 1, 1) := by decide +kernel
theorem dM_readByte_46 : decode cM_readByte 46 = .ok (.isub, 1) := by decide +kernel
theorem dM_readByte_47 : decode cM_readByte 47 = .ok (.invokevirtual 74, 3) := by decide +kernel
theorem dM_readByte_50 : decode cM_readByte 50 = .ok (.bipush 39, 2) := by decide +kernel
theorem dM_readByte_52 : decode cM_readByte 52 = .ok (.if_icmp .ne 7, 3) := by decide +kernel
theorem dM_readByte_55 : decode cM_readByte 55 = .ok (.iconst 1, 1) := by decide +kernel
theorem dM_readByte_56 : decode cM_readByte 56 = .ok (.goto 5, 3) := by decide +kernel
theorem dM_readByte_59 : decode cM_readByte 59 = .ok (.bipush 6, 2) := by decide +kernel
theorem dM_readByte_61 : decode cM_readByte 61 = .ok (.putfield 123, 3) := by decide +kernel
theorem dM_readByte_64 : decode cM_readByte 64 = .ok (.return_, 1) := by decide +kernel
theorem dM_meaning_0 : decode cM_meaning 0 = .ok (.aload_n 0, 1) := by decide +kernel
theorem dM_meaning_1 : decode cM_meaning 1 = .ok (.iload_n 1, 1) := by decide +kernel
theorem dM_meaning_2 : decode cM_meaning 2 = .ok (.invokevirtual 74, 3) := by decide +kernel
theorem dM_meaning_5 : decode cM_meaning 5 = .ok (.istore_n 3, 1) := by decide +kernel
theorem dM_meaning_6 : decode cM_meaning 6 = .ok (.iload_n 3, 1) := by decide +kernel
theorem dM_meaning_7 : decode cM_meaning 7 = .ok (.bipush 42, 2) := by decide +kernel
theorem dM_meaning_9 : decode cM_meaning 9 = .ok (.if_icmp .ne 76, 3) := by decide +kernel
theorem dM_meaning_12 : decode cM_meaning 12 = .ok (.aload_n 0, 1) := by decide +kernel
theorem dM_meaning_13 : decode cM_meaning 13 = .ok (.iload_n 1, 1) := by decide +kernel
theorem dM_meaning_14 : decode cM_meaning 14 = .ok (.iconst 1, 1) := by decide +kernel
theorem dM_meaning_15 : decode cM_meaning 15 = .ok (.iadd, 1) := by decide +kernel
theorem dM_meaning_16 : decode cM_meaning 16 = .ok (.invokevirtual 74, 3) := by decide +kernel
theorem dM_meaning_19 : decode cM_meaning 19 = .ok (.istore 4, 2) := by decide +kernel
theorem dM_meaning_21 : decode cM_meaning 21 = .ok (.iload 4, 2) := by decide +kernel
theorem dM_meaning_23 : decode cM_meaning 23 = .ok (.bipush 78, 2) := by decide +kernel
theorem dM_meaning_25 : decode cM_meaning 25 = .ok (.if_icmp .ne 8, 3) := by decide +kernel
theorem dM_meaning_28 : decode cM_meaning 28 = .ok (.bipush 10, 2) := by decide +kernel
theorem dM_meaning_30 : decode cM_meaning 30 = .ok (.goto 54, 3) := by decide +kernel
theorem dM_meaning_33 : decode cM_meaning 33 = .ok (.iload 4, 2) := by decide +kernel
theorem dM_meaning_35 : decode cM_meaning 35 = .ok (.bipush 83, 2) := by decide +kernel
theorem dM_meaning_37 : decode cM_meaning 37 = .ok (.if_icmp .ne 8, 3) := by decide +kernel
theorem dM_meaning_40 : decode cM_meaning 40 = .ok (.bipush 32, 2) := by decide +kernel
theorem dM_meaning_42 : decode cM_meaning 42 = .ok (.goto 42, 3) := by decide +kernel
theorem dM_meaning_45 : decode cM_meaning 45 = .ok (.iload 4, 2) := by decide +kernel
theorem dM_meaning_47 : decode cM_meaning 47 = .ok (.bipush 84, 2) := by decide +kernel
theorem dM_meaning_49 : decode cM_meaning 49 = .ok (.if_icmp .ne 8, 3) := by decide +kernel
theorem dM_meaning_52 : decode cM_meaning 52 = .ok (.bipush 9, 2) := by decide +kernel
theorem dM_meaning_54 : decode cM_meaning 54 = .ok (.goto 30, 3) := by decide +kernel
theorem dM_meaning_57 : decode cM_meaning 57 = .ok (.iload 4, 2) := by decide +kernel
theorem dM_meaning_59 : decode cM_meaning 59 = .ok (.bipush 39, 2) := by decide +kernel
theorem dM_meaning_61 : decode cM_meaning 61 = .ok (.if_icmp .eq 17, 3) := by decide +kernel
theorem dM_meaning_64 : decode cM_meaning 64 = .ok (.iload 4, 2) := by decide +kernel
theorem dM_meaning_66 : decode cM_meaning 66 = .ok (.bipush 34, 2) := by decide +kernel
theorem dM_meaning_68 : decode cM_meaning 68 = .ok (.if_icmp .eq 10, 3) := by decide +kernel
theorem dM_meaning_71 : decode cM_meaning 71 = .ok (.iload 4, 2) := by decide +kernel
theorem dM_meaning_73 : decode cM_meaning 73 = .ok (.bipush 42, 2) := by decide +kernel
theorem dM_meaning_75 : decode cM_meaning 75 = .ok (.if_icmp .ne 8, 3) := by decide +kernel
theorem dM_meaning_78 : decode cM_meaning 78 = .ok (.iload 4, 2) := by decide +kernel
theorem dM_meaning_80 : decode cM_meaning 80 = .ok (.goto 4, 3) := by decide +kernel
theorem dM_meaning_83 : decode cM_meaning 83 = .ok (.iconst (-1), 1) := by decide +kernel
theorem dM_meaning_84 : decode cM_meaning 84 = .ok (.ireturn, 1) := by decide +kernel
theorem dM_meaning_85 : decode cM_meaning 85 = .ok (.iload_n 3, 1) := by decide +kernel
theorem dM_meaning_86 : decode cM_meaning 86 = .ok (.bipush 32, 2) := by decide +kernel
theorem dM_meaning_88 : decode cM_meaning 88 = .ok (.if_icmp .lt 18, 3) := by decide +kernel
theorem dM_meaning_91 : decode cM_meaning 91 = .ok (.iload_n 3, 1) := by decide +kernel
theorem dM_meaning_92 : decode cM_meaning 92 = .ok (.bipush 126, 2) := by decide +kernel
theorem dM_meaning_94 : decode cM_meaning 94 = .ok (.if_icmp .gt 12, 3) := by decide +kernel
theorem dM_meaning_97 : decode cM_meaning 97 = .ok (.iload_n 3, 1) := by decide +kernel
theorem dM_meaning_98 : decode cM_meaning 98 = .ok (.iload_n 2, 1) := by decide +kernel
theorem dM_meaning_99 : decode cM_meaning 99 = .ok (.if_icmp .eq 7, 3) := by decide +kernel
theorem dM_meaning_102 : decode cM_meaning 102 = .ok (.iload_n 3, 1) := by decide +kernel
theorem dM_meaning_103 : decode cM_meaning 103 = .ok (.goto 4, 3) := by decide +kernel
theorem dM_meaning_106 : decode cM_meaning 106 = .ok (.iconst (-1), 1) := by decide +kernel
theorem dM_meaning_107 : decode cM_meaning 107 = .ok (.ireturn, 1) := by decide +kernel
theorem dM_next_0 : decode cM_next 0 = .ok (.aload_n 0, 1) := by decide +kernel
theorem dM_next_1 : decode cM_next 1 = .ok (.iload_n 1, 1) := by decide +kernel
theorem dM_next_2 : decode cM_next 2 = .ok (.invokevirtual 74, 3) := by decide +kernel
theorem dM_next_5 : decode cM_next 5 = .ok (.bipush 42, 2) := by decide +kernel
theorem dM_next_7 : decode cM_next 7 = .ok (.if_icmp .ne 9, 3) := by decide +kernel
theorem dM_next_10 : decode cM_next 10 = .ok (.iload_n 1, 1) := by decide +kernel
theorem dM_next_11 : decode cM_next 11 = .ok (.iconst 2, 1) := by decide +kernel
theorem dM_next_12 : decode cM_next 12 = .ok (.iadd, 1) := by decide +kernel
theorem dM_next_13 : decode cM_next 13 = .ok (.goto 6, 3) := by decide +kernel
theorem dM_next_16 : decode cM_next 16 = .ok (.iload_n 1, 1) := by decide +kernel
theorem dM_next_17 : decode cM_next 17 = .ok (.iconst 1, 1) := by decide +kernel
theorem dM_next_18 : decode cM_next 18 = .ok (.iadd, 1) := by decide +kernel
theorem dM_next_19 : decode cM_next 19 = .ok (.ireturn, 1) := by decide +kernel
theorem dM_readString_0 : decode cM_readString 0 = .ok (.aload_n 0, 1) := by decide +kernel
theorem dM_readString_1 : decode cM_readString 1 = .ok (.getfield 71, 3) := by decide +kernel
theorem dM_readString_4 : decode cM_readString 4 = .ok (.iconst 1, 1) := by decide +kernel
theorem dM_readString_5 : decode cM_readString 5 = .ok (.iadd, 1) := by decide +kernel
theorem dM_readString_6 : decode cM_readString 6 = .ok (.istore_n 1, 1) := by decide +kernel
theorem dM_readString_7 : decode cM_readString 7 = .ok (.iconst 0, 1) := by decide +kernel
theorem dM_readString_8 : decode cM_readString 8 = .ok (.istore_n 2, 1) := by decide +kernel
theorem dM_readString_9 : decode cM_readString 9 = .ok (.aload_n 0, 1) := by decide +kernel
theorem dM_readString_10 : decode cM_readString 10 = .ok (.iload_n 1, 1) := by decide +kernel
theorem dM_readString_11 : decode cM_readString 11 = .ok (.invokevirtual 74, 3) := by decide +kernel
theorem dM_readString_14 : decode cM_readString 14 = .ok (.bipush 34, 2) := by decide +kernel
theorem dM_readString_16 : decode cM_readString 16 = .ok (.if_icmp .eq 25, 3) := by decide +kernel
theorem dM_readString_19 : decode cM_readString 19 = .ok (.aload_n 0, 1) := by decide +kernel
theorem dM_readString_20 : decode cM_readString 20 = .ok (.iload_n 1, 1) := by decide +kernel
theorem dM_readString_21 : decode cM_readString 21 = .ok (.bipush 34, 2) := by decide +kernel
theorem dM_readString_23 : decode cM_readString 23 = .ok (.invokevirtual 134, 3) := by decide +kernel
theorem dM_readString_26 : decode cM_readString 26 = .ok (.ifCond .lt 15, 3) := by decide +kernel
theorem dM_readString_29 : decode cM_readString 29 = .ok (.aload_n 0, 1) := by decide +kernel
theorem dM_readString_30 : decode cM_readString 30 = .ok (.iload_n 1, 1) := by decide +kernel
theorem dM_readString_31 : decode cM_readString 31 = .ok (.invokevirtual 138, 3) := by decide +kernel
theorem dM_readString_34 : decode cM_readString 34 = .ok (.istore_n 1, 1) := by decide +kernel
theorem dM_readString_35 : decode cM_readString 35 = .ok (.iinc 2 1, 3) := by decide +kernel
theorem dM_readString_38 : decode cM_readString 38 = .ok (.goto (-29), 3) := by decide +kernel
theorem dM_readString_41 : decode cM_readString 41 = .ok (.aload_n 0, 1) := by decide +kernel
theorem dM_readString_42 : decode cM_readString 42 = .ok (.iload_n 1, 1) := by decide +kernel
theorem dM_readString_43 : decode cM_readString 43 = .ok (.iconst 1, 1) := by decide +kernel
theorem dM_readString_44 : decode cM_readString 44 = .ok (.iadd, 1) := by decide +kernel
theorem dM_readString_45 : decode cM_readString 45 = .ok (.putfield 120, 3) := by decide +kernel
theorem dM_readString_48 : decode cM_readString 48 = .ok (.aload_n 0, 1) := by decide +kernel
theorem dM_readString_49 : decode cM_readString 49 = .ok (.aload_n 0, 1) := by decide +kernel
theorem dM_readString_50 : decode cM_readString 50 = .ok (.iload_n 1, 1) := by decide +kernel
theorem dM_readString_51 : decode cM_readString 51 = .ok (.invokevirtual 74, 3) := by decide +kernel
theorem dM_readString_54 : decode cM_readString 54 = .ok (.bipush 34, 2) := by decide +kernel
theorem dM_readString_56 : decode cM_readString 56 = .ok (.if_icmp .ne 10, 3) := by decide +kernel
theorem dM_readString_59 : decode cM_readString 59 = .ok (.iload_n 2, 1) := by decide +kernel
theorem dM_readString_60 : decode cM_readString 60 = .ok (.sipush 200, 3) := by decide +kernel
theorem dM_readString_63 : decode cM_readString 63 = .ok (.if_icmp .le 8, 3) := by decide +kernel
theorem dM_readString_66 : decode cM_readString 66 = .ok (.bipush 6, 2) := by decide +kernel
theorem dM_readString_68 : decode cM_readString 68 = .ok (.goto 4, 3) := by decide +kernel
theorem dM_readString_71 : decode cM_readString 71 = .ok (.iconst 2, 1) := by decide +kernel
theorem dM_readString_72 : decode cM_readString 72 = .ok (.putfield 123, 3) := by decide +kernel
theorem dM_readString_75 : decode cM_readString 75 = .ok (.return_, 1) := by decide +kernel
theorem dM_readSign_0 : decode cM_readSign 0 = .ok (.aload_n 0, 1) := by decide +kernel
theorem dM_readSign_1 : decode cM_readSign 1 = .ok (.aload_n 0, 1) := by decide +kernel
theorem dM_readSign_2 : decode cM_readSign 2 = .ok (.getfield 71, 3) := by decide +kernel
theorem dM_readSign_5 : decode cM_readSign 5 = .ok (.invokevirtual 74, 3) := by decide +kernel
theorem dM_readSign_8 : decode cM_readSign 8 = .ok (.istore_n 1, 1) := by decide +kernel
theorem dM_readSign_9 : decode cM_readSign 9 = .ok (.aload_n 0, 1) := by decide +kernel
theorem dM_readSign_10 : decode cM_readSign 10 = .ok (.aload_n 0, 1) := by decide +kernel
theorem dM_readSign_11 : decode cM_readSign 11 = .ok (.getfield 71, 3) := by decide +kernel
theorem dM_readSign_14 : decode cM_readSign 14 = .ok (.iconst 1, 1) := by decide +kernel
theorem dM_readSign_15 : decode cM_readSign 15 = .ok (.iadd, 1) := by decide +kernel
theorem dM_readSign_16 : decode cM_readSign 16 = .ok (.invokevirtual 74, 3) := by decide +kernel
theorem dM_readSign_19 : decode cM_readSign 19 = .ok (.istore_n 2, 1) := by decide +kernel
theorem dM_readSign_20 : decode cM_readSign 20 = .ok (.iload_n 1, 1) := by decide +kernel
theorem dM_readSign_21 : decode cM_readSign 21 = .ok (.bipush 36, 2) := by decide +kernel
theorem dM_readSign_23 : decode cM_readSign 23 = .ok (.if_icmp .ne 15, 3) := by decide +kernel
theorem dM_readSign_26 : decode cM_readSign 26 = .ok (.iload_n 2, 1) := by decide +kernel
theorem dM_readSign_27 : decode cM_readSign 27 = .ok (.bipush 40, 2) := by decide +kernel
theorem dM_readSign_29 : decode cM_readSign 29 = .ok (.if_icmp .eq 81, 3) := by decide +kernel
theorem dM_readSign_32 : decode cM_readSign 32 = .ok (.iload_n 2, 1) := by decide +kernel
theorem dM_readSign_33 : decode cM_readSign 33 = .ok (.bipush 41, 2) := by decide +kernel
theorem dM_readSign_35 : decode cM_readSign 35 = .ok (.if_icmp .eq 75, 3) := by decide +kernel
theorem dM_readSign_38 : decode cM_readSign 38 = .ok (.iload_n 1, 1) := by decide +kernel
theorem dM_readSign_39 : decode cM_readSign 39 = .ok (.bipush 58, 2) := by decide +kernel
theorem dM_readSign_41 : decode cM_readSign 41 = .ok (.if_icmp .ne 9, 3) := by decide +kernel
theorem dM_readSign_44 : decode cM_readSign 44 = .ok (.iload_n 2, 1) := by decide +kernel
theorem dM_readSign_45 : decode cM_readSign 45 = .ok (.bipush 61, 2) := by decide +kernel
theorem dM_readSign_47 : decode cM_readSign 47 = .ok (.if_icmp .eq 63, 3) := by decide +kernel
theorem dM_readSign_50 : decode cM_readSign 50 = .ok (.iload_n 1, 1) := by decide +kernel
theorem dM_readSign_51 : decode cM_readSign 51 = .ok (.bipush 126, 2) := by decide +kernel
theorem dM_readSign_53 : decode cM_readSign 53 = .ok (.if_icmp .ne 9, 3) := by decide +kernel
theorem dM_readSign_56 : decode cM_readSign 56 = .ok (.iload_n 2, 1) := by decide +kernel
theorem dM_readSign_57 : decode cM_readSign 57 = .ok (.bipush 61, 2) := by decide +kernel
theorem dM_readSign_59 : decode cM_readSign 59 = .ok (.if_icmp .eq 51, 3) := by decide +kernel
theorem dM_readSign_62 : decode cM_readSign 62 = .ok (.iload_n 1, 1) := by decide +kernel
theorem dM_readSign_63 : decode cM_readSign 63 = .ok (.bipush 60, 2) := by decide +kernel
theorem dM_readSign_65 : decode cM_readSign 65 = .ok (.if_icmp .ne 15, 3) := by decide +kernel
theorem dM_readSign_68 : decode cM_readSign 68 = .ok (.iload_n 2, 1) := by decide +kernel
theorem dM_readSign_69 : decode cM_readSign 69 = .ok (.bipush 61, 2) := by decide +kernel
theorem dM_readSign_71 : decode cM_readSign 71 = .ok (.if_icmp .eq 39, 3) := by decide +kernel
theorem dM_readSign_74 : decode cM_readSign 74 = .ok (.iload_n 2, 1) := by decide +kernel
theorem dM_readSign_75 : decode cM_readSign 75 = .ok (.bipush 60, 2) := by decide +kernel
theorem dM_readSign_77 : decode cM_readSign 77 = .ok (.if_icmp .eq 33, 3) := by decide +kernel
theorem dM_readSign_80 : decode cM_readSign 80 = .ok (.iload_n 1, 1) := by decide +kernel
theorem dM_readSign_81 : decode cM_readSign 81 = .ok (.bipush 62, 2) := by decide +kernel
theorem dM_readSign_83 : decode cM_readSign 83 = .ok (.if_icmp .ne 15, 3) := by decide +kernel
theorem dM_readSign_86 : decode cM_readSign 86 = .ok (.iload_n 2, 1) := by decide +kernel
theorem dM_readSign_87 : decode cM_readSign 87 = .ok (.bipush 61, 2) := by decide +kernel
theorem dM_readSign_89 : decode cM_readSign 89 = .ok (.if_icmp .eq 21, 3) := by decide +kernel
theorem dM_readSign_92 : decode cM_readSign 92 = .ok (.iload_n 2, 1) := by decide +kernel
theorem dM_readSign_93 : decode cM_readSign 93 = .ok (.bipush 62, 2) := by decide +kernel
theorem dM_readSign_95 : decode cM_readSign 95 = .ok (.if_icmp .eq 15, 3) := by decide +kernel
theorem dM_readSign_98 : decode cM_readSign 98 = .ok (.iload_n 1, 1) := by decide +kernel
theorem dM_readSign_99 : decode cM_readSign 99 = .ok (.bipush 45, 2) := by decide +kernel
theorem dM_readSign_101 : decode cM_readSign 101 = .ok (.if_icmp .ne 13, 3) := by decide +kernel
theorem dM_readSign_104 : decode cM_readSign 104 = .ok (.iload_n 2, 1) := by decide +kernel
theorem dM_readSign_105 : decode cM_readSign 105 = .ok (.bipush 62, 2) := by decide +kernel
theorem dM_readSign_107 : decode cM_readSign 107 = .ok (.if_icmp .ne 7, 3) := by decide +kernel
theorem dM_readSign_110 : decode cM_readSign 110 = .ok (.iconst 1, 1) := by decide +kernel
theorem dM_readSign_111 : decode cM_readSign 111 = .ok (.goto 4, 3) := by decide +kernel
theorem dM_readSign_114 : decode cM_readSign 114 = .ok (.iconst 0, 1) := by decide +kernel
theorem dM_readSign_115 : decode cM_readSign 115 = .ok (.istore_n 3, 1) := by decide +kernel
theorem dM_readSign_116 : decode cM_readSign 116 = .ok (.iload_n 1, 1) := by decide +kernel
theorem dM_readSign_117 : decode cM_readSign 117 = .ok (.bipush 40, 2) := by decide +kernel
theorem dM_readSign_119 : decode cM_readSign 119 = .ok (.if_icmp .eq 99, 3) := by decide +kernel
theorem dM_readSign_122 : decode cM_readSign 122 = .ok (.iload_n 1, 1) := by decide +kernel
theorem dM_readSign_123 : decode cM_readSign 123 = .ok (.bipush 41, 2) := by decide +kernel
theorem dM_readSign_125 : decode cM_readSign 125 = .ok (.if_icmp .eq 93, 3) := by decide +kernel
theorem dM_readSign_128 : decode cM_readSign 128 = .ok (.iload_n 1, 1) := by decide +kernel
theorem dM_readSign_129 : decode cM_readSign 129 = .ok (.bipush 44, 2) := by decide +kernel
theorem dM_readSign_131 : decode cM_readSign 131 = .ok (.if_icmp .eq 87, 3) := by decide +kernel
theorem dM_readSign_134 : decode cM_readSign 134 = .ok (.iload_n 1, 1) := by decide +kernel
theorem dM_readSign_135 : decode cM_readSign 135 = .ok (.bipush 59, 2) := by decide +kernel
theorem dM_readSign_137 : decode cM_readSign 137 = .ok (.if_icmp .eq 81, 3) := by decide +kernel
theorem dM_readSign_140 : decode cM_readSign 140 = .ok (.iload_n 1, 1) := by decide +kernel
theorem dM_readSign_141 : decode cM_readSign 141 = .ok (.bipush 58, 2) := by decide +kernel
theorem dM_readSign_143 : decode cM_readSign 143 = .ok (.if_icmp .eq 75, 3) := by decide +kernel
theorem dM_readSign_146 : decode cM_readSign 146 = .ok (.iload_n 1, 1) := by decide +kernel
theorem dM_readSign_147 : decode cM_readSign 147 = .ok (.bipush 33, 2) := by decide +kernel
theorem dM_readSign_149 : decode cM_readSign 149 = .ok (.if_icmp .eq 69, 3) := by decide +kernel
theorem dM_readSign_152 : decode cM_readSign 152 = .ok (.iload_n 1, 1) := by decide +kernel
theorem dM_readSign_153 : decode cM_readSign 153 = .ok (.bipush 64, 2) := by decide +kernel
theorem dM_readSign_155 : decode cM_readSign 155 = .ok (.if_icmp .eq 63, 3) := by decide +kernel
theorem dM_readSign_158 : decode cM_readSign 158 = .ok (.iload_n 1, 1) := by decide +kernel
theorem dM_readSign_159 : decode cM_readSign 159 = .ok (.bipush 43, 2) := by decide +kernel
theorem dM_readSign_161 : decode cM_readSign 161 = .ok (.if_icmp .eq 57, 3) := by decide +kernel
theorem dM_readSign_164 : decode cM_readSign 164 = .ok (.iload_n 1, 1) := by decide +kernel
theorem dM_readSign_165 : decode cM_readSign 165 = .ok (.bipush 45, 2) := by decide +kernel
theorem dM_readSign_167 : decode cM_readSign 167 = .ok (.if_icmp .eq 51, 3) := by decide +kernel
theorem dM_readSign_170 : decode cM_readSign 170 = .ok (.iload_n 1, 1) := by decide +kernel
theorem dM_readSign_171 : decode cM_readSign 171 = .ok (.bipush 42, 2) := by decide +kernel
theorem dM_readSign_173 : decode cM_readSign 173 = .ok (.if_icmp .eq 45, 3) := by decide +kernel
theorem dM_readSign_176 : decode cM_readSign 176 = .ok (.iload_n 1, 1) := by decide +kernel
theorem dM_readSign_177 : decode cM_readSign 177 = .ok (.bipush 47, 2) := by decide +kernel
theorem dM_readSign_179 : decode cM_readSign 179 = .ok (.if_icmp .eq 39, 3) := by decide +kernel
theorem dM_readSign_182 : decode cM_readSign 182 = .ok (.iload_n 1, 1) := by decide +kernel
theorem dM_readSign_183 : decode cM_readSign 183 = .ok (.bipush 61, 2) := by decide +kernel
theorem dM_readSign_185 : decode cM_readSign 185 = .ok (.if_icmp .eq 33, 3) := by decide +kernel
theorem dM_readSign_188 : decode cM_readSign 188 = .ok (.iload_n 1, 1) := by decide +kernel
theorem dM_readSign_189 : decode cM_readSign 189 = .ok (.bipush 60, 2) := by decide +kernel
theorem dM_readSign_191 : decode cM_readSign 191 = .ok (.if_icmp .eq 27, 3) := by decide +kernel
theorem dM_readSign_194 : decode cM_readSign 194 = .ok (.iload_n 1, 1) := by decide +kernel
theorem dM_readSign_195 : decode cM_readSign 195 = .ok (.bipush 62, 2) := by decide +kernel
theorem dM_readSign_197 : decode cM_readSign 197 = .ok (.if_icmp .eq 21, 3) := by decide +kernel
theorem dM_readSign_200 : decode cM_readSign 200 = .ok (.iload_n 1, 1) := by decide +kernel
theorem dM_readSign_201 : decode cM_readSign 201 = .ok (.bipush 126, 2) := by decide +kernel
theorem dM_readSign_203 : decode cM_readSign 203 = .ok (.if_icmp .eq 15, 3) := by decide +kernel
theorem dM_readSign_206 : decode cM_readSign 206 = .ok (.iload_n 1, 1) := by decide +kernel
theorem dM_readSign_207 : decode cM_readSign 207 = .ok (.bipush 38, 2) := by decide +kernel
theorem dM_readSign_209 : decode cM_readSign 209 = .ok (.if_icmp .eq 9, 3) := by decide +kernel
theorem dM_readSign_212 : decode cM_readSign 212 = .ok (.iload_n 1, 1) := by decide +kernel
theorem dM_readSign_213 : decode cM_readSign 213 = .ok (.bipush 124, 2) := by decide +kernel
theorem dM_readSign_215 : decode cM_readSign 215 = .ok (.if_icmp .ne 7, 3) := by decide +kernel
theorem dM_readSign_218 : decode cM_readSign 218 = .ok (.iconst 1, 1) := by decide +kernel
theorem dM_readSign_219 : decode cM_readSign 219 = .ok (.goto 4, 3) := by decide +kernel
theorem dM_readSign_222 : decode cM_readSign 222 = .ok (.iconst 0, 1) := by decide +kernel
theorem dM_readSign_223 : decode cM_readSign 223 = .ok (.istore 4, 2) := by decide +kernel
theorem dM_readSign_225 : decode cM_readSign 225 = .ok (.aload_n 0, 1) := by decide +kernel
theorem dM_readSign_226 : decode cM_readSign 226 = .ok (.iload 4, 2) := by decide +kernel
theorem dM_readSign_228 : decode cM_readSign 228 = .ok (.ifCond .ne 7, 3) := by decide +kernel
theorem dM_readSign_231 : decode cM_readSign 231 = .ok (.iload_n 3, 1) := by decide +kernel
theorem dM_readSign_232 : decode cM_readSign 232 = .ok (.ifCond .eq 7, 3) := by decide +kernel
theorem dM_readSign_235 : decode cM_readSign 235 = .ok (.iconst 3, 1) := by decide +kernel
theorem dM_readSign_236 : decode cM_readSign 236 = .ok (.goto 5, 3) := by decide +kernel
theorem dM_readSign_239 : decode cM_readSign 239 = .ok (.bipush 6, 2) := by decide +kernel
theorem dM_readSign_241 : decode cM_readSign 241 = .ok (.putfield 123, 3) := by decide +kernel
theorem dM_readSign_244 : decode cM_readSign 244 = .ok (.aload_n 0, 1) := by decide +kernel
theorem dM_readSign_245 : decode cM_readSign 245 = .ok (.iload_n 3, 1) := by decide +kernel
theorem dM_readSign_246 : decode cM_readSign 246 = .ok (.ifCond .eq 12, 3) := by decide +kernel
theorem dM_readSign_249 : decode cM_readSign 249 = .ok (.aload_n 0, 1) := by decide +kernel
theorem dM_readSign_250 : decode cM_readSign 250 = .ok (.getfield 71, 3) := by decide +kernel
theorem dM_readSign_253 : decode cM_readSign 253 = .ok (.iconst 2, 1) := by decide +kernel
theorem dM_readSign_254 : decode cM_readSign 254 = .ok (.iadd, 1) := by decide +kernel
theorem dM_readSign_255 : decode cM_readSign 255 = .ok (.goto 9, 3) := by decide +kernel
theorem dM_readSign_258 : decode cM_readSign 258 = .ok (.aload_n 0, 1) := by decide +kernel
theorem dM_readSign_259 : decode cM_readSign 259 = .ok (.getfield 71, 3) := by decide +kernel
theorem dM_readSign_262 : decode cM_readSign 262 = .ok (.iconst 1, 1) := by decide +kernel
theorem dM_readSign_263 : decode cM_readSign 263 = .ok (.iadd, 1) := by decide +kernel
theorem dM_readSign_264 : decode cM_readSign 264 = .ok (.putfield 120, 3) := by decide +kernel
theorem dM_readSign_267 : decode cM_readSign 267 = .ok (.return_, 1) := by decide +kernel
theorem dM_add_0 : decode cM_add 0 = .ok (.aload_n 0, 1) := by decide +kernel
theorem dM_add_1 : decode cM_add 1 = .ok (.getfield 13, 3) := by decide +kernel
theorem dM_add_4 : decode cM_add 4 = .ok (.aload_n 0, 1) := by decide +kernel
theorem dM_add_5 : decode cM_add 5 = .ok (.getfield 81, 3) := by decide +kernel
theorem dM_add_8 : decode cM_add 8 = .ok (.iload_n 1, 1) := by decide +kernel
theorem dM_add_9 : decode cM_add 9 = .ok (.iastore, 1) := by decide +kernel
theorem dM_add_10 : decode cM_add 10 = .ok (.aload_n 0, 1) := by decide +kernel
theorem dM_add_11 : decode cM_add 11 = .ok (.getfield 16, 3) := by decide +kernel
theorem dM_add_14 : decode cM_add 14 = .ok (.aload_n 0, 1) := by decide +kernel
theorem dM_add_15 : decode cM_add 15 = .ok (.getfield 81, 3) := by decide +kernel
theorem dM_add_18 : decode cM_add 18 = .ok (.aload_n 0, 1) := by decide +kernel
theorem dM_add_19 : decode cM_add 19 = .ok (.getfield 71, 3) := by decide +kernel
theorem dM_add_22 : decode cM_add 22 = .ok (.iastore, 1) := by decide +kernel
theorem dM_add_23 : decode cM_add 23 = .ok (.aload_n 0, 1) := by decide +kernel
theorem dM_add_24 : decode cM_add 24 = .ok (.getfield 19, 3) := by decide +kernel
theorem dM_add_27 : decode cM_add 27 = .ok (.aload_n 0, 1) := by decide +kernel
theorem dM_add_28 : decode cM_add 28 = .ok (.getfield 81, 3) := by decide +kernel
theorem dM_add_31 : decode cM_add 31 = .ok (.aload_n 0, 1) := by decide +kernel
theorem dM_add_32 : decode cM_add 32 = .ok (.getfield 78, 3) := by decide +kernel
theorem dM_add_35 : decode cM_add 35 = .ok (.iastore, 1) := by decide +kernel
theorem dM_add_36 : decode cM_add 36 = .ok (.aload_n 0, 1) := by decide +kernel
theorem dM_add_37 : decode cM_add 37 = .ok (.getfield 22, 3) := by decide +kernel
theorem dM_add_40 : decode cM_add 40 = .ok (.aload_n 0, 1) := by decide +kernel
theorem dM_add_41 : decode cM_add 41 = .ok (.getfield 81, 3) := by decide +kernel
theorem dM_add_44 : decode cM_add 44 = .ok (.iload_n 2, 1) := by decide +kernel
theorem dM_add_45 : decode cM_add 45 = .ok (.iastore, 1) := by decide +kernel
theorem dM_add_46 : decode cM_add 46 = .ok (.aload_n 0, 1) := by decide +kernel
theorem dM_add_47 : decode cM_add 47 = .ok (.getfield 25, 3) := by decide +kernel
theorem dM_add_50 : decode cM_add 50 = .ok (.aload_n 0, 1) := by decide +kernel
theorem dM_add_51 : decode cM_add 51 = .ok (.getfield 81, 3) := by decide +kernel
theorem dM_add_54 : decode cM_add 54 = .ok (.aload_n 0, 1) := by decide +kernel
theorem dM_add_55 : decode cM_add 55 = .ok (.getfield 84, 3) := by decide +kernel
theorem dM_add_58 : decode cM_add 58 = .ok (.iastore, 1) := by decide +kernel
theorem dM_add_59 : decode cM_add 59 = .ok (.aload_n 0, 1) := by decide +kernel
theorem dM_add_60 : decode cM_add 60 = .ok (.getfield 28, 3) := by decide +kernel
theorem dM_add_63 : decode cM_add 63 = .ok (.aload_n 0, 1) := by decide +kernel
theorem dM_add_64 : decode cM_add 64 = .ok (.getfield 81, 3) := by decide +kernel
theorem dM_add_67 : decode cM_add 67 = .ok (.iconst 0, 1) := by decide +kernel
theorem dM_add_68 : decode cM_add 68 = .ok (.iastore, 1) := by decide +kernel
theorem dM_add_69 : decode cM_add 69 = .ok (.aload_n 0, 1) := by decide +kernel
theorem dM_add_70 : decode cM_add 70 = .ok (.dup, 1) := by decide +kernel
theorem dM_add_71 : decode cM_add 71 = .ok (.getfield 81, 3) := by decide +kernel
theorem dM_add_74 : decode cM_add 74 = .ok (.iconst 1, 1) := by decide +kernel
theorem dM_add_75 : decode cM_add 75 = .ok (.iadd, 1) := by decide +kernel
theorem dM_add_76 : decode cM_add 76 = .ok (.putfield 81, 3) := by decide +kernel
theorem dM_add_79 : decode cM_add 79 = .ok (.return_, 1) := by decide +kernel
theorem dM_keep_0 : decode cM_keep 0 = .ok (.aload_n 0, 1) := by decide +kernel
theorem dM_keep_1 : decode cM_keep 1 = .ok (.aload_n 0, 1) := by decide +kernel
theorem dM_keep_2 : decode cM_keep 2 = .ok (.getfield 123, 3) := by decide +kernel
theorem dM_keep_5 : decode cM_keep 5 = .ok (.aload_n 0, 1) := by decide +kernel
theorem dM_keep_6 : decode cM_keep 6 = .ok (.getfield 123, 3) := by decide +kernel
theorem dM_keep_9 : decode cM_keep 9 = .ok (.iconst 1, 1) := by decide +kernel
theorem dM_keep_10 : decode cM_keep 10 = .ok (.if_icmp .ne 10, 3) := by decide +kernel
theorem dM_keep_13 : decode cM_keep 13 = .ok (.aload_n 0, 1) := by decide +kernel
theorem dM_keep_14 : decode cM_keep 14 = .ok (.getfield 131, 3) := by decide +kernel
theorem dM_keep_17 : decode cM_keep 17 = .ok (.goto 4, 3) := by decide +kernel
theorem dM_keep_20 : decode cM_keep 20 = .ok (.iconst 0, 1) := by decide +kernel
theorem dM_keep_21 : decode cM_keep 21 = .ok (.invokevirtual 157, 3) := by decide +kernel
theorem dM_keep_24 : decode cM_keep 24 = .ok (.aload_n 0, 1) := by decide +kernel
theorem dM_keep_25 : decode cM_keep 25 = .ok (.getfield 123, 3) := by decide +kernel
theorem dM_keep_28 : decode cM_keep 28 = .ok (.ifCond .eq 11, 3) := by decide +kernel
theorem dM_keep_31 : decode cM_keep 31 = .ok (.aload_n 0, 1) := by decide +kernel
theorem dM_keep_32 : decode cM_keep 32 = .ok (.getfield 123, 3) := by decide +kernel
theorem dM_keep_35 : decode cM_keep 35 = .ok (.iconst 3, 1) := by decide +kernel
theorem dM_keep_36 : decode cM_keep 36 = .ok (.if_icmp .ne 35, 3) := by decide +kernel
theorem dM_keep_39 : decode cM_keep 39 = .ok (.aload_n 0, 1) := by decide +kernel
theorem dM_keep_40 : decode cM_keep 40 = .ok (.getfield 71, 3) := by decide +kernel
theorem dM_keep_43 : decode cM_keep 43 = .ok (.istore_n 1, 1) := by decide +kernel
theorem dM_keep_44 : decode cM_keep 44 = .ok (.iload_n 1, 1) := by decide +kernel
theorem dM_keep_45 : decode cM_keep 45 = .ok (.aload_n 0, 1) := by decide +kernel
theorem dM_keep_46 : decode cM_keep 46 = .ok (.getfield 120, 3) := by decide +kernel
theorem dM_keep_49 : decode cM_keep 49 = .ok (.if_icmp .ge 19, 3) := by decide +kernel
theorem dM_keep_52 : decode cM_keep 52 = .ok (.aload_n 0, 1) := by decide +kernel
theorem dM_keep_53 : decode cM_keep 53 = .ok (.aload_n 0, 1) := by decide +kernel
theorem dM_keep_54 : decode cM_keep 54 = .ok (.getfield 7, 3) := by decide +kernel
theorem dM_keep_57 : decode cM_keep 57 = .ok (.iload_n 1, 1) := by decide +kernel
theorem dM_keep_58 : decode cM_keep 58 = .ok (.iaload, 1) := by decide +kernel
theorem dM_keep_59 : decode cM_keep 59 = .ok (.invokevirtual 160, 3) := by decide +kernel
theorem dM_keep_62 : decode cM_keep 62 = .ok (.iinc 1 1, 3) := by decide +kernel
theorem dM_keep_65 : decode cM_keep 65 = .ok (.goto (-21), 3) := by decide +kernel
theorem dM_keep_68 : decode cM_keep 68 = .ok (.goto 48, 3) := by decide +kernel
theorem dM_keep_71 : decode cM_keep 71 = .ok (.aload_n 0, 1) := by decide +kernel
theorem dM_keep_72 : decode cM_keep 72 = .ok (.getfield 123, 3) := by decide +kernel
theorem dM_keep_75 : decode cM_keep 75 = .ok (.iconst 2, 1) := by decide +kernel
theorem dM_keep_76 : decode cM_keep 76 = .ok (.if_icmp .ne 40, 3) := by decide +kernel
theorem dM_keep_79 : decode cM_keep 79 = .ok (.aload_n 0, 1) := by decide +kernel
theorem dM_keep_80 : decode cM_keep 80 = .ok (.getfield 71, 3) := by decide +kernel
theorem dM_keep_83 : decode cM_keep 83 = .ok (.iconst 1, 1) := by decide +kernel
theorem dM_keep_84 : decode cM_keep 84 = .ok (.iadd, 1) := by decide +kernel
theorem dM_keep_85 : decode cM_keep 85 = .ok (.istore_n 1, 1) := by decide +kernel
theorem dM_keep_86 : decode cM_keep 86 = .ok (.iload_n 1, 1) := by decide +kernel
theorem dM_keep_87 : decode cM_keep 87 = .ok (.aload_n 0, 1) := by decide +kernel
theorem dM_keep_88 : decode cM_keep 88 = .ok (.getfield 120, 3) := by decide +kernel
theorem dM_keep_91 : decode cM_keep 91 = .ok (.iconst 1, 1) := by decide +kernel
theorem dM_keep_92 : decode cM_keep 92 = .ok (.isub, 1) := by decide +kernel
theorem dM_keep_93 : decode cM_keep 93 = .ok (.if_icmp .ge 23, 3) := by decide +kernel
theorem dM_keep_96 : decode cM_keep 96 = .ok (.aload_n 0, 1) := by decide +kernel
theorem dM_keep_97 : decode cM_keep 97 = .ok (.aload_n 0, 1) := by decide +kernel
theorem dM_keep_98 : decode cM_keep 98 = .ok (.iload_n 1, 1) := by decide +kernel
theorem dM_keep_99 : decode cM_keep 99 = .ok (.bipush 34, 2) := by decide +kernel
theorem dM_keep_101 : decode cM_keep 101 = .ok (.invokevirtual 134, 3) := by decide +kernel
theorem dM_keep_104 : decode cM_keep 104 = .ok (.invokevirtual 160, 3) := by decide +kernel
theorem dM_keep_107 : decode cM_keep 107 = .ok (.aload_n 0, 1) := by decide +kernel
theorem dM_keep_108 : decode cM_keep 108 = .ok (.iload_n 1, 1) := by decide +kernel
theorem dM_keep_109 : decode cM_keep 109 = .ok (.invokevirtual 138, 3) := by decide +kernel
theorem dM_keep_112 : decode cM_keep 112 = .ok (.istore_n 1, 1) := by decide +kernel
theorem dM_keep_113 : decode cM_keep 113 = .ok (.goto (-27), 3) := by decide +kernel
theorem dM_keep_116 : decode cM_keep 116 = .ok (.aload_n 0, 1) := by decide +kernel
theorem dM_keep_117 : decode cM_keep 117 = .ok (.getfield 123, 3) := by decide +kernel
theorem dM_keep_120 : decode cM_keep 120 = .ok (.ifCond .ne 30, 3) := by decide +kernel
theorem dM_keep_123 : decode cM_keep 123 = .ok (.aload_n 0, 1) := by decide +kernel
theorem dM_keep_124 : decode cM_keep 124 = .ok (.aload_n 0, 1) := by decide +kernel
theorem dM_keep_125 : decode cM_keep 125 = .ok (.getfield 81, 3) := by decide +kernel
theorem dM_keep_128 : decode cM_keep 128 = .ok (.iconst 1, 1) := by decide +kernel
theorem dM_keep_129 : decode cM_keep 129 = .ok (.isub, 1) := by decide +kernel
theorem dM_keep_130 : decode cM_keep 130 = .ok (.ldc 34, 2) := by decide +kernel
theorem dM_keep_132 : decode cM_keep 132 = .ok (.invokevirtual 108, 3) := by decide +kernel
theorem dM_keep_135 : decode cM_keep 135 = .ok (.ifCond .eq 15, 3) := by decide +kernel
theorem dM_keep_138 : decode cM_keep 138 = .ok (.aload_n 0, 1) := by decide +kernel
theorem dM_keep_139 : decode cM_keep 139 = .ok (.getfield 13, 3) := by decide +kernel
theorem dM_keep_142 : decode cM_keep 142 = .ok (.aload_n 0, 1) := by decide +kernel
theorem dM_keep_143 : decode cM_keep 143 = .ok (.getfield 81, 3) := by decide +kernel
theorem dM_keep_146 : decode cM_keep 146 = .ok (.iconst 1, 1) := by decide +kernel
theorem dM_keep_147 : decode cM_keep 147 = .ok (.isub, 1) := by decide +kernel
theorem dM_keep_148 : decode cM_keep 148 = .ok (.iconst 4, 1) := by decide +kernel
theorem dM_keep_149 : decode cM_keep 149 = .ok (.iastore, 1) := by decide +kernel
theorem dM_keep_150 : decode cM_keep 150 = .ok (.aload_n 0, 1) := by decide +kernel
theorem dM_keep_151 : decode cM_keep 151 = .ok (.invokevirtual 163, 3) := by decide +kernel
theorem dM_keep_154 : decode cM_keep 154 = .ok (.return_, 1) := by decide +kernel
theorem dM_say_0 : decode cM_say 0 = .ok (.aload_n 0, 1) := by decide +kernel
theorem dM_say_1 : decode cM_say 1 = .ok (.getfield 31, 3) := by decide +kernel
theorem dM_say_4 : decode cM_say 4 = .ok (.aload_n 0, 1) := by decide +kernel
theorem dM_say_5 : decode cM_say 5 = .ok (.getfield 84, 3) := by decide +kernel
theorem dM_say_8 : decode cM_say 8 = .ok (.iload_n 1, 1) := by decide +kernel
theorem dM_say_9 : decode cM_say 9 = .ok (.iastore, 1) := by decide +kernel
theorem dM_say_10 : decode cM_say 10 = .ok (.aload_n 0, 1) := by decide +kernel
theorem dM_say_11 : decode cM_say 11 = .ok (.dup, 1) := by decide +kernel
theorem dM_say_12 : decode cM_say 12 = .ok (.getfield 84, 3) := by decide +kernel
theorem dM_say_15 : decode cM_say 15 = .ok (.iconst 1, 1) := by decide +kernel
theorem dM_say_16 : decode cM_say 16 = .ok (.iadd, 1) := by decide +kernel
theorem dM_say_17 : decode cM_say 17 = .ok (.putfield 84, 3) := by decide +kernel
theorem dM_say_20 : decode cM_say 20 = .ok (.aload_n 0, 1) := by decide +kernel
theorem dM_say_21 : decode cM_say 21 = .ok (.getfield 28, 3) := by decide +kernel
theorem dM_say_24 : decode cM_say 24 = .ok (.aload_n 0, 1) := by decide +kernel
theorem dM_say_25 : decode cM_say 25 = .ok (.getfield 81, 3) := by decide +kernel
theorem dM_say_28 : decode cM_say 28 = .ok (.iconst 1, 1) := by decide +kernel
theorem dM_say_29 : decode cM_say 29 = .ok (.isub, 1) := by decide +kernel
theorem dM_say_30 : decode cM_say 30 = .ok (.dup2, 1) := by decide +kernel
theorem dM_say_31 : decode cM_say 31 = .ok (.iaload, 1) := by decide +kernel
theorem dM_say_32 : decode cM_say 32 = .ok (.iconst 1, 1) := by decide +kernel
theorem dM_say_33 : decode cM_say 33 = .ok (.iadd, 1) := by decide +kernel
theorem dM_say_34 : decode cM_say 34 = .ok (.iastore, 1) := by decide +kernel
theorem dM_say_35 : decode cM_say 35 = .ok (.return_, 1) := by decide +kernel
theorem dM_isIn_0 : decode cM_isIn 0 = .ok (.iconst 0, 1) := by decide +kernel
theorem dM_isIn_1 : decode cM_isIn 1 = .ok (.istore_n 3, 1) := by decide +kernel
theorem dM_isIn_2 : decode cM_isIn 2 = .ok (.iload_n 3, 1) := by decide +kernel
theorem dM_isIn_3 : decode cM_isIn 3 = .ok (.aload_n 2, 1) := by decide +kernel
theorem dM_isIn_4 : decode cM_isIn 4 = .ok (.invokevirtual 87, 3) := by decide +kernel
theorem dM_isIn_7 : decode cM_isIn 7 = .ok (.if_icmp .ge 33, 3) := by decide +kernel
theorem dM_isIn_10 : decode cM_isIn 10 = .ok (.aload_n 2, 1) := by decide +kernel
theorem dM_isIn_11 : decode cM_isIn 11 = .ok (.iload_n 3, 1) := by decide +kernel
theorem dM_isIn_12 : decode cM_isIn 12 = .ok (.invokevirtual 93, 3) := by decide +kernel
theorem dM_isIn_15 : decode cM_isIn 15 = .ok (.bipush 32, 2) := by decide +kernel
theorem dM_isIn_17 : decode cM_isIn 17 = .ok (.if_icmp .ne 17, 3) := by decide +kernel
theorem dM_isIn_20 : decode cM_isIn 20 = .ok (.aload_n 0, 1) := by decide +kernel
theorem dM_isIn_21 : decode cM_isIn 21 = .ok (.iload_n 1, 1) := by decide +kernel
theorem dM_isIn_22 : decode cM_isIn 22 = .ok (.aload_n 2, 1) := by decide +kernel
theorem dM_isIn_23 : decode cM_isIn 23 = .ok (.iload_n 3, 1) := by decide +kernel
theorem dM_isIn_24 : decode cM_isIn 24 = .ok (.iconst 1, 1) := by decide +kernel
theorem dM_isIn_25 : decode cM_isIn 25 = .ok (.iadd, 1) := by decide +kernel
theorem dM_isIn_26 : decode cM_isIn 26 = .ok (.invokevirtual 97, 3) := by decide +kernel
theorem dM_isIn_29 : decode cM_isIn 29 = .ok (.ifCond .eq 5, 3) := by decide +kernel
theorem dM_isIn_32 : decode cM_isIn 32 = .ok (.iconst 1, 1) := by decide +kernel
theorem dM_isIn_33 : decode cM_isIn 33 = .ok (.ireturn, 1) := by decide +kernel
theorem dM_isIn_34 : decode cM_isIn 34 = .ok (.iinc 3 1, 3) := by decide +kernel
theorem dM_isIn_37 : decode cM_isIn 37 = .ok (.goto (-35), 3) := by decide +kernel
theorem dM_isIn_40 : decode cM_isIn 40 = .ok (.iconst 0, 1) := by decide +kernel
theorem dM_isIn_41 : decode cM_isIn 41 = .ok (.ireturn, 1) := by decide +kernel
theorem dM_standsAt_0 : decode cM_standsAt 0 = .ok (.aload_n 0, 1) := by decide +kernel
theorem dM_standsAt_1 : decode cM_standsAt 1 = .ok (.getfield 28, 3) := by decide +kernel
theorem dM_standsAt_4 : decode cM_standsAt 4 = .ok (.iload_n 1, 1) := by decide +kernel
theorem dM_standsAt_5 : decode cM_standsAt 5 = .ok (.iaload, 1) := by decide +kernel
theorem dM_standsAt_6 : decode cM_standsAt 6 = .ok (.istore 4, 2) := by decide +kernel
theorem dM_standsAt_8 : decode cM_standsAt 8 = .ok (.iload_n 3, 1) := by decide +kernel
theorem dM_standsAt_9 : decode cM_standsAt 9 = .ok (.iload 4, 2) := by decide +kernel
theorem dM_standsAt_11 : decode cM_standsAt 11 = .ok (.iadd, 1) := by decide +kernel
theorem dM_standsAt_12 : decode cM_standsAt 12 = .ok (.aload_n 2, 1) := by decide +kernel
theorem dM_standsAt_13 : decode cM_standsAt 13 = .ok (.invokevirtual 87, 3) := by decide +kernel
theorem dM_standsAt_16 : decode cM_standsAt 16 = .ok (.if_icmp .ge 16, 3) := by decide +kernel
theorem dM_standsAt_19 : decode cM_standsAt 19 = .ok (.aload_n 2, 1) := by decide +kernel
theorem dM_standsAt_20 : decode cM_standsAt 20 = .ok (.iload_n 3, 1) := by decide +kernel
theorem dM_standsAt_21 : decode cM_standsAt 21 = .ok (.iload 4, 2) := by decide +kernel
theorem dM_standsAt_23 : decode cM_standsAt 23 = .ok (.iadd, 1) := by decide +kernel
theorem dM_standsAt_24 : decode cM_standsAt 24 = .ok (.invokevirtual 93, 3) := by decide +kernel
theorem dM_standsAt_27 : decode cM_standsAt 27 = .ok (.bipush 32, 2) := by decide +kernel
theorem dM_standsAt_29 : decode cM_standsAt 29 = .ok (.if_icmp .eq 5, 3) := by decide +kernel
theorem dM_standsAt_32 : decode cM_standsAt 32 = .ok (.iconst 0, 1) := by decide +kernel
theorem dM_standsAt_33 : decode cM_standsAt 33 = .ok (.ireturn, 1) := by decide +kernel
theorem dM_standsAt_34 : decode cM_standsAt 34 = .ok (.iload 4, 2) := by decide +kernel
theorem dM_standsAt_36 : decode cM_standsAt 36 = .ok (.ifCond .le 7, 3) := by decide +kernel
theorem dM_standsAt_39 : decode cM_standsAt 39 = .ok (.iconst 1, 1) := by decide +kernel
theorem dM_standsAt_40 : decode cM_standsAt 40 = .ok (.goto 4, 3) := by decide +kernel
theorem dM_standsAt_43 : decode cM_standsAt 43 = .ok (.iconst 0, 1) := by decide +kernel
theorem dM_standsAt_44 : decode cM_standsAt 44 = .ok (.istore 5, 2) := by decide +kernel
theorem dM_standsAt_46 : decode cM_standsAt 46 = .ok (.iconst 0, 1) := by decide +kernel
theorem dM_standsAt_47 : decode cM_standsAt 47 = .ok (.istore 6, 2) := by decide +kernel
theorem dM_standsAt_49 : decode cM_standsAt 49 = .ok (.iload 6, 2) := by decide +kernel
theorem dM_standsAt_51 : decode cM_standsAt 51 = .ok (.iload 4, 2) := by decide +kernel
theorem dM_standsAt_53 : decode cM_standsAt 53 = .ok (.if_icmp .ge 46, 3) := by decide +kernel
theorem dM_standsAt_56 : decode cM_standsAt 56 = .ok (.iload 5, 2) := by decide +kernel
theorem dM_standsAt_58 : decode cM_standsAt 58 = .ok (.ifCond .eq 41, 3) := by decide +kernel
theorem dM_standsAt_61 : decode cM_standsAt 61 = .ok (.aload_n 0, 1) := by decide +kernel
theorem dM_standsAt_62 : decode cM_standsAt 62 = .ok (.getfield 31, 3) := by decide +kernel
theorem dM_standsAt_65 : decode cM_standsAt 65 = .ok (.aload_n 0, 1) := by decide +kernel
theorem dM_standsAt_66 : decode cM_standsAt 66 = .ok (.getfield 25, 3) := by decide +kernel
theorem dM_standsAt_69 : decode cM_standsAt 69 = .ok (.iload_n 1, 1) := by decide +kernel
theorem dM_standsAt_70 : decode cM_standsAt 70 = .ok (.iaload, 1) := by decide +kernel
theorem dM_standsAt_71 : decode cM_standsAt 71 = .ok (.iload 6, 2) := by decide +kernel
theorem dM_standsAt_73 : decode cM_standsAt 73 = .ok (.iadd, 1) := by decide +kernel
theorem dM_standsAt_74 : decode cM_standsAt 74 = .ok (.iaload, 1) := by decide +kernel
theorem dM_standsAt_75 : decode cM_standsAt 75 = .ok (.aload_n 2, 1) := by decide +kernel
theorem dM_standsAt_76 : decode cM_standsAt 76 = .ok (.iload_n 3, 1) := by decide +kernel
theorem dM_standsAt_77 : decode cM_standsAt 77 = .ok (.iload 6, 2) := by decide +kernel
theorem dM_standsAt_79 : decode cM_standsAt 79 = .ok (.iadd, 1) := by decide +kernel
theorem dM_standsAt_80 : decode cM_standsAt 80 = .ok (.invokevirtual 93, 3) := by decide +kernel
theorem dM_standsAt_83 : decode cM_standsAt 83 = .ok (.if_icmp .ne 7, 3) := by decide +kernel
theorem dM_standsAt_86 : decode cM_standsAt 86 = .ok (.iconst 1, 1) := by decide +kernel
theorem dM_standsAt_87 : decode cM_standsAt 87 = .ok (.goto 4, 3) := by decide +kernel
theorem dM_standsAt_90 : decode cM_standsAt 90 = .ok (.iconst 0, 1) := by decide +kernel
theorem dM_standsAt_91 : decode cM_standsAt 91 = .ok (.istore 5, 2) := by decide +kernel
theorem dM_standsAt_93 : decode cM_standsAt 93 = .ok (.iinc 6 1, 3) := by decide +kernel
theorem dM_standsAt_96 : decode cM_standsAt 96 = .ok (.goto (-47), 3) := by decide +kernel
theorem dM_standsAt_99 : decode cM_standsAt 99 = .ok (.iload 5, 2) := by decide +kernel
theorem dM_standsAt_101 : decode cM_standsAt 101 = .ok (.ireturn, 1) := by decide +kernel
theorem dM_understand_0 : decode cM_understand 0 = .ok (.aload_n 0, 1) := by decide +kernel
theorem dM_understand_1 : decode cM_understand 1 = .ok (.getfield 81, 3) := by decide +kernel
theorem dM_understand_4 : decode cM_understand 4 = .ok (.iconst 1, 1) := by decide +kernel
theorem dM_understand_5 : decode cM_understand 5 = .ok (.isub, 1) := by decide +kernel
theorem dM_understand_6 : decode cM_understand 6 = .ok (.istore_n 1, 1) := by decide +kernel
theorem dM_understand_7 : decode cM_understand 7 = .ok (.iload_n 1, 1) := by decide +kernel
theorem dM_understand_8 : decode cM_understand 8 = .ok (.iconst 1, 1) := by decide +kernel
theorem dM_understand_9 : decode cM_understand 9 = .ok (.if_icmp .lt 38, 3) := by decide +kernel
theorem dM_understand_12 : decode cM_understand 12 = .ok (.aload_n 0, 1) := by decide +kernel
theorem dM_understand_13 : decode cM_understand 13 = .ok (.getfield 19, 3) := by decide +kernel
theorem dM_understand_16 : decode cM_understand 16 = .ok (.iload_n 1, 1) := by decide +kernel
theorem dM_understand_17 : decode cM_understand 17 = .ok (.iconst 1, 1) := by decide +kernel
theorem dM_understand_18 : decode cM_understand 18 = .ok (.isub, 1) := by decide +kernel
theorem dM_understand_19 : decode cM_understand 19 = .ok (.iaload, 1) := by decide +kernel
theorem dM_understand_20 : decode cM_understand 20 = .ok (.aload_n 0, 1) := by decide +kernel
theorem dM_understand_21 : decode cM_understand 21 = .ok (.getfield 19, 3) := by decide +kernel
theorem dM_understand_24 : decode cM_understand 24 = .ok (.iload_n 1, 1) := by decide +kernel
theorem dM_understand_25 : decode cM_understand 25 = .ok (.iaload, 1) := by decide +kernel
theorem dM_understand_26 : decode cM_understand 26 = .ok (.if_icmp .ge 21, 3) := by decide +kernel
theorem dM_understand_29 : decode cM_understand 29 = .ok (.aload_n 0, 1) := by decide +kernel
theorem dM_understand_30 : decode cM_understand 30 = .ok (.iload_n 1, 1) := by decide +kernel
theorem dM_understand_31 : decode cM_understand 31 = .ok (.iconst 1, 1) := by decide +kernel
theorem dM_understand_32 : decode cM_understand 32 = .ok (.isub, 1) := by decide +kernel
theorem dM_understand_33 : decode cM_understand 33 = .ok (.invokevirtual 112, 3) := by decide +kernel
theorem dM_understand_36 : decode cM_understand 36 = .ok (.ifCond .eq 11, 3) := by decide +kernel
theorem dM_understand_39 : decode cM_understand 39 = .ok (.aload_n 0, 1) := by decide +kernel
theorem dM_understand_40 : decode cM_understand 40 = .ok (.iload_n 1, 1) := by decide +kernel
theorem dM_understand_41 : decode cM_understand 41 = .ok (.invokevirtual 115, 3) := by decide +kernel
theorem dM_understand_44 : decode cM_understand 44 = .ok (.ifCond .ne 4, 3) := by decide +kernel
theorem dM_understand_47 : decode cM_understand 47 = .ok (.return_, 1) := by decide +kernel
theorem dM_understand_48 : decode cM_understand 48 = .ok (.aload_n 0, 1) := by decide +kernel
theorem dM_understand_49 : decode cM_understand 49 = .ok (.getfield 13, 3) := by decide +kernel
theorem dM_understand_52 : decode cM_understand 52 = .ok (.aload_n 0, 1) := by decide +kernel
theorem dM_understand_53 : decode cM_understand 53 = .ok (.getfield 81, 3) := by decide +kernel
theorem dM_understand_56 : decode cM_understand 56 = .ok (.aload_n 0, 1) := by decide +kernel
theorem dM_understand_57 : decode cM_understand 57 = .ok (.getfield 13, 3) := by decide +kernel
theorem dM_understand_60 : decode cM_understand 60 = .ok (.iload_n 1, 1) := by decide +kernel
theorem dM_understand_61 : decode cM_understand 61 = .ok (.iaload, 1) := by decide +kernel
theorem dM_understand_62 : decode cM_understand 62 = .ok (.iastore, 1) := by decide +kernel
theorem dM_understand_63 : decode cM_understand 63 = .ok (.aload_n 0, 1) := by decide +kernel
theorem dM_understand_64 : decode cM_understand 64 = .ok (.getfield 16, 3) := by decide +kernel
theorem dM_understand_67 : decode cM_understand 67 = .ok (.aload_n 0, 1) := by decide +kernel
theorem dM_understand_68 : decode cM_understand 68 = .ok (.getfield 81, 3) := by decide +kernel
theorem dM_understand_71 : decode cM_understand 71 = .ok (.aload_n 0, 1) := by decide +kernel
theorem dM_understand_72 : decode cM_understand 72 = .ok (.getfield 16, 3) := by decide +kernel
theorem dM_understand_75 : decode cM_understand 75 = .ok (.iload_n 1, 1) := by decide +kernel
theorem dM_understand_76 : decode cM_understand 76 = .ok (.iaload, 1) := by decide +kernel
theorem dM_understand_77 : decode cM_understand 77 = .ok (.iastore, 1) := by decide +kernel
theorem dM_understand_78 : decode cM_understand 78 = .ok (.aload_n 0, 1) := by decide +kernel
theorem dM_understand_79 : decode cM_understand 79 = .ok (.getfield 19, 3) := by decide +kernel
theorem dM_understand_82 : decode cM_understand 82 = .ok (.aload_n 0, 1) := by decide +kernel
theorem dM_understand_83 : decode cM_understand 83 = .ok (.getfield 81, 3) := by decide +kernel
theorem dM_understand_86 : decode cM_understand 86 = .ok (.aload_n 0, 1) := by decide +kernel
theorem dM_understand_87 : decode cM_understand 87 = .ok (.getfield 19, 3) := by decide +kernel
theorem dM_understand_90 : decode cM_understand 90 = .ok (.iload_n 1, 1) := by decide +kernel
theorem dM_understand_91 : decode cM_understand 91 = .ok (.iaload, 1) := by decide +kernel
theorem dM_understand_92 : decode cM_understand 92 = .ok (.iastore, 1) := by decide +kernel
theorem dM_understand_93 : decode cM_understand 93 = .ok (.aload_n 0, 1) := by decide +kernel
theorem dM_understand_94 : decode cM_understand 94 = .ok (.getfield 22, 3) := by decide +kernel
theorem dM_understand_97 : decode cM_understand 97 = .ok (.aload_n 0, 1) := by decide +kernel
theorem dM_understand_98 : decode cM_understand 98 = .ok (.getfield 81, 3) := by decide +kernel
theorem dM_understand_101 : decode cM_understand 101 = .ok (.aload_n 0, 1) := by decide +kernel
theorem dM_understand_102 : decode cM_understand 102 = .ok (.getfield 22, 3) := by decide +kernel
theorem dM_understand_105 : decode cM_understand 105 = .ok (.iload_n 1, 1) := by decide +kernel
theorem dM_understand_106 : decode cM_understand 106 = .ok (.iaload, 1) := by decide +kernel
theorem dM_understand_107 : decode cM_understand 107 = .ok (.iastore, 1) := by decide +kernel
theorem dM_understand_108 : decode cM_understand 108 = .ok (.aload_n 0, 1) := by decide +kernel
theorem dM_understand_109 : decode cM_understand 109 = .ok (.getfield 25, 3) := by decide +kernel
theorem dM_understand_112 : decode cM_understand 112 = .ok (.aload_n 0, 1) := by decide +kernel
theorem dM_understand_113 : decode cM_understand 113 = .ok (.getfield 81, 3) := by decide +kernel
theorem dM_understand_116 : decode cM_understand 116 = .ok (.aload_n 0, 1) := by decide +kernel
theorem dM_understand_117 : decode cM_understand 117 = .ok (.getfield 25, 3) := by decide +kernel
theorem dM_understand_120 : decode cM_understand 120 = .ok (.iload_n 1, 1) := by decide +kernel
theorem dM_understand_121 : decode cM_understand 121 = .ok (.iaload, 1) := by decide +kernel
theorem dM_understand_122 : decode cM_understand 122 = .ok (.iastore, 1) := by decide +kernel
theorem dM_understand_123 : decode cM_understand 123 = .ok (.aload_n 0, 1) := by decide +kernel
theorem dM_understand_124 : decode cM_understand 124 = .ok (.getfield 28, 3) := by decide +kernel
theorem dM_understand_127 : decode cM_understand 127 = .ok (.aload_n 0, 1) := by decide +kernel
theorem dM_understand_128 : decode cM_understand 128 = .ok (.getfield 81, 3) := by decide +kernel
theorem dM_understand_131 : decode cM_understand 131 = .ok (.aload_n 0, 1) := by decide +kernel
theorem dM_understand_132 : decode cM_understand 132 = .ok (.getfield 28, 3) := by decide +kernel
theorem dM_understand_135 : decode cM_understand 135 = .ok (.iload_n 1, 1) := by decide +kernel
theorem dM_understand_136 : decode cM_understand 136 = .ok (.iaload, 1) := by decide +kernel
theorem dM_understand_137 : decode cM_understand 137 = .ok (.iastore, 1) := by decide +kernel
theorem dM_understand_138 : decode cM_understand 138 = .ok (.aload_n 0, 1) := by decide +kernel
theorem dM_understand_139 : decode cM_understand 139 = .ok (.dup, 1) := by decide +kernel
theorem dM_understand_140 : decode cM_understand 140 = .ok (.getfield 81, 3) := by decide +kernel
theorem dM_understand_143 : decode cM_understand 143 = .ok (.iconst 1, 1) := by decide +kernel
theorem dM_understand_144 : decode cM_understand 144 = .ok (.iadd, 1) := by decide +kernel
theorem dM_understand_145 : decode cM_understand 145 = .ok (.putfield 81, 3) := by decide +kernel
theorem dM_understand_148 : decode cM_understand 148 = .ok (.aload_n 0, 1) := by decide +kernel
theorem dM_understand_149 : decode cM_understand 149 = .ok (.getfield 13, 3) := by decide +kernel
theorem dM_understand_152 : decode cM_understand 152 = .ok (.iload_n 1, 1) := by decide +kernel
theorem dM_understand_153 : decode cM_understand 153 = .ok (.iconst 3, 1) := by decide +kernel
theorem dM_understand_154 : decode cM_understand 154 = .ok (.iastore, 1) := by decide +kernel
theorem dM_understand_155 : decode cM_understand 155 = .ok (.aload_n 0, 1) := by decide +kernel
theorem dM_understand_156 : decode cM_understand 156 = .ok (.getfield 22, 3) := by decide +kernel
theorem dM_understand_159 : decode cM_understand 159 = .ok (.iload_n 1, 1) := by decide +kernel
theorem dM_understand_160 : decode cM_understand 160 = .ok (.iconst 0, 1) := by decide +kernel
theorem dM_understand_161 : decode cM_understand 161 = .ok (.iastore, 1) := by decide +kernel
theorem dM_understand_162 : decode cM_understand 162 = .ok (.aload_n 0, 1) := by decide +kernel
theorem dM_understand_163 : decode cM_understand 163 = .ok (.getfield 25, 3) := by decide +kernel
theorem dM_understand_166 : decode cM_understand 166 = .ok (.iload_n 1, 1) := by decide +kernel
theorem dM_understand_167 : decode cM_understand 167 = .ok (.aload_n 0, 1) := by decide +kernel
theorem dM_understand_168 : decode cM_understand 168 = .ok (.getfield 84, 3) := by decide +kernel
theorem dM_understand_171 : decode cM_understand 171 = .ok (.iastore, 1) := by decide +kernel
theorem dM_understand_172 : decode cM_understand 172 = .ok (.aload_n 0, 1) := by decide +kernel
theorem dM_understand_173 : decode cM_understand 173 = .ok (.getfield 28, 3) := by decide +kernel
theorem dM_understand_176 : decode cM_understand 176 = .ok (.iload_n 1, 1) := by decide +kernel
theorem dM_understand_177 : decode cM_understand 177 = .ok (.iconst 1, 1) := by decide +kernel
theorem dM_understand_178 : decode cM_understand 178 = .ok (.iastore, 1) := by decide +kernel
theorem dM_understand_179 : decode cM_understand 179 = .ok (.aload_n 0, 1) := by decide +kernel
theorem dM_understand_180 : decode cM_understand 180 = .ok (.getfield 31, 3) := by decide +kernel
theorem dM_understand_183 : decode cM_understand 183 = .ok (.aload_n 0, 1) := by decide +kernel
theorem dM_understand_184 : decode cM_understand 184 = .ok (.getfield 84, 3) := by decide +kernel
theorem dM_understand_187 : decode cM_understand 187 = .ok (.bipush 59, 2) := by decide +kernel
theorem dM_understand_189 : decode cM_understand 189 = .ok (.iastore, 1) := by decide +kernel
theorem dM_understand_190 : decode cM_understand 190 = .ok (.aload_n 0, 1) := by decide +kernel
theorem dM_understand_191 : decode cM_understand 191 = .ok (.dup, 1) := by decide +kernel
theorem dM_understand_192 : decode cM_understand 192 = .ok (.getfield 84, 3) := by decide +kernel
theorem dM_understand_195 : decode cM_understand 195 = .ok (.iconst 1, 1) := by decide +kernel
theorem dM_understand_196 : decode cM_understand 196 = .ok (.iadd, 1) := by decide +kernel
theorem dM_understand_197 : decode cM_understand 197 = .ok (.putfield 84, 3) := by decide +kernel
theorem dM_understand_200 : decode cM_understand 200 = .ok (.return_, 1) := by decide +kernel
theorem dM_ends_0 : decode cM_ends 0 = .ok (.aload_n 0, 1) := by decide +kernel
theorem dM_ends_1 : decode cM_ends 1 = .ok (.getfield 13, 3) := by decide +kernel
theorem dM_ends_4 : decode cM_ends 4 = .ok (.iload_n 1, 1) := by decide +kernel
theorem dM_ends_5 : decode cM_ends 5 = .ok (.iaload, 1) := by decide +kernel
theorem dM_ends_6 : decode cM_ends 6 = .ok (.invokestatic 101, 3) := by decide +kernel
theorem dM_ends_9 : decode cM_ends 9 = .ok (.ifCond .ne 46, 3) := by decide +kernel
theorem dM_ends_12 : decode cM_ends 12 = .ok (.aload_n 0, 1) := by decide +kernel
theorem dM_ends_13 : decode cM_ends 13 = .ok (.iload_n 1, 1) := by decide +kernel
theorem dM_ends_14 : decode cM_ends 14 = .ok (.bipush 36, 2) := by decide +kernel
theorem dM_ends_16 : decode cM_ends 16 = .ok (.bipush 41, 2) := by decide +kernel
theorem dM_ends_18 : decode cM_ends 18 = .ok (.invokevirtual 104, 3) := by decide +kernel
theorem dM_ends_21 : decode cM_ends 21 = .ok (.ifCond .ne 34, 3) := by decide +kernel
theorem dM_ends_24 : decode cM_ends 24 = .ok (.aload_n 0, 1) := by decide +kernel
theorem dM_ends_25 : decode cM_ends 25 = .ok (.iload_n 1, 1) := by decide +kernel
theorem dM_ends_26 : decode cM_ends 26 = .ok (.bipush 41, 2) := by decide +kernel
theorem dM_ends_28 : decode cM_ends 28 = .ok (.iconst 0, 1) := by decide +kernel
theorem dM_ends_29 : decode cM_ends 29 = .ok (.invokevirtual 104, 3) := by decide +kernel
theorem dM_ends_32 : decode cM_ends 32 = .ok (.ifCond .ne 23, 3) := by decide +kernel
theorem dM_ends_35 : decode cM_ends 35 = .ok (.aload_n 0, 1) := by decide +kernel
theorem dM_ends_36 : decode cM_ends 36 = .ok (.getfield 13, 3) := by decide +kernel
theorem dM_ends_39 : decode cM_ends 39 = .ok (.iload_n 1, 1) := by decide +kernel
theorem dM_ends_40 : decode cM_ends 40 = .ok (.iaload, 1) := by decide +kernel
theorem dM_ends_41 : decode cM_ends 41 = .ok (.iconst 4, 1) := by decide +kernel
theorem dM_ends_42 : decode cM_ends 42 = .ok (.if_icmp .ne 17, 3) := by decide +kernel
theorem dM_ends_45 : decode cM_ends 45 = .ok (.aload_n 0, 1) := by decide +kernel
theorem dM_ends_46 : decode cM_ends 46 = .ok (.iload_n 1, 1) := by decide +kernel
theorem dM_ends_47 : decode cM_ends 47 = .ok (.ldc 40, 2) := by decide +kernel
theorem dM_ends_49 : decode cM_ends 49 = .ok (.invokevirtual 108, 3) := by decide +kernel
theorem dM_ends_52 : decode cM_ends 52 = .ok (.ifCond .eq 7, 3) := by decide +kernel
theorem dM_ends_55 : decode cM_ends 55 = .ok (.iconst 1, 1) := by decide +kernel
theorem dM_ends_56 : decode cM_ends 56 = .ok (.goto 4, 3) := by decide +kernel
theorem dM_ends_59 : decode cM_ends 59 = .ok (.iconst 0, 1) := by decide +kernel
theorem dM_ends_60 : decode cM_ends 60 = .ok (.ireturn, 1) := by decide +kernel
theorem dM_isPlain_0 : decode cM_isPlain 0 = .ok (.iload_n 0, 1) := by decide +kernel
theorem dM_isPlain_1 : decode cM_isPlain 1 = .ok (.ifCond .eq 13, 3) := by decide +kernel
theorem dM_isPlain_4 : decode cM_isPlain 4 = .ok (.iload_n 0, 1) := by decide +kernel
theorem dM_isPlain_5 : decode cM_isPlain 5 = .ok (.iconst 1, 1) := by decide +kernel
theorem dM_isPlain_6 : decode cM_isPlain 6 = .ok (.if_icmp .eq 8, 3) := by decide +kernel
theorem dM_isPlain_9 : decode cM_isPlain 9 = .ok (.iload_n 0, 1) := by decide +kernel
theorem dM_isPlain_10 : decode cM_isPlain 10 = .ok (.iconst 2, 1) := by decide +kernel
theorem dM_isPlain_11 : decode cM_isPlain 11 = .ok (.if_icmp .ne 7, 3) := by decide +kernel
theorem dM_isPlain_14 : decode cM_isPlain 14 = .ok (.iconst 1, 1) := by decide +kernel
theorem dM_isPlain_15 : decode cM_isPlain 15 = .ok (.goto 4, 3) := by decide +kernel
theorem dM_isPlain_18 : decode cM_isPlain 18 = .ok (.iconst 0, 1) := by decide +kernel
theorem dM_isPlain_19 : decode cM_isPlain 19 = .ok (.ireturn, 1) := by decide +kernel
theorem dM_is_0 : decode cM_is 0 = .ok (.aload_n 0, 1) := by decide +kernel
theorem dM_is_1 : decode cM_is 1 = .ok (.getfield 13, 3) := by decide +kernel
theorem dM_is_4 : decode cM_is 4 = .ok (.iload_n 1, 1) := by decide +kernel
theorem dM_is_5 : decode cM_is 5 = .ok (.iaload, 1) := by decide +kernel
theorem dM_is_6 : decode cM_is 6 = .ok (.iconst 3, 1) := by decide +kernel
theorem dM_is_7 : decode cM_is 7 = .ok (.if_icmp .ne 61, 3) := by decide +kernel
theorem dM_is_10 : decode cM_is 10 = .ok (.aload_n 0, 1) := by decide +kernel
theorem dM_is_11 : decode cM_is 11 = .ok (.getfield 31, 3) := by decide +kernel
theorem dM_is_14 : decode cM_is 14 = .ok (.aload_n 0, 1) := by decide +kernel
theorem dM_is_15 : decode cM_is 15 = .ok (.getfield 25, 3) := by decide +kernel
theorem dM_is_18 : decode cM_is 18 = .ok (.iload_n 1, 1) := by decide +kernel
theorem dM_is_19 : decode cM_is 19 = .ok (.iaload, 1) := by decide +kernel
theorem dM_is_20 : decode cM_is 20 = .ok (.iaload, 1) := by decide +kernel
theorem dM_is_21 : decode cM_is 21 = .ok (.iload_n 2, 1) := by decide +kernel
theorem dM_is_22 : decode cM_is 22 = .ok (.if_icmp .ne 46, 3) := by decide +kernel
theorem dM_is_25 : decode cM_is 25 = .ok (.aload_n 0, 1) := by decide +kernel
theorem dM_is_26 : decode cM_is 26 = .ok (.getfield 28, 3) := by decide +kernel
theorem dM_is_29 : decode cM_is 29 = .ok (.iload_n 1, 1) := by decide +kernel
theorem dM_is_30 : decode cM_is 30 = .ok (.iaload, 1) := by decide +kernel
theorem dM_is_31 : decode cM_is 31 = .ok (.iload_n 3, 1) := by decide +kernel
theorem dM_is_32 : decode cM_is 32 = .ok (.ifCond .ne 7, 3) := by decide +kernel
theorem dM_is_35 : decode cM_is 35 = .ok (.iconst 1, 1) := by decide +kernel
theorem dM_is_36 : decode cM_is 36 = .ok (.goto 4, 3) := by decide +kernel
theorem dM_is_39 : decode cM_is 39 = .ok (.iconst 2, 1) := by decide +kernel
theorem dM_is_40 : decode cM_is 40 = .ok (.if_icmp .ne 28, 3) := by decide +kernel
theorem dM_is_43 : decode cM_is 43 = .ok (.iload_n 3, 1) := by decide +kernel
theorem dM_is_44 : decode cM_is 44 = .ok (.ifCond .eq 20, 3) := by decide +kernel
theorem dM_is_47 : decode cM_is 47 = .ok (.aload_n 0, 1) := by decide +kernel
theorem dM_is_48 : decode cM_is 48 = .ok (.getfield 31, 3) := by decide +kernel
theorem dM_is_51 : decode cM_is 51 = .ok (.aload_n 0, 1) := by decide +kernel
theorem dM_is_52 : decode cM_is 52 = .ok (.getfield 25, 3) := by decide +kernel
theorem dM_is_55 : decode cM_is 55 = .ok (.iload_n 1, 1) := by decide +kernel
theorem dM_is_56 : decode cM_is 56 = .ok (.iaload, 1) := by decide +kernel
theorem dM_is_57 : decode cM_is 57 = .ok (.iconst 1, 1) := by decide +kernel
theorem dM_is_58 : decode cM_is 58 = .ok (.iadd, 1) := by decide +kernel
theorem dM_is_59 : decode cM_is 59 = .ok (.iaload, 1) := by decide +kernel
theorem dM_is_60 : decode cM_is 60 = .ok (.iload_n 3, 1) := by decide +kernel
theorem dM_is_61 : decode cM_is 61 = .ok (.if_icmp .ne 7, 3) := by decide +kernel
theorem dM_is_64 : decode cM_is 64 = .ok (.iconst 1, 1) := by decide +kernel
theorem dM_is_65 : decode cM_is 65 = .ok (.goto 4, 3) := by decide +kernel
theorem dM_is_68 : decode cM_is 68 = .ok (.iconst 0, 1) := by decide +kernel
theorem dM_is_69 : decode cM_is 69 = .ok (.ireturn, 1) := by decide +kernel
theorem dM_begins_0 : decode cM_begins 0 = .ok (.aload_n 0, 1) := by decide +kernel
theorem dM_begins_1 : decode cM_begins 1 = .ok (.getfield 13, 3) := by decide +kernel
theorem dM_begins_4 : decode cM_begins 4 = .ok (.iload_n 1, 1) := by decide +kernel
theorem dM_begins_5 : decode cM_begins 5 = .ok (.iaload, 1) := by decide +kernel
theorem dM_begins_6 : decode cM_begins 6 = .ok (.invokestatic 101, 3) := by decide +kernel
theorem dM_begins_9 : decode cM_begins 9 = .ok (.ifCond .ne 68, 3) := by decide +kernel
theorem dM_begins_12 : decode cM_begins 12 = .ok (.aload_n 0, 1) := by decide +kernel
theorem dM_begins_13 : decode cM_begins 13 = .ok (.iload_n 1, 1) := by decide +kernel
theorem dM_begins_14 : decode cM_begins 14 = .ok (.bipush 40, 2) := by decide +kernel
theorem dM_begins_16 : decode cM_begins 16 = .ok (.iconst 0, 1) := by decide +kernel
theorem dM_begins_17 : decode cM_begins 17 = .ok (.invokevirtual 104, 3) := by decide +kernel
theorem dM_begins_20 : decode cM_begins 20 = .ok (.ifCond .ne 57, 3) := by decide +kernel
theorem dM_begins_23 : decode cM_begins 23 = .ok (.aload_n 0, 1) := by decide +kernel
theorem dM_begins_24 : decode cM_begins 24 = .ok (.iload_n 1, 1) := by decide +kernel
theorem dM_begins_25 : decode cM_begins 25 = .ok (.bipush 33, 2) := by decide +kernel
theorem dM_begins_27 : decode cM_begins 27 = .ok (.iconst 0, 1) := by decide +kernel
theorem dM_begins_28 : decode cM_begins 28 = .ok (.invokevirtual 104, 3) := by decide +kernel
theorem dM_begins_31 : decode cM_begins 31 = .ok (.ifCond .ne 46, 3) := by decide +kernel
theorem dM_begins_34 : decode cM_begins 34 = .ok (.aload_n 0, 1) := by decide +kernel
theorem dM_begins_35 : decode cM_begins 35 = .ok (.iload_n 1, 1) := by decide +kernel
theorem dM_begins_36 : decode cM_begins 36 = .ok (.bipush 64, 2) := by decide +kernel
theorem dM_begins_38 : decode cM_begins 38 = .ok (.iconst 0, 1) := by decide +kernel
theorem dM_begins_39 : decode cM_begins 39 = .ok (.invokevirtual 104, 3) := by decide +kernel
theorem dM_begins_42 : decode cM_begins 42 = .ok (.ifCond .ne 35, 3) := by decide +kernel
theorem dM_begins_45 : decode cM_begins 45 = .ok (.aload_n 0, 1) := by decide +kernel
theorem dM_begins_46 : decode cM_begins 46 = .ok (.iload_n 1, 1) := by decide +kernel
theorem dM_begins_47 : decode cM_begins 47 = .ok (.bipush 36, 2) := by decide +kernel
theorem dM_begins_49 : decode cM_begins 49 = .ok (.bipush 40, 2) := by decide +kernel
theorem dM_begins_51 : decode cM_begins 51 = .ok (.invokevirtual 104, 3) := by decide +kernel
theorem dM_begins_54 : decode cM_begins 54 = .ok (.ifCond .ne 23, 3) := by decide +kernel
theorem dM_begins_57 : decode cM_begins 57 = .ok (.aload_n 0, 1) := by decide +kernel
theorem dM_begins_58 : decode cM_begins 58 = .ok (.getfield 13, 3) := by decide +kernel
theorem dM_begins_61 : decode cM_begins 61 = .ok (.iload_n 1, 1) := by decide +kernel
theorem dM_begins_62 : decode cM_begins 62 = .ok (.iaload, 1) := by decide +kernel
theorem dM_begins_63 : decode cM_begins 63 = .ok (.iconst 4, 1) := by decide +kernel
theorem dM_begins_64 : decode cM_begins 64 = .ok (.if_icmp .ne 17, 3) := by decide +kernel
theorem dM_begins_67 : decode cM_begins 67 = .ok (.aload_n 0, 1) := by decide +kernel
theorem dM_begins_68 : decode cM_begins 68 = .ok (.iload_n 1, 1) := by decide +kernel
theorem dM_begins_69 : decode cM_begins 69 = .ok (.ldc 45, 2) := by decide +kernel
theorem dM_begins_71 : decode cM_begins 71 = .ok (.invokevirtual 108, 3) := by decide +kernel
theorem dM_begins_74 : decode cM_begins 74 = .ok (.ifCond .eq 7, 3) := by decide +kernel
theorem dM_begins_77 : decode cM_begins 77 = .ok (.iconst 1, 1) := by decide +kernel
theorem dM_begins_78 : decode cM_begins 78 = .ok (.goto 4, 3) := by decide +kernel
theorem dM_begins_81 : decode cM_begins 81 = .ok (.iconst 0, 1) := by decide +kernel
theorem dM_begins_82 : decode cM_begins 82 = .ok (.ireturn, 1) := by decide +kernel
theorem dM_kind_0 : decode cM_kind 0 = .ok (.aload_n 0, 1) := by decide +kernel
theorem dM_kind_1 : decode cM_kind 1 = .ok (.iload_n 1, 1) := by decide +kernel
theorem dM_kind_2 : decode cM_kind 2 = .ok (.invokevirtual 175, 3) := by decide +kernel
theorem dM_kind_5 : decode cM_kind 5 = .ok (.ifCond .eq 12, 3) := by decide +kernel
theorem dM_kind_8 : decode cM_kind 8 = .ok (.aload_n 0, 1) := by decide +kernel
theorem dM_kind_9 : decode cM_kind 9 = .ok (.getfield 13, 3) := by decide +kernel
theorem dM_kind_12 : decode cM_kind 12 = .ok (.iload_n 1, 1) := by decide +kernel
theorem dM_kind_13 : decode cM_kind 13 = .ok (.iaload, 1) := by decide +kernel
theorem dM_kind_14 : decode cM_kind 14 = .ok (.goto 4, 3) := by decide +kernel
theorem dM_kind_17 : decode cM_kind 17 = .ok (.iconst (-1), 1) := by decide +kernel
theorem dM_kind_18 : decode cM_kind 18 = .ok (.ireturn, 1) := by decide +kernel
theorem dM_isToken_0 : decode cM_isToken 0 = .ok (.iload_n 1, 1) := by decide +kernel
theorem dM_isToken_1 : decode cM_isToken 1 = .ok (.ifCond .lt 15, 3) := by decide +kernel
theorem dM_isToken_4 : decode cM_isToken 4 = .ok (.iload_n 1, 1) := by decide +kernel
theorem dM_isToken_5 : decode cM_isToken 5 = .ok (.aload_n 0, 1) := by decide +kernel
theorem dM_isToken_6 : decode cM_isToken 6 = .ok (.getfield 81, 3) := by decide +kernel
theorem dM_isToken_9 : decode cM_isToken 9 = .ok (.if_icmp .ge 7, 3) := by decide +kernel
theorem dM_isToken_12 : decode cM_isToken 12 = .ok (.iconst 1, 1) := by decide +kernel
theorem dM_isToken_13 : decode cM_isToken 13 = .ok (.goto 4, 3) := by decide +kernel
theorem dM_isToken_16 : decode cM_isToken 16 = .ok (.iconst 0, 1) := by decide +kernel
theorem dM_isToken_17 : decode cM_isToken 17 = .ok (.ireturn, 1) := by decide +kernel
theorem dM_place_0 : decode cM_place 0 = .ok (.aload_n 0, 1) := by decide +kernel
theorem dM_place_1 : decode cM_place 1 = .ok (.iload_n 1, 1) := by decide +kernel
theorem dM_place_2 : decode cM_place 2 = .ok (.invokevirtual 175, 3) := by decide +kernel
theorem dM_place_5 : decode cM_place 5 = .ok (.ifCond .eq 12, 3) := by decide +kernel
theorem dM_place_8 : decode cM_place 8 = .ok (.aload_n 0, 1) := by decide +kernel
theorem dM_place_9 : decode cM_place 9 = .ok (.getfield 16, 3) := by decide +kernel
theorem dM_place_12 : decode cM_place 12 = .ok (.iload_n 1, 1) := by decide +kernel
theorem dM_place_13 : decode cM_place 13 = .ok (.iaload, 1) := by decide +kernel
theorem dM_place_14 : decode cM_place 14 = .ok (.goto 4, 3) := by decide +kernel
theorem dM_place_17 : decode cM_place 17 = .ok (.iconst (-1), 1) := by decide +kernel
theorem dM_place_18 : decode cM_place 18 = .ok (.ireturn, 1) := by decide +kernel
theorem dM_line_0 : decode cM_line 0 = .ok (.aload_n 0, 1) := by decide +kernel
theorem dM_line_1 : decode cM_line 1 = .ok (.iload_n 1, 1) := by decide +kernel
theorem dM_line_2 : decode cM_line 2 = .ok (.invokevirtual 175, 3) := by decide +kernel
theorem dM_line_5 : decode cM_line 5 = .ok (.ifCond .eq 12, 3) := by decide +kernel
theorem dM_line_8 : decode cM_line 8 = .ok (.aload_n 0, 1) := by decide +kernel
theorem dM_line_9 : decode cM_line 9 = .ok (.getfield 19, 3) := by decide +kernel
theorem dM_line_12 : decode cM_line 12 = .ok (.iload_n 1, 1) := by decide +kernel
theorem dM_line_13 : decode cM_line 13 = .ok (.iaload, 1) := by decide +kernel
theorem dM_line_14 : decode cM_line 14 = .ok (.goto 4, 3) := by decide +kernel
theorem dM_line_17 : decode cM_line 17 = .ok (.iconst (-1), 1) := by decide +kernel
theorem dM_line_18 : decode cM_line 18 = .ok (.ireturn, 1) := by decide +kernel
theorem dM_value_0 : decode cM_value 0 = .ok (.aload_n 0, 1) := by decide +kernel
theorem dM_value_1 : decode cM_value 1 = .ok (.iload_n 1, 1) := by decide +kernel
theorem dM_value_2 : decode cM_value 2 = .ok (.invokevirtual 175, 3) := by decide +kernel
theorem dM_value_5 : decode cM_value 5 = .ok (.ifCond .eq 12, 3) := by decide +kernel
theorem dM_value_8 : decode cM_value 8 = .ok (.aload_n 0, 1) := by decide +kernel
theorem dM_value_9 : decode cM_value 9 = .ok (.getfield 22, 3) := by decide +kernel
theorem dM_value_12 : decode cM_value 12 = .ok (.iload_n 1, 1) := by decide +kernel
theorem dM_value_13 : decode cM_value 13 = .ok (.iaload, 1) := by decide +kernel
theorem dM_value_14 : decode cM_value 14 = .ok (.goto 4, 3) := by decide +kernel
theorem dM_value_17 : decode cM_value 17 = .ok (.iconst 0, 1) := by decide +kernel
theorem dM_value_18 : decode cM_value 18 = .ok (.ireturn, 1) := by decide +kernel
theorem dM_level_0 : decode cM_level 0 = .ok (.aload_n 0, 1) := by decide +kernel
theorem dM_level_1 : decode cM_level 1 = .ok (.iload_n 1, 1) := by decide +kernel
theorem dM_level_2 : decode cM_level 2 = .ok (.invokevirtual 175, 3) := by decide +kernel
theorem dM_level_5 : decode cM_level 5 = .ok (.ifCond .ne 5, 3) := by decide +kernel
theorem dM_level_8 : decode cM_level 8 = .ok (.iconst (-1), 1) := by decide +kernel
theorem dM_level_9 : decode cM_level 9 = .ok (.ireturn, 1) := by decide +kernel
theorem dM_level_10 : decode cM_level 10 = .ok (.aload_n 0, 1) := by decide +kernel
theorem dM_level_11 : decode cM_level 11 = .ok (.getfield 13, 3) := by decide +kernel
theorem dM_level_14 : decode cM_level 14 = .ok (.iload_n 1, 1) := by decide +kernel
theorem dM_level_15 : decode cM_level 15 = .ok (.iaload, 1) := by decide +kernel
theorem dM_level_16 : decode cM_level 16 = .ok (.iconst 4, 1) := by decide +kernel
theorem dM_level_17 : decode cM_level 17 = .ok (.if_icmp .ne 34, 3) := by decide +kernel
theorem dM_level_20 : decode cM_level 20 = .ok (.aload_n 0, 1) := by decide +kernel
theorem dM_level_21 : decode cM_level 21 = .ok (.iload_n 1, 1) := by decide +kernel
theorem dM_level_22 : decode cM_level 22 = .ok (.ldc 178, 2) := by decide +kernel
theorem dM_level_24 : decode cM_level 24 = .ok (.invokevirtual 108, 3) := by decide +kernel
theorem dM_level_27 : decode cM_level 27 = .ok (.ifCond .eq 7, 3) := by decide +kernel
theorem dM_level_30 : decode cM_level 30 = .ok (.iconst 0, 1) := by decide +kernel
theorem dM_level_31 : decode cM_level 31 = .ok (.goto 19, 3) := by decide +kernel
theorem dM_level_34 : decode cM_level 34 = .ok (.aload_n 0, 1) := by decide +kernel
theorem dM_level_35 : decode cM_level 35 = .ok (.iload_n 1, 1) := by decide +kernel
theorem dM_level_36 : decode cM_level 36 = .ok (.ldc 180, 2) := by decide +kernel
theorem dM_level_38 : decode cM_level 38 = .ok (.invokevirtual 108, 3) := by decide +kernel
theorem dM_level_41 : decode cM_level 41 = .ok (.ifCond .eq 8, 3) := by decide +kernel
theorem dM_level_44 : decode cM_level 44 = .ok (.bipush 6, 2) := by decide +kernel
theorem dM_level_46 : decode cM_level 46 = .ok (.goto 4, 3) := by decide +kernel
theorem dM_level_49 : decode cM_level 49 = .ok (.iconst (-1), 1) := by decide +kernel
theorem dM_level_50 : decode cM_level 50 = .ok (.ireturn, 1) := by decide +kernel
theorem dM_level_51 : decode cM_level 51 = .ok (.aload_n 0, 1) := by decide +kernel
theorem dM_level_52 : decode cM_level 52 = .ok (.iload_n 1, 1) := by decide +kernel
theorem dM_level_53 : decode cM_level 53 = .ok (.bipush 124, 2) := by decide +kernel
theorem dM_level_55 : decode cM_level 55 = .ok (.iconst 0, 1) := by decide +kernel
theorem dM_level_56 : decode cM_level 56 = .ok (.invokevirtual 104, 3) := by decide +kernel
theorem dM_level_59 : decode cM_level 59 = .ok (.ifCond .eq 5, 3) := by decide +kernel
theorem dM_level_62 : decode cM_level 62 = .ok (.iconst 1, 1) := by decide +kernel
theorem dM_level_63 : decode cM_level 63 = .ok (.ireturn, 1) := by decide +kernel
theorem dM_level_64 : decode cM_level 64 = .ok (.aload_n 0, 1) := by decide +kernel
theorem dM_level_65 : decode cM_level 65 = .ok (.iload_n 1, 1) := by decide +kernel
theorem dM_level_66 : decode cM_level 66 = .ok (.bipush 38, 2) := by decide +kernel
theorem dM_level_68 : decode cM_level 68 = .ok (.iconst 0, 1) := by decide +kernel
theorem dM_level_69 : decode cM_level 69 = .ok (.invokevirtual 104, 3) := by decide +kernel
theorem dM_level_72 : decode cM_level 72 = .ok (.ifCond .eq 5, 3) := by decide +kernel
theorem dM_level_75 : decode cM_level 75 = .ok (.iconst 2, 1) := by decide +kernel
theorem dM_level_76 : decode cM_level 76 = .ok (.ireturn, 1) := by decide +kernel
theorem dM_level_77 : decode cM_level 77 = .ok (.aload_n 0, 1) := by decide +kernel
theorem dM_level_78 : decode cM_level 78 = .ok (.iload_n 1, 1) := by decide +kernel
theorem dM_level_79 : decode cM_level 79 = .ok (.bipush 60, 2) := by decide +kernel
theorem dM_level_81 : decode cM_level 81 = .ok (.bipush 60, 2) := by decide +kernel
theorem dM_level_83 : decode cM_level 83 = .ok (.invokevirtual 104, 3) := by decide +kernel
theorem dM_level_86 : decode cM_level 86 = .ok (.ifCond .ne 15, 3) := by decide +kernel
theorem dM_level_89 : decode cM_level 89 = .ok (.aload_n 0, 1) := by decide +kernel
theorem dM_level_90 : decode cM_level 90 = .ok (.iload_n 1, 1) := by decide +kernel
theorem dM_level_91 : decode cM_level 91 = .ok (.bipush 62, 2) := by decide +kernel
theorem dM_level_93 : decode cM_level 93 = .ok (.bipush 62, 2) := by decide +kernel
theorem dM_level_95 : decode cM_level 95 = .ok (.invokevirtual 104, 3) := by decide +kernel
theorem dM_level_98 : decode cM_level 98 = .ok (.ifCond .eq 5, 3) := by decide +kernel
theorem dM_level_101 : decode cM_level 101 = .ok (.iconst 3, 1) := by decide +kernel
theorem dM_level_102 : decode cM_level 102 = .ok (.ireturn, 1) := by decide +kernel
theorem dM_level_103 : decode cM_level 103 = .ok (.aload_n 0, 1) := by decide +kernel
theorem dM_level_104 : decode cM_level 104 = .ok (.iload_n 1, 1) := by decide +kernel
theorem dM_level_105 : decode cM_level 105 = .ok (.bipush 61, 2) := by decide +kernel
theorem dM_level_107 : decode cM_level 107 = .ok (.iconst 0, 1) := by decide +kernel
theorem dM_level_108 : decode cM_level 108 = .ok (.invokevirtual 104, 3) := by decide +kernel
theorem dM_level_111 : decode cM_level 111 = .ok (.ifCond .ne 61, 3) := by decide +kernel
theorem dM_level_114 : decode cM_level 114 = .ok (.aload_n 0, 1) := by decide +kernel
theorem dM_level_115 : decode cM_level 115 = .ok (.iload_n 1, 1) := by decide +kernel
theorem dM_level_116 : decode cM_level 116 = .ok (.bipush 126, 2) := by decide +kernel
theorem dM_level_118 : decode cM_level 118 = .ok (.bipush 61, 2) := by decide +kernel
theorem dM_level_120 : decode cM_level 120 = .ok (.invokevirtual 104, 3) := by decide +kernel
theorem dM_level_123 : decode cM_level 123 = .ok (.ifCond .ne 49, 3) := by decide +kernel
theorem dM_level_126 : decode cM_level 126 = .ok (.aload_n 0, 1) := by decide +kernel
theorem dM_level_127 : decode cM_level 127 = .ok (.iload_n 1, 1) := by decide +kernel
theorem dM_level_128 : decode cM_level 128 = .ok (.bipush 60, 2) := by decide +kernel
theorem dM_level_130 : decode cM_level 130 = .ok (.iconst 0, 1) := by decide +kernel
theorem dM_level_131 : decode cM_level 131 = .ok (.invokevirtual 104, 3) := by decide +kernel
theorem dM_level_134 : decode cM_level 134 = .ok (.ifCond .ne 38, 3) := by decide +kernel
theorem dM_level_137 : decode cM_level 137 = .ok (.aload_n 0, 1) := by decide +kernel
theorem dM_level_138 : decode cM_level 138 = .ok (.iload_n 1, 1) := by decide +kernel
theorem dM_level_139 : decode cM_level 139 = .ok (.bipush 60, 2) := by decide +kernel
theorem dM_level_141 : decode cM_level 141 = .ok (.bipush 61, 2) := by decide +kernel
theorem dM_level_143 : decode cM_level 143 = .ok (.invokevirtual 104, 3) := by decide +kernel
theorem dM_level_146 : decode cM_level 146 = .ok (.ifCond .ne 26, 3) := by decide +kernel
theorem dM_level_149 : decode cM_level 149 = .ok (.aload_n 0, 1) := by decide +kernel
theorem dM_level_150 : decode cM_level 150 = .ok (.iload_n 1, 1) := by decide +kernel
theorem dM_level_151 : decode cM_level 151 = .ok (.bipush 62, 2) := by decide +kernel
theorem dM_level_153 : decode cM_level 153 = .ok (.iconst 0, 1) := by decide +kernel
theorem dM_level_154 : decode cM_level 154 = .ok (.invokevirtual 104, 3) := by decide +kernel
theorem dM_level_157 : decode cM_level 157 = .ok (.ifCond .ne 15, 3) := by decide +kernel
theorem dM_level_160 : decode cM_level 160 = .ok (.aload_n 0, 1) := by decide +kernel
theorem dM_level_161 : decode cM_level 161 = .ok (.iload_n 1, 1) := by decide +kernel
theorem dM_level_162 : decode cM_level 162 = .ok (.bipush 62, 2) := by decide +kernel
theorem dM_level_164 : decode cM_level 164 = .ok (.bipush 61, 2) := by decide +kernel
theorem dM_level_166 : decode cM_level 166 = .ok (.invokevirtual 104, 3) := by decide +kernel
theorem dM_level_169 : decode cM_level 169 = .ok (.ifCond .eq 5, 3) := by decide +kernel
theorem dM_level_172 : decode cM_level 172 = .ok (.iconst 4, 1) := by decide +kernel
theorem dM_level_173 : decode cM_level 173 = .ok (.ireturn, 1) := by decide +kernel
theorem dM_level_174 : decode cM_level 174 = .ok (.aload_n 0, 1) := by decide +kernel
theorem dM_level_175 : decode cM_level 175 = .ok (.iload_n 1, 1) := by decide +kernel
theorem dM_level_176 : decode cM_level 176 = .ok (.bipush 43, 2) := by decide +kernel
theorem dM_level_178 : decode cM_level 178 = .ok (.iconst 0, 1) := by decide +kernel
theorem dM_level_179 : decode cM_level 179 = .ok (.invokevirtual 104, 3) := by decide +kernel
theorem dM_level_182 : decode cM_level 182 = .ok (.ifCond .ne 14, 3) := by decide +kernel
theorem dM_level_185 : decode cM_level 185 = .ok (.aload_n 0, 1) := by decide +kernel
theorem dM_level_186 : decode cM_level 186 = .ok (.iload_n 1, 1) := by decide +kernel
theorem dM_level_187 : decode cM_level 187 = .ok (.bipush 45, 2) := by decide +kernel
theorem dM_level_189 : decode cM_level 189 = .ok (.iconst 0, 1) := by decide +kernel
theorem dM_level_190 : decode cM_level 190 = .ok (.invokevirtual 104, 3) := by decide +kernel
theorem dM_level_193 : decode cM_level 193 = .ok (.ifCond .eq 5, 3) := by decide +kernel
theorem dM_level_196 : decode cM_level 196 = .ok (.iconst 5, 1) := by decide +kernel
theorem dM_level_197 : decode cM_level 197 = .ok (.ireturn, 1) := by decide +kernel
theorem dM_level_198 : decode cM_level 198 = .ok (.aload_n 0, 1) := by decide +kernel
theorem dM_level_199 : decode cM_level 199 = .ok (.iload_n 1, 1) := by decide +kernel
theorem dM_level_200 : decode cM_level 200 = .ok (.bipush 42, 2) := by decide +kernel
theorem dM_level_202 : decode cM_level 202 = .ok (.iconst 0, 1) := by decide +kernel
theorem dM_level_203 : decode cM_level 203 = .ok (.invokevirtual 104, 3) := by decide +kernel
theorem dM_level_206 : decode cM_level 206 = .ok (.ifCond .ne 14, 3) := by decide +kernel
theorem dM_level_209 : decode cM_level 209 = .ok (.aload_n 0, 1) := by decide +kernel
theorem dM_level_210 : decode cM_level 210 = .ok (.iload_n 1, 1) := by decide +kernel
theorem dM_level_211 : decode cM_level 211 = .ok (.bipush 47, 2) := by decide +kernel
theorem dM_level_213 : decode cM_level 213 = .ok (.iconst 0, 1) := by decide +kernel
theorem dM_level_214 : decode cM_level 214 = .ok (.invokevirtual 104, 3) := by decide +kernel
theorem dM_level_217 : decode cM_level 217 = .ok (.ifCond .eq 8, 3) := by decide +kernel
theorem dM_level_220 : decode cM_level 220 = .ok (.bipush 6, 2) := by decide +kernel
theorem dM_level_222 : decode cM_level 222 = .ok (.goto 4, 3) := by decide +kernel
theorem dM_level_225 : decode cM_level 225 = .ok (.iconst (-1), 1) := by decide +kernel
theorem dM_level_226 : decode cM_level 226 = .ok (.ireturn, 1) := by decide +kernel
theorem dM_size_0 : decode cM_size 0 = .ok (.aload_n 0, 1) := by decide +kernel
theorem dM_size_1 : decode cM_size 1 = .ok (.iload_n 1, 1) := by decide +kernel
theorem dM_size_2 : decode cM_size 2 = .ok (.invokevirtual 175, 3) := by decide +kernel
theorem dM_size_5 : decode cM_size 5 = .ok (.ifCond .eq 12, 3) := by decide +kernel
theorem dM_size_8 : decode cM_size 8 = .ok (.aload_n 0, 1) := by decide +kernel
theorem dM_size_9 : decode cM_size 9 = .ok (.getfield 28, 3) := by decide +kernel
theorem dM_size_12 : decode cM_size 12 = .ok (.iload_n 1, 1) := by decide +kernel
theorem dM_size_13 : decode cM_size 13 = .ok (.iaload, 1) := by decide +kernel
theorem dM_size_14 : decode cM_size 14 = .ok (.goto 4, 3) := by decide +kernel
theorem dM_size_17 : decode cM_size 17 = .ok (.iconst (-1), 1) := by decide +kernel
theorem dM_size_18 : decode cM_size 18 = .ok (.ireturn, 1) := by decide +kernel
theorem dM_textAt_0 : decode cM_textAt 0 = .ok (.aload_n 0, 1) := by decide +kernel
theorem dM_textAt_1 : decode cM_textAt 1 = .ok (.iload_n 1, 1) := by decide +kernel
theorem dM_textAt_2 : decode cM_textAt 2 = .ok (.invokevirtual 175, 3) := by decide +kernel
theorem dM_textAt_5 : decode cM_textAt 5 = .ok (.ifCond .eq 33, 3) := by decide +kernel
theorem dM_textAt_8 : decode cM_textAt 8 = .ok (.iload_n 2, 1) := by decide +kernel
theorem dM_textAt_9 : decode cM_textAt 9 = .ok (.ifCond .lt 29, 3) := by decide +kernel
theorem dM_textAt_12 : decode cM_textAt 12 = .ok (.iload_n 2, 1) := by decide +kernel
theorem dM_textAt_13 : decode cM_textAt 13 = .ok (.aload_n 0, 1) := by decide +kernel
theorem dM_textAt_14 : decode cM_textAt 14 = .ok (.getfield 28, 3) := by decide +kernel
theorem dM_textAt_17 : decode cM_textAt 17 = .ok (.iload_n 1, 1) := by decide +kernel
theorem dM_textAt_18 : decode cM_textAt 18 = .ok (.iaload, 1) := by decide +kernel
theorem dM_textAt_19 : decode cM_textAt 19 = .ok (.if_icmp .ge 19, 3) := by decide +kernel
theorem dM_textAt_22 : decode cM_textAt 22 = .ok (.aload_n 0, 1) := by decide +kernel
theorem dM_textAt_23 : decode cM_textAt 23 = .ok (.getfield 31, 3) := by decide +kernel
theorem dM_textAt_26 : decode cM_textAt 26 = .ok (.aload_n 0, 1) := by decide +kernel
theorem dM_textAt_27 : decode cM_textAt 27 = .ok (.getfield 25, 3) := by decide +kernel
theorem dM_textAt_30 : decode cM_textAt 30 = .ok (.iload_n 1, 1) := by decide +kernel
theorem dM_textAt_31 : decode cM_textAt 31 = .ok (.iaload, 1) := by decide +kernel
theorem dM_textAt_32 : decode cM_textAt 32 = .ok (.iload_n 2, 1) := by decide +kernel
theorem dM_textAt_33 : decode cM_textAt 33 = .ok (.iadd, 1) := by decide +kernel
theorem dM_textAt_34 : decode cM_textAt 34 = .ok (.iaload, 1) := by decide +kernel
theorem dM_textAt_35 : decode cM_textAt 35 = .ok (.goto 4, 3) := by decide +kernel
theorem dM_textAt_38 : decode cM_textAt 38 = .ok (.iconst (-1), 1) := by decide +kernel
theorem dM_textAt_39 : decode cM_textAt 39 = .ok (.ireturn, 1) := by decide +kernel
