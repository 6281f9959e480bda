theorem dX_init_0 : decode cX_init 0 = .ok (.aload_n 0, 1) := by decide +kernel
theorem dX_init_1 : decode cX_init 1 = .ok (.invokespecial 3, 3) := by decide +kernel
theorem dX_init_4 : decode cX_init 4 = .ok (.aload_n 0, 1) := by decide +kernel
theorem dX_init_5 : decode cX_init 5 = .ok (.sipush 1000, 3) := by decide +kernel
theorem dX_init_8 : decode cX_init 8 = .ok (.newarray .int, 2) := by decide +kernel
theorem dX_init_10 : decode cX_init 10 = .ok (.putfield 9, 3) := by decide +kernel
theorem dX_init_13 : decode cX_init 13 = .ok (.aload_n 0, 1) := by decide +kernel
theorem dX_init_14 : decode cX_init 14 = .ok (.sipush 1001, 3) := by decide +kernel
theorem dX_init_17 : decode cX_init 17 = .ok (.newarray .int, 2) := by decide +kernel
theorem dX_init_19 : decode cX_init 19 = .ok (.putfield 13, 3) := by decide +kernel
theorem dX_init_22 : decode cX_init 22 = .ok (.aload_n 0, 1) := by decide +kernel
theorem dX_init_23 : decode cX_init 23 = .ok (.sipush 1001, 3) := by decide +kernel
theorem dX_init_26 : decode cX_init 26 = .ok (.newarray .int, 2) := by decide +kernel
theorem dX_init_28 : decode cX_init 28 = .ok (.putfield 16, 3) := by decide +kernel
theorem dX_init_31 : decode cX_init 31 = .ok (.aload_n 0, 1) := by decide +kernel
theorem dX_init_32 : decode cX_init 32 = .ok (.sipush 1001, 3) := by decide +kernel
theorem dX_init_35 : decode cX_init 35 = .ok (.newarray .int, 2) := by decide +kernel
theorem dX_init_37 : decode cX_init 37 = .ok (.putfield 19, 3) := by decide +kernel
theorem dX_init_40 : decode cX_init 40 = .ok (.aload_n 0, 1) := by decide +kernel
theorem dX_init_41 : decode cX_init 41 = .ok (.sipush 1001, 3) := by decide +kernel
theorem dX_init_44 : decode cX_init 44 = .ok (.newarray .int, 2) := by decide +kernel
theorem dX_init_46 : decode cX_init 46 = .ok (.putfield 22, 3) := by decide +kernel
theorem dX_init_49 : decode cX_init 49 = .ok (.aload_n 0, 1) := by decide +kernel
theorem dX_init_50 : decode cX_init 50 = .ok (.sipush 1001, 3) := by decide +kernel
theorem dX_init_53 : decode cX_init 53 = .ok (.newarray .int, 2) := by decide +kernel
theorem dX_init_55 : decode cX_init 55 = .ok (.putfield 25, 3) := by decide +kernel
theorem dX_init_58 : decode cX_init 58 = .ok (.aload_n 0, 1) := by decide +kernel
theorem dX_init_59 : decode cX_init 59 = .ok (.sipush 1001, 3) := by decide +kernel
theorem dX_init_62 : decode cX_init 62 = .ok (.newarray .int, 2) := by decide +kernel
theorem dX_init_64 : decode cX_init 64 = .ok (.putfield 28, 3) := by decide +kernel
theorem dX_init_67 : decode cX_init 67 = .ok (.aload_n 0, 1) := by decide +kernel
theorem dX_init_68 : decode cX_init 68 = .ok (.sipush 1000, 3) := by decide +kernel
theorem dX_init_71 : decode cX_init 71 = .ok (.newarray .int, 2) := by decide +kernel
theorem dX_init_73 : decode cX_init 73 = .ok (.putfield 31, 3) := by decide +kernel
theorem dX_init_76 : decode cX_init 76 = .ok (.return_, 1) := by decide +kernel
theorem dX_feed_0 : decode cX_feed 0 = .ok (.aload_n 0, 1) := by decide +kernel
theorem dX_feed_1 : decode cX_feed 1 = .ok (.getfield 34, 3) := by decide +kernel
theorem dX_feed_4 : decode cX_feed 4 = .ok (.bipush 20, 2) := by decide +kernel
theorem dX_feed_6 : decode cX_feed 6 = .ok (.iadd, 1) := by decide +kernel
theorem dX_feed_7 : decode cX_feed 7 = .ok (.sipush 1000, 3) := by decide +kernel
theorem dX_feed_10 : decode cX_feed 10 = .ok (.if_icmp .le 5, 3) := by decide +kernel
theorem dX_feed_13 : decode cX_feed 13 = .ok (.iconst 0, 1) := by decide +kernel
theorem dX_feed_14 : decode cX_feed 14 = .ok (.ireturn, 1) := by decide +kernel
theorem dX_feed_15 : decode cX_feed 15 = .ok (.aload_n 0, 1) := by decide +kernel
theorem dX_feed_16 : decode cX_feed 16 = .ok (.iload_n 1, 1) := by decide +kernel
theorem dX_feed_17 : decode cX_feed 17 = .ok (.invokevirtual 38, 3) := by decide +kernel
theorem dX_feed_20 : decode cX_feed 20 = .ok (.aload_n 0, 1) := by decide +kernel
theorem dX_feed_21 : decode cX_feed 21 = .ok (.iload_n 2, 1) := by decide +kernel
theorem dX_feed_22 : decode cX_feed 22 = .ok (.invokevirtual 38, 3) := by decide +kernel
theorem dX_feed_25 : decode cX_feed 25 = .ok (.aload_n 0, 1) := by decide +kernel
theorem dX_feed_26 : decode cX_feed 26 = .ok (.iload_n 3, 1) := by decide +kernel
theorem dX_feed_27 : decode cX_feed 27 = .ok (.invokevirtual 38, 3) := by decide +kernel
theorem dX_feed_30 : decode cX_feed 30 = .ok (.aload_n 0, 1) := by decide +kernel
theorem dX_feed_31 : decode cX_feed 31 = .ok (.iload 4, 2) := by decide +kernel
theorem dX_feed_33 : decode cX_feed 33 = .ok (.invokevirtual 38, 3) := by decide +kernel
theorem dX_feed_36 : decode cX_feed 36 = .ok (.aload_n 0, 1) := by decide +kernel
theorem dX_feed_37 : decode cX_feed 37 = .ok (.iload 5, 2) := by decide +kernel
theorem dX_feed_39 : decode cX_feed 39 = .ok (.invokevirtual 38, 3) := by decide +kernel
theorem dX_feed_42 : decode cX_feed 42 = .ok (.iconst 1, 1) := by decide +kernel
theorem dX_feed_43 : decode cX_feed 43 = .ok (.ireturn, 1) := by decide +kernel
theorem dX_appendBytes_0 : decode cX_appendBytes 0 = .ok (.bipush 24, 2) := by decide +kernel
theorem dX_appendBytes_2 : decode cX_appendBytes 2 = .ok (.istore_n 2, 1) := by decide +kernel
theorem dX_appendBytes_3 : decode cX_appendBytes 3 = .ok (.iload_n 2, 1) := by decide +kernel
theorem dX_appendBytes_4 : decode cX_appendBytes 4 = .ok (.ifCond .lt 45, 3) := by decide +kernel
theorem dX_appendBytes_7 : decode cX_appendBytes 7 = .ok (.aload_n 0, 1) := by decide +kernel
theorem dX_appendBytes_8 : decode cX_appendBytes 8 = .ok (.getfield 34, 3) := by decide +kernel
theorem dX_appendBytes_11 : decode cX_appendBytes 11 = .ok (.sipush 1000, 3) := by decide +kernel
theorem dX_appendBytes_14 : decode cX_appendBytes 14 = .ok (.if_icmp .ge 35, 3) := by decide +kernel
theorem dX_appendBytes_17 : decode cX_appendBytes 17 = .ok (.aload_n 0, 1) := by decide +kernel
theorem dX_appendBytes_18 : decode cX_appendBytes 18 = .ok (.getfield 9, 3) := by decide +kernel
theorem dX_appendBytes_21 : decode cX_appendBytes 21 = .ok (.aload_n 0, 1) := by decide +kernel
theorem dX_appendBytes_22 : decode cX_appendBytes 22 = .ok (.getfield 34, 3) := by decide +kernel
theorem dX_appendBytes_25 : decode cX_appendBytes 25 = .ok (.iload_n 1, 1) := by decide +kernel
theorem dX_appendBytes_26 : decode cX_appendBytes 26 = .ok (.iload_n 2, 1) := by decide +kernel
theorem dX_appendBytes_27 : decode cX_appendBytes 27 = .ok (.iushr, 1) := by decide +kernel
theorem dX_appendBytes_28 : decode cX_appendBytes 28 = .ok (.sipush 255, 3) := by decide +kernel
theorem dX_appendBytes_31 : decode cX_appendBytes 31 = .ok (.iand, 1) := by decide +kernel
theorem dX_appendBytes_32 : decode cX_appendBytes 32 = .ok (.iastore, 1) := by decide +kernel
theorem dX_appendBytes_33 : decode cX_appendBytes 33 = .ok (.aload_n 0, 1) := by decide +kernel
theorem dX_appendBytes_34 : decode cX_appendBytes 34 = .ok (.dup, 1) := by decide +kernel
theorem dX_appendBytes_35 : decode cX_appendBytes 35 = .ok (.getfield 34, 3) := by decide +kernel
theorem dX_appendBytes_38 : decode cX_appendBytes 38 = .ok (.iconst 1, 1) := by decide +kernel
theorem dX_appendBytes_39 : decode cX_appendBytes 39 = .ok (.iadd, 1) := by decide +kernel
theorem dX_appendBytes_40 : decode cX_appendBytes 40 = .ok (.putfield 34, 3) := by decide +kernel
theorem dX_appendBytes_43 : decode cX_appendBytes 43 = .ok (.iinc 2 (-8), 3) := by decide +kernel
theorem dX_appendBytes_46 : decode cX_appendBytes 46 = .ok (.goto (-43), 3) := by decide +kernel
theorem dX_appendBytes_49 : decode cX_appendBytes 49 = .ok (.return_, 1) := by decide +kernel
theorem dX_end_0 : decode cX_end 0 = .ok (.iload_n 1, 1) := by decide +kernel
theorem dX_end_1 : decode cX_end 1 = .ok (.ifCond .lt 11, 3) := by decide +kernel
theorem dX_end_4 : decode cX_end 4 = .ok (.iload_n 1, 1) := by decide +kernel
theorem dX_end_5 : decode cX_end 5 = .ok (.aload_n 0, 1) := by decide +kernel
theorem dX_end_6 : decode cX_end 6 = .ok (.getfield 34, 3) := by decide +kernel
theorem dX_end_9 : decode cX_end 9 = .ok (.if_icmp .le 5, 3) := by decide +kernel
theorem dX_end_12 : decode cX_end 12 = .ok (.iconst 0, 1) := by decide +kernel
theorem dX_end_13 : decode cX_end 13 = .ok (.ireturn, 1) := by decide +kernel
theorem dX_end_14 : decode cX_end 14 = .ok (.aload_n 0, 1) := by decide +kernel
theorem dX_end_15 : decode cX_end 15 = .ok (.iload_n 1, 1) := by decide +kernel
theorem dX_end_16 : decode cX_end 16 = .ok (.putfield 34, 3) := by decide +kernel
theorem dX_end_19 : decode cX_end 19 = .ok (.iconst 1, 1) := by decide +kernel
theorem dX_end_20 : decode cX_end 20 = .ok (.ireturn, 1) := by decide +kernel
theorem dX_read_0 : decode cX_read 0 = .ok (.aload_n 0, 1) := by decide +kernel
theorem dX_read_1 : decode cX_read 1 = .ok (.iconst 0, 1) := by decide +kernel
theorem dX_read_2 : decode cX_read 2 = .ok (.putfield 42, 3) := by decide +kernel
theorem dX_read_5 : decode cX_read 5 = .ok (.aload_n 0, 1) := by decide +kernel
theorem dX_read_6 : decode cX_read 6 = .ok (.iconst 0, 1) := by decide +kernel
theorem dX_read_7 : decode cX_read 7 = .ok (.putfield 45, 3) := by decide +kernel
theorem dX_read_10 : decode cX_read 10 = .ok (.aload_n 0, 1) := by decide +kernel
theorem dX_read_11 : decode cX_read 11 = .ok (.iconst 0, 1) := by decide +kernel
theorem dX_read_12 : decode cX_read 12 = .ok (.putfield 48, 3) := by decide +kernel
theorem dX_read_15 : decode cX_read 15 = .ok (.aload_n 0, 1) := by decide +kernel
theorem dX_read_16 : decode cX_read 16 = .ok (.iconst 0, 1) := by decide +kernel
theorem dX_read_17 : decode cX_read 17 = .ok (.putfield 51, 3) := by decide +kernel
theorem dX_read_20 : decode cX_read 20 = .ok (.iconst 1, 1) := by decide +kernel
theorem dX_read_21 : decode cX_read 21 = .ok (.istore_n 1, 1) := by decide +kernel
theorem dX_read_22 : decode cX_read 22 = .ok (.iconst 0, 1) := by decide +kernel
theorem dX_read_23 : decode cX_read 23 = .ok (.istore_n 2, 1) := by decide +kernel
theorem dX_read_24 : decode cX_read 24 = .ok (.iload_n 2, 1) := by decide +kernel
theorem dX_read_25 : decode cX_read 25 = .ok (.sipush 1001, 3) := by decide +kernel
theorem dX_read_28 : decode cX_read 28 = .ok (.if_icmp .ge 22, 3) := by decide +kernel
theorem dX_read_31 : decode cX_read 31 = .ok (.iload_n 1, 1) := by decide +kernel
theorem dX_read_32 : decode cX_read 32 = .ok (.ifCond .eq 18, 3) := by decide +kernel
theorem dX_read_35 : decode cX_read 35 = .ok (.aload_n 0, 1) := by decide +kernel
theorem dX_read_36 : decode cX_read 36 = .ok (.invokevirtual 54, 3) := by decide +kernel
theorem dX_read_39 : decode cX_read 39 = .ok (.aload_n 0, 1) := by decide +kernel
theorem dX_read_40 : decode cX_read 40 = .ok (.invokevirtual 57, 3) := by decide +kernel
theorem dX_read_43 : decode cX_read 43 = .ok (.istore_n 1, 1) := by decide +kernel
theorem dX_read_44 : decode cX_read 44 = .ok (.iinc 2 1, 3) := by decide +kernel
theorem dX_read_47 : decode cX_read 47 = .ok (.goto (-23), 3) := by decide +kernel
theorem dX_read_50 : decode cX_read 50 = .ok (.aload_n 0, 1) := by decide +kernel
theorem dX_read_51 : decode cX_read 51 = .ok (.iconst 0, 1) := by decide +kernel
theorem dX_read_52 : decode cX_read 52 = .ok (.putfield 34, 3) := by decide +kernel
theorem dX_read_55 : decode cX_read 55 = .ok (.aload_n 0, 1) := by decide +kernel
theorem dX_read_56 : decode cX_read 56 = .ok (.getfield 42, 3) := by decide +kernel
theorem dX_read_59 : decode cX_read 59 = .ok (.ireturn, 1) := by decide +kernel
theorem dX_skipGap_0 : decode cX_skipGap 0 = .ok (.iconst 0, 1) := by decide +kernel
theorem dX_skipGap_1 : decode cX_skipGap 1 = .ok (.istore_n 1, 1) := by decide +kernel
theorem dX_skipGap_2 : decode cX_skipGap 2 = .ok (.aload_n 0, 1) := by decide +kernel
theorem dX_skipGap_3 : decode cX_skipGap 3 = .ok (.getfield 48, 3) := by decide +kernel
theorem dX_skipGap_6 : decode cX_skipGap 6 = .ok (.aload_n 0, 1) := by decide +kernel
theorem dX_skipGap_7 : decode cX_skipGap 7 = .ok (.getfield 34, 3) := by decide +kernel
theorem dX_skipGap_10 : decode cX_skipGap 10 = .ok (.if_icmp .ge 95, 3) := by decide +kernel
theorem dX_skipGap_13 : decode cX_skipGap 13 = .ok (.aload_n 0, 1) := by decide +kernel
theorem dX_skipGap_14 : decode cX_skipGap 14 = .ok (.aload_n 0, 1) := by decide +kernel
theorem dX_skipGap_15 : decode cX_skipGap 15 = .ok (.getfield 48, 3) := by decide +kernel
theorem dX_skipGap_18 : decode cX_skipGap 18 = .ok (.invokevirtual 81, 3) := by decide +kernel
theorem dX_skipGap_21 : decode cX_skipGap 21 = .ok (.istore_n 2, 1) := by decide +kernel
theorem dX_skipGap_22 : decode cX_skipGap 22 = .ok (.iload_n 2, 1) := by decide +kernel
theorem dX_skipGap_23 : decode cX_skipGap 23 = .ok (.bipush 10, 2) := by decide +kernel
theorem dX_skipGap_25 : decode cX_skipGap 25 = .ok (.if_icmp .ne 18, 3) := by decide +kernel
theorem dX_skipGap_28 : decode cX_skipGap 28 = .ok (.aload_n 0, 1) := by decide +kernel
theorem dX_skipGap_29 : decode cX_skipGap 29 = .ok (.dup, 1) := by decide +kernel
theorem dX_skipGap_30 : decode cX_skipGap 30 = .ok (.getfield 51, 3) := by decide +kernel
theorem dX_skipGap_33 : decode cX_skipGap 33 = .ok (.iconst 1, 1) := by decide +kernel
theorem dX_skipGap_34 : decode cX_skipGap 34 = .ok (.iadd, 1) := by decide +kernel
theorem dX_skipGap_35 : decode cX_skipGap 35 = .ok (.putfield 51, 3) := by decide +kernel
theorem dX_skipGap_38 : decode cX_skipGap 38 = .ok (.iconst 0, 1) := by decide +kernel
theorem dX_skipGap_39 : decode cX_skipGap 39 = .ok (.istore_n 1, 1) := by decide +kernel
theorem dX_skipGap_40 : decode cX_skipGap 40 = .ok (.goto 52, 3) := by decide +kernel
theorem dX_skipGap_43 : decode cX_skipGap 43 = .ok (.iload_n 2, 1) := by decide +kernel
theorem dX_skipGap_44 : decode cX_skipGap 44 = .ok (.bipush 47, 2) := by decide +kernel
theorem dX_skipGap_46 : decode cX_skipGap 46 = .ok (.if_icmp .ne 23, 3) := by decide +kernel
theorem dX_skipGap_49 : decode cX_skipGap 49 = .ok (.aload_n 0, 1) := by decide +kernel
theorem dX_skipGap_50 : decode cX_skipGap 50 = .ok (.aload_n 0, 1) := by decide +kernel
theorem dX_skipGap_51 : decode cX_skipGap 51 = .ok (.getfield 48, 3) := by decide +kernel
theorem dX_skipGap_54 : decode cX_skipGap 54 = .ok (.iconst 1, 1) := by decide +kernel
theorem dX_skipGap_55 : decode cX_skipGap 55 = .ok (.iadd, 1) := by decide +kernel
theorem dX_skipGap_56 : decode cX_skipGap 56 = .ok (.invokevirtual 81, 3) := by decide +kernel
theorem dX_skipGap_59 : decode cX_skipGap 59 = .ok (.bipush 47, 2) := by decide +kernel
theorem dX_skipGap_61 : decode cX_skipGap 61 = .ok (.if_icmp .ne 8, 3) := by decide +kernel
theorem dX_skipGap_64 : decode cX_skipGap 64 = .ok (.iconst 1, 1) := by decide +kernel
theorem dX_skipGap_65 : decode cX_skipGap 65 = .ok (.istore_n 1, 1) := by decide +kernel
theorem dX_skipGap_66 : decode cX_skipGap 66 = .ok (.goto 26, 3) := by decide +kernel
theorem dX_skipGap_69 : decode cX_skipGap 69 = .ok (.iload_n 1, 1) := by decide +kernel
theorem dX_skipGap_70 : decode cX_skipGap 70 = .ok (.ifCond .ne 22, 3) := by decide +kernel
theorem dX_skipGap_73 : decode cX_skipGap 73 = .ok (.iload_n 2, 1) := by decide +kernel
theorem dX_skipGap_74 : decode cX_skipGap 74 = .ok (.bipush 9, 2) := by decide +kernel
theorem dX_skipGap_76 : decode cX_skipGap 76 = .ok (.if_icmp .eq 16, 3) := by decide +kernel
theorem dX_skipGap_79 : decode cX_skipGap 79 = .ok (.iload_n 2, 1) := by decide +kernel
theorem dX_skipGap_80 : decode cX_skipGap 80 = .ok (.bipush 13, 2) := by decide +kernel
theorem dX_skipGap_82 : decode cX_skipGap 82 = .ok (.if_icmp .eq 10, 3) := by decide +kernel
theorem dX_skipGap_85 : decode cX_skipGap 85 = .ok (.iload_n 2, 1) := by decide +kernel
theorem dX_skipGap_86 : decode cX_skipGap 86 = .ok (.bipush 32, 2) := by decide +kernel
theorem dX_skipGap_88 : decode cX_skipGap 88 = .ok (.if_icmp .eq 4, 3) := by decide +kernel
theorem dX_skipGap_91 : decode cX_skipGap 91 = .ok (.return_, 1) := by decide +kernel
theorem dX_skipGap_92 : decode cX_skipGap 92 = .ok (.aload_n 0, 1) := by decide +kernel
theorem dX_skipGap_93 : decode cX_skipGap 93 = .ok (.dup, 1) := by decide +kernel
theorem dX_skipGap_94 : decode cX_skipGap 94 = .ok (.getfield 48, 3) := by decide +kernel
theorem dX_skipGap_97 : decode cX_skipGap 97 = .ok (.iconst 1, 1) := by decide +kernel
theorem dX_skipGap_98 : decode cX_skipGap 98 = .ok (.iadd, 1) := by decide +kernel
theorem dX_skipGap_99 : decode cX_skipGap 99 = .ok (.putfield 48, 3) := by decide +kernel
theorem dX_skipGap_102 : decode cX_skipGap 102 = .ok (.goto (-100), 3) := by decide +kernel
theorem dX_skipGap_105 : decode cX_skipGap 105 = .ok (.return_, 1) := by decide +kernel
theorem dX_tapeByte_0 : decode cX_tapeByte 0 = .ok (.iload_n 1, 1) := by decide +kernel
theorem dX_tapeByte_1 : decode cX_tapeByte 1 = .ok (.aload_n 0, 1) := by decide +kernel
theorem dX_tapeByte_2 : decode cX_tapeByte 2 = .ok (.getfield 34, 3) := by decide +kernel
theorem dX_tapeByte_5 : decode cX_tapeByte 5 = .ok (.if_icmp .ge 14, 3) := by decide +kernel
theorem dX_tapeByte_8 : decode cX_tapeByte 8 = .ok (.aload_n 0, 1) := by decide +kernel
theorem dX_tapeByte_9 : decode cX_tapeByte 9 = .ok (.getfield 9, 3) := by decide +kernel
theorem dX_tapeByte_12 : decode cX_tapeByte 12 = .ok (.iload_n 1, 1) := by decide +kernel
theorem dX_tapeByte_13 : decode cX_tapeByte 13 = .ok (.invokestatic 77, 3) := by decide +kernel
theorem dX_tapeByte_16 : decode cX_tapeByte 16 = .ok (.goto 4, 3) := by decide +kernel
theorem dX_tapeByte_19 : decode cX_tapeByte 19 = .ok (.iconst (-1), 1) := by decide +kernel
theorem dX_tapeByte_20 : decode cX_tapeByte 20 = .ok (.ireturn, 1) := by decide +kernel
theorem dX_elementAt_0 : decode cX_elementAt 0 = .ok (.iload_n 1, 1) := by decide +kernel
theorem dX_elementAt_1 : decode cX_elementAt 1 = .ok (.ifCond .lt 15, 3) := by decide +kernel
theorem dX_elementAt_4 : decode cX_elementAt 4 = .ok (.iload_n 1, 1) := by decide +kernel
theorem dX_elementAt_5 : decode cX_elementAt 5 = .ok (.aload_n 0, 1) := by decide +kernel
theorem dX_elementAt_6 : decode cX_elementAt 6 = .ok (.arraylength, 1) := by decide +kernel
theorem dX_elementAt_7 : decode cX_elementAt 7 = .ok (.if_icmp .ge 9, 3) := by decide +kernel
theorem dX_elementAt_10 : decode cX_elementAt 10 = .ok (.aload_n 0, 1) := by decide +kernel
theorem dX_elementAt_11 : decode cX_elementAt 11 = .ok (.iload_n 1, 1) := by decide +kernel
theorem dX_elementAt_12 : decode cX_elementAt 12 = .ok (.iaload, 1) := by decide +kernel
theorem dX_elementAt_13 : decode cX_elementAt 13 = .ok (.goto 4, 3) := by decide +kernel
theorem dX_elementAt_16 : decode cX_elementAt 16 = .ok (.iconst (-1), 1) := by decide +kernel
theorem dX_elementAt_17 : decode cX_elementAt 17 = .ok (.ireturn, 1) := by decide +kernel
theorem dX_readToken_0 : decode cX_readToken 0 = .ok (.aload_n 0, 1) := by decide +kernel
theorem dX_readToken_1 : decode cX_readToken 1 = .ok (.getfield 48, 3) := by decide +kernel
theorem dX_readToken_4 : decode cX_readToken 4 = .ok (.istore_n 1, 1) := by decide +kernel
theorem dX_readToken_5 : decode cX_readToken 5 = .ok (.aload_n 0, 1) := by decide +kernel
theorem dX_readToken_6 : decode cX_readToken 6 = .ok (.getfield 45, 3) := by decide +kernel
theorem dX_readToken_9 : decode cX_readToken 9 = .ok (.istore_n 2, 1) := by decide +kernel
theorem dX_readToken_10 : decode cX_readToken 10 = .ok (.aload_n 0, 1) := by decide +kernel
theorem dX_readToken_11 : decode cX_readToken 11 = .ok (.iconst 0, 1) := by decide +kernel
theorem dX_readToken_12 : decode cX_readToken 12 = .ok (.putfield 85, 3) := by decide +kernel
theorem dX_readToken_15 : decode cX_readToken 15 = .ok (.aload_n 0, 1) := by decide +kernel
theorem dX_readToken_16 : decode cX_readToken 16 = .ok (.invokevirtual 88, 3) := by decide +kernel
theorem dX_readToken_19 : decode cX_readToken 19 = .ok (.istore_n 3, 1) := by decide +kernel
theorem dX_readToken_20 : decode cX_readToken 20 = .ok (.iload_n 3, 1) := by decide +kernel
theorem dX_readToken_21 : decode cX_readToken 21 = .ok (.bipush 6, 2) := by decide +kernel
theorem dX_readToken_23 : decode cX_readToken 23 = .ok (.if_icmp .ne 8, 3) := by decide +kernel
theorem dX_readToken_26 : decode cX_readToken 26 = .ok (.aload_n 0, 1) := by decide +kernel
theorem dX_readToken_27 : decode cX_readToken 27 = .ok (.iload_n 2, 1) := by decide +kernel
theorem dX_readToken_28 : decode cX_readToken 28 = .ok (.putfield 45, 3) := by decide +kernel
theorem dX_readToken_31 : decode cX_readToken 31 = .ok (.aload_n 0, 1) := by decide +kernel
theorem dX_readToken_32 : decode cX_readToken 32 = .ok (.getfield 45, 3) := by decide +kernel
theorem dX_readToken_35 : decode cX_readToken 35 = .ok (.iload_n 2, 1) := by decide +kernel
theorem dX_readToken_36 : decode cX_readToken 36 = .ok (.isub, 1) := by decide +kernel
theorem dX_readToken_37 : decode cX_readToken 37 = .ok (.istore 4, 2) := by decide +kernel
theorem dX_readToken_39 : decode cX_readToken 39 = .ok (.aload_n 0, 1) := by decide +kernel
theorem dX_readToken_40 : decode cX_readToken 40 = .ok (.iload_n 3, 1) := by decide +kernel
theorem dX_readToken_41 : decode cX_readToken 41 = .ok (.iload_n 2, 1) := by decide +kernel
theorem dX_readToken_42 : decode cX_readToken 42 = .ok (.iload 4, 2) := by decide +kernel
theorem dX_readToken_44 : decode cX_readToken 44 = .ok (.invokevirtual 92, 3) := by decide +kernel
theorem dX_readToken_47 : decode cX_readToken 47 = .ok (.ifCond .eq 8, 3) := by decide +kernel
theorem dX_readToken_50 : decode cX_readToken 50 = .ok (.aload_n 0, 1) := by decide +kernel
theorem dX_readToken_51 : decode cX_readToken 51 = .ok (.iload_n 1, 1) := by decide +kernel
theorem dX_readToken_52 : decode cX_readToken 52 = .ok (.invokevirtual 96, 3) := by decide +kernel
theorem dX_readToken_55 : decode cX_readToken 55 = .ok (.aload_n 0, 1) := by decide +kernel
theorem dX_readToken_56 : decode cX_readToken 56 = .ok (.iload_n 3, 1) := by decide +kernel
theorem dX_readToken_57 : decode cX_readToken 57 = .ok (.iload_n 1, 1) := by decide +kernel
theorem dX_readToken_58 : decode cX_readToken 58 = .ok (.aload_n 0, 1) := by decide +kernel
theorem dX_readToken_59 : decode cX_readToken 59 = .ok (.getfield 85, 3) := by decide +kernel
theorem dX_readToken_62 : decode cX_readToken 62 = .ok (.iload_n 2, 1) := by decide +kernel
theorem dX_readToken_63 : decode cX_readToken 63 = .ok (.iload 4, 2) := by decide +kernel
theorem dX_readToken_65 : decode cX_readToken 65 = .ok (.invokevirtual 99, 3) := by decide +kernel
theorem dX_readToken_68 : decode cX_readToken 68 = .ok (.iload_n 3, 1) := by decide +kernel
theorem dX_readToken_69 : decode cX_readToken 69 = .ok (.iconst 5, 1) := by decide +kernel
theorem dX_readToken_70 : decode cX_readToken 70 = .ok (.if_icmp .eq 13, 3) := by decide +kernel
theorem dX_readToken_73 : decode cX_readToken 73 = .ok (.iload_n 3, 1) := by decide +kernel
theorem dX_readToken_74 : decode cX_readToken 74 = .ok (.bipush 6, 2) := by decide +kernel
theorem dX_readToken_76 : decode cX_readToken 76 = .ok (.if_icmp .eq 7, 3) := by decide +kernel
theorem dX_readToken_79 : decode cX_readToken 79 = .ok (.iconst 1, 1) := by decide +kernel
theorem dX_readToken_80 : decode cX_readToken 80 = .ok (.goto 4, 3) := by decide +kernel
theorem dX_readToken_83 : decode cX_readToken 83 = .ok (.iconst 0, 1) := by decide +kernel
theorem dX_readToken_84 : decode cX_readToken 84 = .ok (.ireturn, 1) := by decide +kernel
theorem dX_takeToken_0 : decode cX_takeToken 0 = .ok (.aload_n 0, 1) := by decide +kernel
theorem dX_takeToken_1 : decode cX_takeToken 1 = .ok (.aload_n 0, 1) := by decide +kernel
theorem dX_takeToken_2 : decode cX_takeToken 2 = .ok (.getfield 48, 3) := by decide +kernel
theorem dX_takeToken_5 : decode cX_takeToken 5 = .ok (.invokevirtual 81, 3) := by decide +kernel
theorem dX_takeToken_8 : decode cX_takeToken 8 = .ok (.istore_n 1, 1) := by decide +kernel
theorem dX_takeToken_9 : decode cX_takeToken 9 = .ok (.iload_n 1, 1) := by decide +kernel
theorem dX_takeToken_10 : decode cX_takeToken 10 = .ok (.iconst (-1), 1) := by decide +kernel
theorem dX_takeToken_11 : decode cX_takeToken 11 = .ok (.if_icmp .ne 5, 3) := by decide +kernel
theorem dX_takeToken_14 : decode cX_takeToken 14 = .ok (.iconst 5, 1) := by decide +kernel
theorem dX_takeToken_15 : decode cX_takeToken 15 = .ok (.ireturn, 1) := by decide +kernel
theorem dX_takeToken_16 : decode cX_takeToken 16 = .ok (.iload_n 1, 1) := by decide +kernel
theorem dX_takeToken_17 : decode cX_takeToken 17 = .ok (.invokestatic 103, 3) := by decide +kernel
theorem dX_takeToken_20 : decode cX_takeToken 20 = .ok (.ifCond .eq 8, 3) := by decide +kernel
theorem dX_takeToken_23 : decode cX_takeToken 23 = .ok (.aload_n 0, 1) := by decide +kernel
theorem dX_takeToken_24 : decode cX_takeToken 24 = .ok (.invokevirtual 106, 3) := by decide +kernel
theorem dX_takeToken_27 : decode cX_takeToken 27 = .ok (.ireturn, 1) := by decide +kernel
theorem dX_takeToken_28 : decode cX_takeToken 28 = .ok (.iload_n 1, 1) := by decide +kernel
theorem dX_takeToken_29 : decode cX_takeToken 29 = .ok (.invokestatic 109, 3) := by decide +kernel
theorem dX_takeToken_32 : decode cX_takeToken 32 = .ok (.ifCond .eq 10, 3) := by decide +kernel
theorem dX_takeToken_35 : decode cX_takeToken 35 = .ok (.aload_n 0, 1) := by decide +kernel
theorem dX_takeToken_36 : decode cX_takeToken 36 = .ok (.bipush 10, 2) := by decide +kernel
theorem dX_takeToken_38 : decode cX_takeToken 38 = .ok (.invokevirtual 112, 3) := by decide +kernel
theorem dX_takeToken_41 : decode cX_takeToken 41 = .ok (.ireturn, 1) := by decide +kernel
theorem dX_takeToken_42 : decode cX_takeToken 42 = .ok (.iload_n 1, 1) := by decide +kernel
theorem dX_takeToken_43 : decode cX_takeToken 43 = .ok (.bipush 35, 2) := by decide +kernel
theorem dX_takeToken_45 : decode cX_takeToken 45 = .ok (.if_icmp .ne 8, 3) := by decide +kernel
theorem dX_takeToken_48 : decode cX_takeToken 48 = .ok (.aload_n 0, 1) := by decide +kernel
theorem dX_takeToken_49 : decode cX_takeToken 49 = .ok (.invokevirtual 115, 3) := by decide +kernel
theorem dX_takeToken_52 : decode cX_takeToken 52 = .ok (.ireturn, 1) := by decide +kernel
theorem dX_takeToken_53 : decode cX_takeToken 53 = .ok (.iload_n 1, 1) := by decide +kernel
theorem dX_takeToken_54 : decode cX_takeToken 54 = .ok (.bipush 39, 2) := by decide +kernel
theorem dX_takeToken_56 : decode cX_takeToken 56 = .ok (.if_icmp .ne 8, 3) := by decide +kernel
theorem dX_takeToken_59 : decode cX_takeToken 59 = .ok (.aload_n 0, 1) := by decide +kernel
theorem dX_takeToken_60 : decode cX_takeToken 60 = .ok (.invokevirtual 118, 3) := by decide +kernel
theorem dX_takeToken_63 : decode cX_takeToken 63 = .ok (.ireturn, 1) := by decide +kernel
theorem dX_takeToken_64 : decode cX_takeToken 64 = .ok (.iload_n 1, 1) := by decide +kernel
theorem dX_takeToken_65 : decode cX_takeToken 65 = .ok (.bipush 34, 2) := by decide +kernel
theorem dX_takeToken_67 : decode cX_takeToken 67 = .ok (.if_icmp .ne 10, 3) := by decide +kernel
theorem dX_takeToken_70 : decode cX_takeToken 70 = .ok (.aload_n 0, 1) := by decide +kernel
theorem dX_takeToken_71 : decode cX_takeToken 71 = .ok (.invokevirtual 121, 3) := by decide +kernel
theorem dX_takeToken_74 : decode cX_takeToken 74 = .ok (.goto 7, 3) := by decide +kernel
theorem dX_takeToken_77 : decode cX_takeToken 77 = .ok (.aload_n 0, 1) := by decide +kernel
theorem dX_takeToken_78 : decode cX_takeToken 78 = .ok (.invokevirtual 124, 3) := by decide +kernel
theorem dX_takeToken_81 : decode cX_takeToken 81 = .ok (.ireturn, 1) := by decide +kernel
theorem dX_isLetter_0 : decode cX_isLetter 0 = .ok (.iload_n 0, 1) := by decide +kernel
theorem dX_isLetter_1 : decode cX_isLetter 1 = .ok (.bipush 97, 2) := by decide +kernel
theorem dX_isLetter_3 : decode cX_isLetter 3 = .ok (.if_icmp .lt 9, 3) := by decide +kernel
theorem dX_isLetter_6 : decode cX_isLetter 6 = .ok (.iload_n 0, 1) := by decide +kernel
theorem dX_isLetter_7 : decode cX_isLetter 7 = .ok (.bipush 122, 2) := by decide +kernel
theorem dX_isLetter_9 : decode cX_isLetter 9 = .ok (.if_icmp .le 15, 3) := by decide +kernel
theorem dX_isLetter_12 : decode cX_isLetter 12 = .ok (.iload_n 0, 1) := by decide +kernel
theorem dX_isLetter_13 : decode cX_isLetter 13 = .ok (.bipush 65, 2) := by decide +kernel
theorem dX_isLetter_15 : decode cX_isLetter 15 = .ok (.if_icmp .lt 13, 3) := by decide +kernel
theorem dX_isLetter_18 : decode cX_isLetter 18 = .ok (.iload_n 0, 1) := by decide +kernel
theorem dX_isLetter_19 : decode cX_isLetter 19 = .ok (.bipush 90, 2) := by decide +kernel
theorem dX_isLetter_21 : decode cX_isLetter 21 = .ok (.if_icmp .gt 7, 3) := by decide +kernel
theorem dX_isLetter_24 : decode cX_isLetter 24 = .ok (.iconst 1, 1) := by decide +kernel
theorem dX_isLetter_25 : decode cX_isLetter 25 = .ok (.goto 4, 3) := by decide +kernel
theorem dX_isLetter_28 : decode cX_isLetter 28 = .ok (.iconst 0, 1) := by decide +kernel
theorem dX_isLetter_29 : decode cX_isLetter 29 = .ok (.ireturn, 1) := by decide +kernel
theorem dX_takeWord_0 : decode cX_takeWord 0 = .ok (.aload_n 0, 1) := by decide +kernel
theorem dX_takeWord_1 : decode cX_takeWord 1 = .ok (.getfield 48, 3) := by decide +kernel
theorem dX_takeWord_4 : decode cX_takeWord 4 = .ok (.istore_n 1, 1) := by decide +kernel
theorem dX_takeWord_5 : decode cX_takeWord 5 = .ok (.iload_n 1, 1) := by decide +kernel
theorem dX_takeWord_6 : decode cX_takeWord 6 = .ok (.aload_n 0, 1) := by decide +kernel
theorem dX_takeWord_7 : decode cX_takeWord 7 = .ok (.getfield 34, 3) := by decide +kernel
theorem dX_takeWord_10 : decode cX_takeWord 10 = .ok (.if_icmp .ge 20, 3) := by decide +kernel
theorem dX_takeWord_13 : decode cX_takeWord 13 = .ok (.aload_n 0, 1) := by decide +kernel
theorem dX_takeWord_14 : decode cX_takeWord 14 = .ok (.iload_n 1, 1) := by decide +kernel
theorem dX_takeWord_15 : decode cX_takeWord 15 = .ok (.invokevirtual 81, 3) := by decide +kernel
theorem dX_takeWord_18 : decode cX_takeWord 18 = .ok (.invokestatic 127, 3) := by decide +kernel
theorem dX_takeWord_21 : decode cX_takeWord 21 = .ok (.ifCond .eq 9, 3) := by decide +kernel
theorem dX_takeWord_24 : decode cX_takeWord 24 = .ok (.iinc 1 1, 3) := by decide +kernel
theorem dX_takeWord_27 : decode cX_takeWord 27 = .ok (.goto (-22), 3) := by decide +kernel
theorem dX_takeWord_30 : decode cX_takeWord 30 = .ok (.iload_n 1, 1) := by decide +kernel
theorem dX_takeWord_31 : decode cX_takeWord 31 = .ok (.aload_n 0, 1) := by decide +kernel
theorem dX_takeWord_32 : decode cX_takeWord 32 = .ok (.getfield 48, 3) := by decide +kernel
theorem dX_takeWord_35 : decode cX_takeWord 35 = .ok (.isub, 1) := by decide +kernel
theorem dX_takeWord_36 : decode cX_takeWord 36 = .ok (.istore_n 2, 1) := by decide +kernel
theorem dX_takeWord_37 : decode cX_takeWord 37 = .ok (.iload_n 2, 1) := by decide +kernel
theorem dX_takeWord_38 : decode cX_takeWord 38 = .ok (.bipush 40, 2) := by decide +kernel
theorem dX_takeWord_40 : decode cX_takeWord 40 = .ok (.if_icmp .le 6, 3) := by decide +kernel
theorem dX_takeWord_43 : decode cX_takeWord 43 = .ok (.bipush 6, 2) := by decide +kernel
theorem dX_takeWord_45 : decode cX_takeWord 45 = .ok (.ireturn, 1) := by decide +kernel
theorem dX_takeWord_46 : decode cX_takeWord 46 = .ok (.aload_n 0, 1) := by decide +kernel
theorem dX_takeWord_47 : decode cX_takeWord 47 = .ok (.aload_n 0, 1) := by decide +kernel
theorem dX_takeWord_48 : decode cX_takeWord 48 = .ok (.getfield 48, 3) := by decide +kernel
theorem dX_takeWord_51 : decode cX_takeWord 51 = .ok (.iload_n 2, 1) := by decide +kernel
theorem dX_takeWord_52 : decode cX_takeWord 52 = .ok (.invokevirtual 130, 3) := by decide +kernel
theorem dX_takeWord_55 : decode cX_takeWord 55 = .ok (.ifCond .eq 7, 3) := by decide +kernel
theorem dX_takeWord_58 : decode cX_takeWord 58 = .ok (.iconst 4, 1) := by decide +kernel
theorem dX_takeWord_59 : decode cX_takeWord 59 = .ok (.goto 4, 3) := by decide +kernel
theorem dX_takeWord_62 : decode cX_takeWord 62 = .ok (.iconst 0, 1) := by decide +kernel
theorem dX_takeWord_63 : decode cX_takeWord 63 = .ok (.istore_n 3, 1) := by decide +kernel
theorem dX_takeWord_64 : decode cX_takeWord 64 = .ok (.aload_n 0, 1) := by decide +kernel
theorem dX_takeWord_65 : decode cX_takeWord 65 = .ok (.iload_n 2, 1) := by decide +kernel
theorem dX_takeWord_66 : decode cX_takeWord 66 = .ok (.invokevirtual 134, 3) := by decide +kernel
theorem dX_takeWord_69 : decode cX_takeWord 69 = .ok (.iload_n 3, 1) := by decide +kernel
theorem dX_takeWord_70 : decode cX_takeWord 70 = .ok (.ireturn, 1) := by decide +kernel
theorem dX_isNameByte_0 : decode cX_isNameByte 0 = .ok (.iload_n 0, 1) := by decide +kernel
theorem dX_isNameByte_1 : decode cX_isNameByte 1 = .ok (.invokestatic 103, 3) := by decide +kernel
theorem dX_isNameByte_4 : decode cX_isNameByte 4 = .ok (.ifCond .ne 22, 3) := by decide +kernel
theorem dX_isNameByte_7 : decode cX_isNameByte 7 = .ok (.iload_n 0, 1) := by decide +kernel
theorem dX_isNameByte_8 : decode cX_isNameByte 8 = .ok (.invokestatic 109, 3) := by decide +kernel
theorem dX_isNameByte_11 : decode cX_isNameByte 11 = .ok (.ifCond .ne 15, 3) := by decide +kernel
theorem dX_isNameByte_14 : decode cX_isNameByte 14 = .ok (.iload_n 0, 1) := by decide +kernel
theorem dX_isNameByte_15 : decode cX_isNameByte 15 = .ok (.bipush 46, 2) := by decide +kernel
theorem dX_isNameByte_17 : decode cX_isNameByte 17 = .ok (.if_icmp .eq 9, 3) := by decide +kernel
theorem dX_isNameByte_20 : decode cX_isNameByte 20 = .ok (.iload_n 0, 1) := by decide +kernel
theorem dX_isNameByte_21 : decode cX_isNameByte 21 = .ok (.bipush 95, 2) := by decide +kernel
theorem dX_isNameByte_23 : decode cX_isNameByte 23 = .ok (.if_icmp .ne 7, 3) := by decide +kernel
theorem dX_isNameByte_26 : decode cX_isNameByte 26 = .ok (.iconst 1, 1) := by decide +kernel
theorem dX_isNameByte_27 : decode cX_isNameByte 27 = .ok (.goto 4, 3) := by decide +kernel
theorem dX_isNameByte_30 : decode cX_isNameByte 30 = .ok (.iconst 0, 1) := by decide +kernel
theorem dX_isNameByte_31 : decode cX_isNameByte 31 = .ok (.ireturn, 1) := by decide +kernel
theorem dX_isDecimalDigit_0 : decode cX_isDecimalDigit 0 = .ok (.iload_n 0, 1) := by decide +kernel
theorem dX_isDecimalDigit_1 : decode cX_isDecimalDigit 1 = .ok (.bipush 48, 2) := by decide +kernel
theorem dX_isDecimalDigit_3 : decode cX_isDecimalDigit 3 = .ok (.if_icmp .lt 13, 3) := by decide +kernel
theorem dX_isDecimalDigit_6 : decode cX_isDecimalDigit 6 = .ok (.iload_n 0, 1) := by decide +kernel
theorem dX_isDecimalDigit_7 : decode cX_isDecimalDigit 7 = .ok (.bipush 57, 2) := by decide +kernel
theorem dX_isDecimalDigit_9 : decode cX_isDecimalDigit 9 = .ok (.if_icmp .gt 7, 3) := by decide +kernel
theorem dX_isDecimalDigit_12 : decode cX_isDecimalDigit 12 = .ok (.iconst 1, 1) := by decide +kernel
theorem dX_isDecimalDigit_13 : decode cX_isDecimalDigit 13 = .ok (.goto 4, 3) := by decide +kernel
theorem dX_isDecimalDigit_16 : decode cX_isDecimalDigit 16 = .ok (.iconst 0, 1) := by decide +kernel
theorem dX_isDecimalDigit_17 : decode cX_isDecimalDigit 17 = .ok (.ireturn, 1) := by decide +kernel
theorem dX_isKeyword_0 : decode cX_isKeyword 0 = .ok (.ldc 159, 2) := by decide +kernel
theorem dX_isKeyword_2 : decode cX_isKeyword 2 = .ok (.aload_n 0, 1) := by decide +kernel
theorem dX_isKeyword_3 : decode cX_isKeyword 3 = .ok (.getfield 9, 3) := by decide +kernel
theorem dX_isKeyword_6 : decode cX_isKeyword 6 = .ok (.iload_n 1, 1) := by decide +kernel
theorem dX_isKeyword_7 : decode cX_isKeyword 7 = .ok (.iload_n 2, 1) := by decide +kernel
theorem dX_isKeyword_8 : decode cX_isKeyword 8 = .ok (.invokestatic 73, 3) := by decide +kernel
theorem dX_isKeyword_11 : decode cX_isKeyword 11 = .ok (.iconst (-1), 1) := by decide +kernel
theorem dX_isKeyword_12 : decode cX_isKeyword 12 = .ok (.if_icmp .ne 33, 3) := by decide +kernel
theorem dX_isKeyword_15 : decode cX_isKeyword 15 = .ok (.ldc 161, 2) := by decide +kernel
theorem dX_isKeyword_17 : decode cX_isKeyword 17 = .ok (.aload_n 0, 1) := by decide +kernel
theorem dX_isKeyword_18 : decode cX_isKeyword 18 = .ok (.getfield 9, 3) := by decide +kernel
theorem dX_isKeyword_21 : decode cX_isKeyword 21 = .ok (.iload_n 1, 1) := by decide +kernel
theorem dX_isKeyword_22 : decode cX_isKeyword 22 = .ok (.iload_n 2, 1) := by decide +kernel
theorem dX_isKeyword_23 : decode cX_isKeyword 23 = .ok (.invokestatic 73, 3) := by decide +kernel
theorem dX_isKeyword_26 : decode cX_isKeyword 26 = .ok (.iconst (-1), 1) := by decide +kernel
theorem dX_isKeyword_27 : decode cX_isKeyword 27 = .ok (.if_icmp .ne 18, 3) := by decide +kernel
theorem dX_isKeyword_30 : decode cX_isKeyword 30 = .ok (.ldc 163, 2) := by decide +kernel
theorem dX_isKeyword_32 : decode cX_isKeyword 32 = .ok (.aload_n 0, 1) := by decide +kernel
theorem dX_isKeyword_33 : decode cX_isKeyword 33 = .ok (.getfield 9, 3) := by decide +kernel
theorem dX_isKeyword_36 : decode cX_isKeyword 36 = .ok (.iload_n 1, 1) := by decide +kernel
theorem dX_isKeyword_37 : decode cX_isKeyword 37 = .ok (.iload_n 2, 1) := by decide +kernel
theorem dX_isKeyword_38 : decode cX_isKeyword 38 = .ok (.invokestatic 73, 3) := by decide +kernel
theorem dX_isKeyword_41 : decode cX_isKeyword 41 = .ok (.iconst (-1), 1) := by decide +kernel
theorem dX_isKeyword_42 : decode cX_isKeyword 42 = .ok (.if_icmp .eq 7, 3) := by decide +kernel
theorem dX_isKeyword_45 : decode cX_isKeyword 45 = .ok (.iconst 1, 1) := by decide +kernel
theorem dX_isKeyword_46 : decode cX_isKeyword 46 = .ok (.goto 4, 3) := by decide +kernel
theorem dX_isKeyword_49 : decode cX_isKeyword 49 = .ok (.iconst 0, 1) := by decide +kernel
theorem dX_isKeyword_50 : decode cX_isKeyword 50 = .ok (.ireturn, 1) := by decide +kernel
theorem dX_numberInList_0 : decode cX_numberInList 0 = .ok (.iconst 0, 1) := by decide +kernel
theorem dX_numberInList_1 : decode cX_numberInList 1 = .ok (.istore 4, 2) := by decide +kernel
theorem dX_numberInList_3 : decode cX_numberInList 3 = .ok (.iconst 0, 1) := by decide +kernel
theorem dX_numberInList_4 : decode cX_numberInList 4 = .ok (.istore 5, 2) := by decide +kernel
theorem dX_numberInList_6 : decode cX_numberInList 6 = .ok (.iconst 0, 1) := by decide +kernel
theorem dX_numberInList_7 : decode cX_numberInList 7 = .ok (.istore 6, 2) := by decide +kernel
theorem dX_numberInList_9 : decode cX_numberInList 9 = .ok (.iload 6, 2) := by decide +kernel
theorem dX_numberInList_11 : decode cX_numberInList 11 = .ok (.aload_n 0, 1) := by decide +kernel
theorem dX_numberInList_12 : decode cX_numberInList 12 = .ok (.invokevirtual 165, 3) := by decide +kernel
theorem dX_numberInList_15 : decode cX_numberInList 15 = .ok (.if_icmp .ge 75, 3) := by decide +kernel
theorem dX_numberInList_18 : decode cX_numberInList 18 = .ok (.aload_n 0, 1) := by decide +kernel
theorem dX_numberInList_19 : decode cX_numberInList 19 = .ok (.iload 6, 2) := by decide +kernel
theorem dX_numberInList_21 : decode cX_numberInList 21 = .ok (.invokevirtual 170, 3) := by decide +kernel
theorem dX_numberInList_24 : decode cX_numberInList 24 = .ok (.istore 7, 2) := by decide +kernel
theorem dX_numberInList_26 : decode cX_numberInList 26 = .ok (.iload 7, 2) := by decide +kernel
theorem dX_numberInList_28 : decode cX_numberInList 28 = .ok (.bipush 32, 2) := by decide +kernel
theorem dX_numberInList_30 : decode cX_numberInList 30 = .ok (.if_icmp .ne 21, 3) := by decide +kernel
theorem dX_numberInList_33 : decode cX_numberInList 33 = .ok (.iload 5, 2) := by decide +kernel
theorem dX_numberInList_35 : decode cX_numberInList 35 = .ok (.iload_n 3, 1) := by decide +kernel
theorem dX_numberInList_36 : decode cX_numberInList 36 = .ok (.if_icmp .ne 6, 3) := by decide +kernel
theorem dX_numberInList_39 : decode cX_numberInList 39 = .ok (.iload 4, 2) := by decide +kernel
theorem dX_numberInList_41 : decode cX_numberInList 41 = .ok (.ireturn, 1) := by decide +kernel
theorem dX_numberInList_42 : decode cX_numberInList 42 = .ok (.iinc 4 1, 3) := by decide +kernel
theorem dX_numberInList_45 : decode cX_numberInList 45 = .ok (.iconst 0, 1) := by decide +kernel
theorem dX_numberInList_46 : decode cX_numberInList 46 = .ok (.istore 5, 2) := by decide +kernel
theorem dX_numberInList_48 : decode cX_numberInList 48 = .ok (.goto 36, 3) := by decide +kernel
theorem dX_numberInList_51 : decode cX_numberInList 51 = .ok (.iload 5, 2) := by decide +kernel
theorem dX_numberInList_53 : decode cX_numberInList 53 = .ok (.ifCond .lt 28, 3) := by decide +kernel
theorem dX_numberInList_56 : decode cX_numberInList 56 = .ok (.iload 5, 2) := by decide +kernel
theorem dX_numberInList_58 : decode cX_numberInList 58 = .ok (.iload_n 3, 1) := by decide +kernel
theorem dX_numberInList_59 : decode cX_numberInList 59 = .ok (.if_icmp .ge 22, 3) := by decide +kernel
theorem dX_numberInList_62 : decode cX_numberInList 62 = .ok (.aload_n 1, 1) := by decide +kernel
theorem dX_numberInList_63 : decode cX_numberInList 63 = .ok (.iload_n 2, 1) := by decide +kernel
theorem dX_numberInList_64 : decode cX_numberInList 64 = .ok (.iload 5, 2) := by decide +kernel
theorem dX_numberInList_66 : decode cX_numberInList 66 = .ok (.iadd, 1) := by decide +kernel
theorem dX_numberInList_67 : decode cX_numberInList 67 = .ok (.invokestatic 77, 3) := by decide +kernel
theorem dX_numberInList_70 : decode cX_numberInList 70 = .ok (.iload 7, 2) := by decide +kernel
theorem dX_numberInList_72 : decode cX_numberInList 72 = .ok (.if_icmp .ne 9, 3) := by decide +kernel
theorem dX_numberInList_75 : decode cX_numberInList 75 = .ok (.iinc 5 1, 3) := by decide +kernel
theorem dX_numberInList_78 : decode cX_numberInList 78 = .ok (.goto 6, 3) := by decide +kernel
theorem dX_numberInList_81 : decode cX_numberInList 81 = .ok (.iconst (-1), 1) := by decide +kernel
theorem dX_numberInList_82 : decode cX_numberInList 82 = .ok (.istore 5, 2) := by decide +kernel
theorem dX_numberInList_84 : decode cX_numberInList 84 = .ok (.iinc 6 1, 3) := by decide +kernel
theorem dX_numberInList_87 : decode cX_numberInList 87 = .ok (.goto (-78), 3) := by decide +kernel
theorem dX_numberInList_90 : decode cX_numberInList 90 = .ok (.iconst (-1), 1) := by decide +kernel
theorem dX_numberInList_91 : decode cX_numberInList 91 = .ok (.ireturn, 1) := by decide +kernel
theorem dS_length_0 : decode cS_length 0 = .ok (.aload_n 0, 1) := by decide +kernel
theorem dS_length_1 : decode cS_length 1 = .ok (.getfield 9, 3) := by decide +kernel
theorem dS_length_4 : decode cS_length 4 = .ok (.arraylength, 1) := by decide +kernel
theorem dS_length_5 : decode cS_length 5 = .ok (.aload_n 0, 1) := by decide +kernel
theorem dS_length_6 : decode cS_length 6 = .ok (.invokevirtual 335, 3) := by decide +kernel
theorem dS_length_9 : decode cS_length 9 = .ok (.ishr, 1) := by decide +kernel
theorem dS_length_10 : decode cS_length 10 = .ok (.ireturn, 1) := by decide +kernel
theorem dS_coder_0 : decode cS_coder 0 = .ok (.getstatic 38, 3) := by decide +kernel
theorem dS_coder_3 : decode cS_coder 3 = .ok (.ifCond .eq 10, 3) := by decide +kernel
theorem dS_coder_6 : decode cS_coder 6 = .ok (.aload_n 0, 1) := by decide +kernel
theorem dS_coder_7 : decode cS_coder 7 = .ok (.getfield 15, 3) := by decide +kernel
theorem dS_coder_10 : decode cS_coder 10 = .ok (.goto 4, 3) := by decide +kernel
theorem dS_coder_13 : decode cS_coder 13 = .ok (.iconst 1, 1) := by decide +kernel
theorem dS_coder_14 : decode cS_coder 14 = .ok (.ireturn, 1) := by decide +kernel
theorem dS_charAt_0 : decode cS_charAt 0 = .ok (.aload_n 0, 1) := by decide +kernel
theorem dS_charAt_1 : decode cS_charAt 1 = .ok (.invokevirtual 492, 3) := by decide +kernel
theorem dS_charAt_4 : decode cS_charAt 4 = .ok (.ifCond .eq 12, 3) := by decide +kernel
theorem dS_charAt_7 : decode cS_charAt 7 = .ok (.aload_n 0, 1) := by decide +kernel
theorem dS_charAt_8 : decode cS_charAt 8 = .ok (.getfield 9, 3) := by decide +kernel
theorem dS_charAt_11 : decode cS_charAt 11 = .ok (.iload_n 1, 1) := by decide +kernel
theorem dS_charAt_12 : decode cS_charAt 12 = .ok (.invokestatic 495, 3) := by decide +kernel
theorem dS_charAt_15 : decode cS_charAt 15 = .ok (.ireturn, 1) := by decide +kernel
theorem dS_charAt_16 : decode cS_charAt 16 = .ok (.aload_n 0, 1) := by decide +kernel
theorem dS_charAt_17 : decode cS_charAt 17 = .ok (.getfield 9, 3) := by decide +kernel
theorem dS_charAt_20 : decode cS_charAt 20 = .ok (.iload_n 1, 1) := by decide +kernel
theorem dS_charAt_21 : decode cS_charAt 21 = .ok (.invokestatic 498, 3) := by decide +kernel
theorem dS_charAt_24 : decode cS_charAt 24 = .ok (.ireturn, 1) := by decide +kernel
theorem dS_isLatin1_0 : decode cS_isLatin1 0 = .ok (.getstatic 38, 3) := by decide +kernel
theorem dS_isLatin1_3 : decode cS_isLatin1 3 = .ok (.ifCond .eq 14, 3) := by decide +kernel
theorem dS_isLatin1_6 : decode cS_isLatin1 6 = .ok (.aload_n 0, 1) := by decide +kernel
theorem dS_isLatin1_7 : decode cS_isLatin1 7 = .ok (.getfield 15, 3) := by decide +kernel
theorem dS_isLatin1_10 : decode cS_isLatin1 10 = .ok (.ifCond .ne 7, 3) := by decide +kernel
theorem dS_isLatin1_13 : decode cS_isLatin1 13 = .ok (.iconst 1, 1) := by decide +kernel
theorem dS_isLatin1_14 : decode cS_isLatin1 14 = .ok (.goto 4, 3) := by decide +kernel
theorem dS_isLatin1_17 : decode cS_isLatin1 17 = .ok (.iconst 0, 1) := by decide +kernel
theorem dS_isLatin1_18 : decode cS_isLatin1 18 = .ok (.ireturn, 1) := by decide +kernel
theorem dL1_charAt_0 : decode cL1_charAt 0 = .ok (.iload_n 1, 1) := by decide +kernel
theorem dL1_charAt_1 : decode cL1_charAt 1 = .ok (.aload_n 0, 1) := by decide +kernel
theorem dL1_charAt_2 : decode cL1_charAt 2 = .ok (.arraylength, 1) := by decide +kernel
theorem dL1_charAt_3 : decode cL1_charAt 3 = .ok (.invokestatic 9, 3) := by decide +kernel
theorem dL1_charAt_6 : decode cL1_charAt 6 = .ok (.aload_n 0, 1) := by decide +kernel
theorem dL1_charAt_7 : decode cL1_charAt 7 = .ok (.iload_n 1, 1) := by decide +kernel
theorem dL1_charAt_8 : decode cL1_charAt 8 = .ok (.baload, 1) := by decide +kernel
theorem dL1_charAt_9 : decode cL1_charAt 9 = .ok (.sipush 255, 3) := by decide +kernel
theorem dL1_charAt_12 : decode cL1_charAt 12 = .ok (.iand, 1) := by decide +kernel
theorem dL1_charAt_13 : decode cL1_charAt 13 = .ok (.i2c, 1) := by decide +kernel
theorem dL1_charAt_14 : decode cL1_charAt 14 = .ok (.ireturn, 1) := by decide +kernel
theorem dS_checkIndex_0 : decode cS_checkIndex 0 = .ok (.iload_n 0, 1) := by decide +kernel
theorem dS_checkIndex_1 : decode cS_checkIndex 1 = .ok (.iload_n 1, 1) := by decide +kernel
theorem dS_checkIndex_2 : decode cS_checkIndex 2 = .ok (.getstatic 1053, 3) := by decide +kernel
theorem dS_checkIndex_5 : decode cS_checkIndex 5 = .ok (.invokestatic 1059, 3) := by decide +kernel
theorem dS_checkIndex_8 : decode cS_checkIndex 8 = .ok (.pop, 1) := by decide +kernel
theorem dS_checkIndex_9 : decode cS_checkIndex 9 = .ok (.return_, 1) := by decide +kernel
theorem dP_checkIndex_0 : decode cP_checkIndex 0 = .ok (.iload_n 0, 1) := by decide +kernel
theorem dP_checkIndex_1 : decode cP_checkIndex 1 = .ok (.ifCond .lt 8, 3) := by decide +kernel
theorem dP_checkIndex_4 : decode cP_checkIndex 4 = .ok (.iload_n 0, 1) := by decide +kernel
theorem dP_checkIndex_5 : decode cP_checkIndex 5 = .ok (.iload_n 1, 1) := by decide +kernel
theorem dP_checkIndex_6 : decode cP_checkIndex 6 = .ok (.if_icmp .lt 10, 3) := by decide +kernel
theorem dP_checkIndex_9 : decode cP_checkIndex 9 = .ok (.aload_n 2, 1) := by decide +kernel
theorem dP_checkIndex_10 : decode cP_checkIndex 10 = .ok (.iload_n 0, 1) := by decide +kernel
theorem dP_checkIndex_11 : decode cP_checkIndex 11 = .ok (.iload_n 1, 1) := by decide +kernel
theorem dP_checkIndex_12 : decode cP_checkIndex 12 = .ok (.invokestatic 95, 3) := by decide +kernel
theorem dP_checkIndex_15 : decode cP_checkIndex 15 = .ok (.athrow, 1) := by decide +kernel
theorem dP_checkIndex_16 : decode cP_checkIndex 16 = .ok (.iload_n 0, 1) := by decide +kernel
theorem dP_checkIndex_17 : decode cP_checkIndex 17 = .ok (.ireturn, 1) := by decide +kernel
theorem dX_takeText_0 : decode cX_takeText 0 = .ok (.iconst 0, 1) := by decide +kernel
theorem dX_takeText_1 : decode cX_takeText 1 = .ok (.istore_n 2, 1) := by decide +kernel
theorem dX_takeText_2 : decode cX_takeText 2 = .ok (.iload_n 2, 1) := by decide +kernel
theorem dX_takeText_3 : decode cX_takeText 3 = .ok (.iload_n 1, 1) := by decide +kernel
theorem dX_takeText_4 : decode cX_takeText 4 = .ok (.if_icmp .ge 31, 3) := by decide +kernel
theorem dX_takeText_7 : decode cX_takeText 7 = .ok (.aload_n 0, 1) := by decide +kernel
theorem dX_takeText_8 : decode cX_takeText 8 = .ok (.aload_n 0, 1) := by decide +kernel
theorem dX_takeText_9 : decode cX_takeText 9 = .ok (.aload_n 0, 1) := by decide +kernel
theorem dX_takeText_10 : decode cX_takeText 10 = .ok (.getfield 48, 3) := by decide +kernel
theorem dX_takeText_13 : decode cX_takeText 13 = .ok (.invokevirtual 81, 3) := by decide +kernel
theorem dX_takeText_16 : decode cX_takeText 16 = .ok (.invokevirtual 153, 3) := by decide +kernel
theorem dX_takeText_19 : decode cX_takeText 19 = .ok (.aload_n 0, 1) := by decide +kernel
theorem dX_takeText_20 : decode cX_takeText 20 = .ok (.dup, 1) := by decide +kernel
theorem dX_takeText_21 : decode cX_takeText 21 = .ok (.getfield 48, 3) := by decide +kernel
theorem dX_takeText_24 : decode cX_takeText 24 = .ok (.iconst 1, 1) := by decide +kernel
theorem dX_takeText_25 : decode cX_takeText 25 = .ok (.iadd, 1) := by decide +kernel
theorem dX_takeText_26 : decode cX_takeText 26 = .ok (.putfield 48, 3) := by decide +kernel
theorem dX_takeText_29 : decode cX_takeText 29 = .ok (.iinc 2 1, 3) := by decide +kernel
theorem dX_takeText_32 : decode cX_takeText 32 = .ok (.goto (-30), 3) := by decide +kernel
theorem dX_takeText_35 : decode cX_takeText 35 = .ok (.return_, 1) := by decide +kernel
theorem dX_appendText_0 : decode cX_appendText 0 = .ok (.aload_n 0, 1) := by decide +kernel
theorem dX_appendText_1 : decode cX_appendText 1 = .ok (.getfield 45, 3) := by decide +kernel
theorem dX_appendText_4 : decode cX_appendText 4 = .ok (.ifCond .lt 35, 3) := by decide +kernel
theorem dX_appendText_7 : decode cX_appendText 7 = .ok (.aload_n 0, 1) := by decide +kernel
theorem dX_appendText_8 : decode cX_appendText 8 = .ok (.getfield 45, 3) := by decide +kernel
theorem dX_appendText_11 : decode cX_appendText 11 = .ok (.aload_n 0, 1) := by decide +kernel
theorem dX_appendText_12 : decode cX_appendText 12 = .ok (.getfield 31, 3) := by decide +kernel
theorem dX_appendText_15 : decode cX_appendText 15 = .ok (.arraylength, 1) := by decide +kernel
theorem dX_appendText_16 : decode cX_appendText 16 = .ok (.if_icmp .ge 23, 3) := by decide +kernel
theorem dX_appendText_19 : decode cX_appendText 19 = .ok (.aload_n 0, 1) := by decide +kernel
theorem dX_appendText_20 : decode cX_appendText 20 = .ok (.getfield 31, 3) := by decide +kernel
theorem dX_appendText_23 : decode cX_appendText 23 = .ok (.aload_n 0, 1) := by decide +kernel
theorem dX_appendText_24 : decode cX_appendText 24 = .ok (.getfield 45, 3) := by decide +kernel
theorem dX_appendText_27 : decode cX_appendText 27 = .ok (.iload_n 1, 1) := by decide +kernel
theorem dX_appendText_28 : decode cX_appendText 28 = .ok (.iastore, 1) := by decide +kernel
theorem dX_appendText_29 : decode cX_appendText 29 = .ok (.aload_n 0, 1) := by decide +kernel
theorem dX_appendText_30 : decode cX_appendText 30 = .ok (.dup, 1) := by decide +kernel
theorem dX_appendText_31 : decode cX_appendText 31 = .ok (.getfield 45, 3) := by decide +kernel
theorem dX_appendText_34 : decode cX_appendText 34 = .ok (.iconst 1, 1) := by decide +kernel
theorem dX_appendText_35 : decode cX_appendText 35 = .ok (.iadd, 1) := by decide +kernel
theorem dX_appendText_36 : decode cX_appendText 36 = .ok (.putfield 45, 3) := by decide +kernel
theorem dX_appendText_39 : decode cX_appendText 39 = .ok (.return_, 1) := by decide +kernel
theorem dX_takeDigits_0 : decode cX_takeDigits 0 = .ok (.aload_n 0, 1) := by decide +kernel
theorem dX_takeDigits_1 : decode cX_takeDigits 1 = .ok (.getfield 48, 3) := by decide +kernel
theorem dX_takeDigits_4 : decode cX_takeDigits 4 = .ok (.istore_n 2, 1) := by decide +kernel
theorem dX_takeDigits_5 : decode cX_takeDigits 5 = .ok (.lconst 0, 1) := by decide +kernel
theorem dX_takeDigits_6 : decode cX_takeDigits 6 = .ok (.lstore_n 3, 1) := by decide +kernel
theorem dX_takeDigits_7 : decode cX_takeDigits 7 = .ok (.aload_n 0, 1) := by decide +kernel
theorem dX_takeDigits_8 : decode cX_takeDigits 8 = .ok (.getfield 48, 3) := by decide +kernel
theorem dX_takeDigits_11 : decode cX_takeDigits 11 = .ok (.aload_n 0, 1) := by decide +kernel
theorem dX_takeDigits_12 : decode cX_takeDigits 12 = .ok (.getfield 34, 3) := by decide +kernel
theorem dX_takeDigits_15 : decode cX_takeDigits 15 = .ok (.if_icmp .ge 59, 3) := by decide +kernel
theorem dX_takeDigits_18 : decode cX_takeDigits 18 = .ok (.aload_n 0, 1) := by decide +kernel
theorem dX_takeDigits_19 : decode cX_takeDigits 19 = .ok (.aload_n 0, 1) := by decide +kernel
theorem dX_takeDigits_20 : decode cX_takeDigits 20 = .ok (.getfield 48, 3) := by decide +kernel
theorem dX_takeDigits_23 : decode cX_takeDigits 23 = .ok (.invokevirtual 81, 3) := by decide +kernel
theorem dX_takeDigits_26 : decode cX_takeDigits 26 = .ok (.invokestatic 139, 3) := by decide +kernel
theorem dX_takeDigits_29 : decode cX_takeDigits 29 = .ok (.istore 5, 2) := by decide +kernel
theorem dX_takeDigits_31 : decode cX_takeDigits 31 = .ok (.iload 5, 2) := by decide +kernel
theorem dX_takeDigits_33 : decode cX_takeDigits 33 = .ok (.iconst (-1), 1) := by decide +kernel
theorem dX_takeDigits_34 : decode cX_takeDigits 34 = .ok (.if_icmp .eq 40, 3) := by decide +kernel
theorem dX_takeDigits_37 : decode cX_takeDigits 37 = .ok (.iload 5, 2) := by decide +kernel
theorem dX_takeDigits_39 : decode cX_takeDigits 39 = .ok (.iload_n 1, 1) := by decide +kernel
theorem dX_takeDigits_40 : decode cX_takeDigits 40 = .ok (.if_icmp .lt 6, 3) := by decide +kernel
theorem dX_takeDigits_43 : decode cX_takeDigits 43 = .ok (.goto 31, 3) := by decide +kernel
theorem dX_takeDigits_46 : decode cX_takeDigits 46 = .ok (.lload_n 3, 1) := by decide +kernel
theorem dX_takeDigits_47 : decode cX_takeDigits 47 = .ok (.iload_n 1, 1) := by decide +kernel
theorem dX_takeDigits_48 : decode cX_takeDigits 48 = .ok (.i2l, 1) := by decide +kernel
theorem dX_takeDigits_49 : decode cX_takeDigits 49 = .ok (.lmul, 1) := by decide +kernel
theorem dX_takeDigits_50 : decode cX_takeDigits 50 = .ok (.iload 5, 2) := by decide +kernel
theorem dX_takeDigits_52 : decode cX_takeDigits 52 = .ok (.i2l, 1) := by decide +kernel
theorem dX_takeDigits_53 : decode cX_takeDigits 53 = .ok (.ladd, 1) := by decide +kernel
theorem dX_takeDigits_54 : decode cX_takeDigits 54 = .ok (.ldc2_w 142, 3) := by decide +kernel
theorem dX_takeDigits_57 : decode cX_takeDigits 57 = .ok (.invokestatic 144, 3) := by decide +kernel
theorem dX_takeDigits_60 : decode cX_takeDigits 60 = .ok (.lstore_n 3, 1) := by decide +kernel
theorem dX_takeDigits_61 : decode cX_takeDigits 61 = .ok (.aload_n 0, 1) := by decide +kernel
theorem dX_takeDigits_62 : decode cX_takeDigits 62 = .ok (.dup, 1) := by decide +kernel
theorem dX_takeDigits_63 : decode cX_takeDigits 63 = .ok (.getfield 48, 3) := by decide +kernel
theorem dX_takeDigits_66 : decode cX_takeDigits 66 = .ok (.iconst 1, 1) := by decide +kernel
theorem dX_takeDigits_67 : decode cX_takeDigits 67 = .ok (.iadd, 1) := by decide +kernel
theorem dX_takeDigits_68 : decode cX_takeDigits 68 = .ok (.putfield 48, 3) := by decide +kernel
theorem dX_takeDigits_71 : decode cX_takeDigits 71 = .ok (.goto (-64), 3) := by decide +kernel
theorem dX_takeDigits_74 : decode cX_takeDigits 74 = .ok (.aload_n 0, 1) := by decide +kernel
theorem dX_takeDigits_75 : decode cX_takeDigits 75 = .ok (.getfield 48, 3) := by decide +kernel
theorem dX_takeDigits_78 : decode cX_takeDigits 78 = .ok (.iload_n 2, 1) := by decide +kernel
theorem dX_takeDigits_79 : decode cX_takeDigits 79 = .ok (.if_icmp .eq 11, 3) := by decide +kernel
theorem dX_takeDigits_82 : decode cX_takeDigits 82 = .ok (.lload_n 3, 1) := by decide +kernel
theorem dX_takeDigits_83 : decode cX_takeDigits 83 = .ok (.ldc2_w 142, 3) := by decide +kernel
theorem dX_takeDigits_86 : decode cX_takeDigits 86 = .ok (.lcmp, 1) := by decide +kernel
theorem dX_takeDigits_87 : decode cX_takeDigits 87 = .ok (.ifCond .lt 6, 3) := by decide +kernel
theorem dX_takeDigits_90 : decode cX_takeDigits 90 = .ok (.bipush 6, 2) := by decide +kernel
theorem dX_takeDigits_92 : decode cX_takeDigits 92 = .ok (.ireturn, 1) := by decide +kernel
theorem dX_takeDigits_93 : decode cX_takeDigits 93 = .ok (.aload_n 0, 1) := by decide +kernel
theorem dX_takeDigits_94 : decode cX_takeDigits 94 = .ok (.lload_n 3, 1) := by decide +kernel
theorem dX_takeDigits_95 : decode cX_takeDigits 95 = .ok (.l2i, 1) := by decide +kernel
theorem dX_takeDigits_96 : decode cX_takeDigits 96 = .ok (.putfield 85, 3) := by decide +kernel
theorem dX_takeDigits_99 : decode cX_takeDigits 99 = .ok (.iconst 1, 1) := by decide +kernel
theorem dX_takeDigits_100 : decode cX_takeDigits 100 = .ok (.ireturn, 1) := by decide +kernel
theorem dX_digitOf_0 : decode cX_digitOf 0 = .ok (.iload_n 0, 1) := by decide +kernel
theorem dX_digitOf_1 : decode cX_digitOf 1 = .ok (.invokestatic 109, 3) := by decide +kernel
theorem dX_digitOf_4 : decode cX_digitOf 4 = .ok (.ifCond .eq 8, 3) := by decide +kernel
theorem dX_digitOf_7 : decode cX_digitOf 7 = .ok (.iload_n 0, 1) := by decide +kernel
theorem dX_digitOf_8 : decode cX_digitOf 8 = .ok (.bipush 48, 2) := by decide +kernel
theorem dX_digitOf_10 : decode cX_digitOf 10 = .ok (.isub, 1) := by decide +kernel
theorem dX_digitOf_11 : decode cX_digitOf 11 = .ok (.ireturn, 1) := by decide +kernel
theorem dX_digitOf_12 : decode cX_digitOf 12 = .ok (.iload_n 0, 1) := by decide +kernel
theorem dX_digitOf_13 : decode cX_digitOf 13 = .ok (.bipush 65, 2) := by decide +kernel
theorem dX_digitOf_15 : decode cX_digitOf 15 = .ok (.if_icmp .lt 19, 3) := by decide +kernel
theorem dX_digitOf_18 : decode cX_digitOf 18 = .ok (.iload_n 0, 1) := by decide +kernel
theorem dX_digitOf_19 : decode cX_digitOf 19 = .ok (.bipush 70, 2) := by decide +kernel
theorem dX_digitOf_21 : decode cX_digitOf 21 = .ok (.if_icmp .gt 13, 3) := by decide +kernel
theorem dX_digitOf_24 : decode cX_digitOf 24 = .ok (.iload_n 0, 1) := by decide +kernel
theorem dX_digitOf_25 : decode cX_digitOf 25 = .ok (.bipush 65, 2) := by decide +kernel
theorem dX_digitOf_27 : decode cX_digitOf 27 = .ok (.isub, 1) := by decide +kernel
theorem dX_digitOf_28 : decode cX_digitOf 28 = .ok (.bipush 10, 2) := by decide +kernel
theorem dX_digitOf_30 : decode cX_digitOf 30 = .ok (.iadd, 1) := by decide +kernel
theorem dX_digitOf_31 : decode cX_digitOf 31 = .ok (.goto 4, 3) := by decide +kernel
theorem dX_digitOf_34 : decode cX_digitOf 34 = .ok (.iconst (-1), 1) := by decide +kernel
theorem dX_digitOf_35 : decode cX_digitOf 35 = .ok (.ireturn, 1) := by decide +kernel
theorem dX_takeNumberInBase_0 : decode cX_takeNumberInBase 0 = .ok (.aload_n 0, 1) := by decide +kernel
theorem dX_takeNumberInBase_1 : decode cX_takeNumberInBase 1 = .ok (.dup, 1) := by decide +kernel
theorem dX_takeNumberInBase_2 : decode cX_takeNumberInBase 2 = .ok (.getfield 48, 3) := by decide +kernel
theorem dX_takeNumberInBase_5 : decode cX_takeNumberInBase 5 = .ok (.iconst 1, 1) := by decide +kernel
theorem dX_takeNumberInBase_6 : decode cX_takeNumberInBase 6 = .ok (.iadd, 1) := by decide +kernel
theorem dX_takeNumberInBase_7 : decode cX_takeNumberInBase 7 = .ok (.putfield 48, 3) := by decide +kernel
theorem dX_takeNumberInBase_10 : decode cX_takeNumberInBase 10 = .ok (.aload_n 0, 1) := by decide +kernel
theorem dX_takeNumberInBase_11 : decode cX_takeNumberInBase 11 = .ok (.aload_n 0, 1) := by decide +kernel
theorem dX_takeNumberInBase_12 : decode cX_takeNumberInBase 12 = .ok (.getfield 48, 3) := by decide +kernel
theorem dX_takeNumberInBase_15 : decode cX_takeNumberInBase 15 = .ok (.invokevirtual 81, 3) := by decide +kernel
theorem dX_takeNumberInBase_18 : decode cX_takeNumberInBase 18 = .ok (.bipush 88, 2) := by decide +kernel
theorem dX_takeNumberInBase_20 : decode cX_takeNumberInBase 20 = .ok (.if_icmp .eq 10, 3) := by decide +kernel
theorem dX_takeNumberInBase_23 : decode cX_takeNumberInBase 23 = .ok (.aload_n 0, 1) := by decide +kernel
theorem dX_takeNumberInBase_24 : decode cX_takeNumberInBase 24 = .ok (.bipush 8, 2) := by decide +kernel
theorem dX_takeNumberInBase_26 : decode cX_takeNumberInBase 26 = .ok (.invokevirtual 112, 3) := by decide +kernel
theorem dX_takeNumberInBase_29 : decode cX_takeNumberInBase 29 = .ok (.ireturn, 1) := by decide +kernel
theorem dX_takeNumberInBase_30 : decode cX_takeNumberInBase 30 = .ok (.aload_n 0, 1) := by decide +kernel
theorem dX_takeNumberInBase_31 : decode cX_takeNumberInBase 31 = .ok (.dup, 1) := by decide +kernel
theorem dX_takeNumberInBase_32 : decode cX_takeNumberInBase 32 = .ok (.getfield 48, 3) := by decide +kernel
theorem dX_takeNumberInBase_35 : decode cX_takeNumberInBase 35 = .ok (.iconst 1, 1) := by decide +kernel
theorem dX_takeNumberInBase_36 : decode cX_takeNumberInBase 36 = .ok (.iadd, 1) := by decide +kernel
theorem dX_takeNumberInBase_37 : decode cX_takeNumberInBase 37 = .ok (.putfield 48, 3) := by decide +kernel
theorem dX_takeNumberInBase_40 : decode cX_takeNumberInBase 40 = .ok (.aload_n 0, 1) := by decide +kernel
theorem dX_takeNumberInBase_41 : decode cX_takeNumberInBase 41 = .ok (.bipush 16, 2) := by decide +kernel
theorem dX_takeNumberInBase_43 : decode cX_takeNumberInBase 43 = .ok (.invokevirtual 112, 3) := by decide +kernel
theorem dX_takeNumberInBase_46 : decode cX_takeNumberInBase 46 = .ok (.ireturn, 1) := by decide +kernel
theorem dX_takeCharacter_0 : decode cX_takeCharacter 0 = .ok (.aload_n 0, 1) := by decide +kernel
theorem dX_takeCharacter_1 : decode cX_takeCharacter 1 = .ok (.dup, 1) := by decide +kernel
theorem dX_takeCharacter_2 : decode cX_takeCharacter 2 = .ok (.getfield 48, 3) := by decide +kernel
theorem dX_takeCharacter_5 : decode cX_takeCharacter 5 = .ok (.iconst 1, 1) := by decide +kernel
theorem dX_takeCharacter_6 : decode cX_takeCharacter 6 = .ok (.iadd, 1) := by decide +kernel
theorem dX_takeCharacter_7 : decode cX_takeCharacter 7 = .ok (.putfield 48, 3) := by decide +kernel
theorem dX_takeCharacter_10 : decode cX_takeCharacter 10 = .ok (.aload_n 0, 1) := by decide +kernel
theorem dX_takeCharacter_11 : decode cX_takeCharacter 11 = .ok (.bipush 39, 2) := by decide +kernel
theorem dX_takeCharacter_13 : decode cX_takeCharacter 13 = .ok (.invokevirtual 150, 3) := by decide +kernel
theorem dX_takeCharacter_16 : decode cX_takeCharacter 16 = .ok (.istore_n 1, 1) := by decide +kernel
theorem dX_takeCharacter_17 : decode cX_takeCharacter 17 = .ok (.iload_n 1, 1) := by decide +kernel
theorem dX_takeCharacter_18 : decode cX_takeCharacter 18 = .ok (.iconst (-1), 1) := by decide +kernel
theorem dX_takeCharacter_19 : decode cX_takeCharacter 19 = .ok (.if_icmp .eq 16, 3) := by decide +kernel
theorem dX_takeCharacter_22 : decode cX_takeCharacter 22 = .ok (.aload_n 0, 1) := by decide +kernel
theorem dX_takeCharacter_23 : decode cX_takeCharacter 23 = .ok (.aload_n 0, 1) := by decide +kernel
theorem dX_takeCharacter_24 : decode cX_takeCharacter 24 = .ok (.getfield 48, 3) := by decide +kernel
theorem dX_takeCharacter_27 : decode cX_takeCharacter 27 = .ok (.invokevirtual 81, 3) := by decide +kernel
theorem dX_takeCharacter_30 : decode cX_takeCharacter 30 = .ok (.bipush 39, 2) := by decide +kernel
theorem dX_takeCharacter_32 : decode cX_takeCharacter 32 = .ok (.if_icmp .eq 6, 3) := by decide +kernel
theorem dX_takeCharacter_35 : decode cX_takeCharacter 35 = .ok (.bipush 6, 2) := by decide +kernel
theorem dX_takeCharacter_37 : decode cX_takeCharacter 37 = .ok (.ireturn, 1) := by decide +kernel
theorem dX_takeCharacter_38 : decode cX_takeCharacter 38 = .ok (.aload_n 0, 1) := by decide +kernel
theorem dX_takeCharacter_39 : decode cX_takeCharacter 39 = .ok (.dup, 1) := by decide +kernel
theorem dX_takeCharacter_40 : decode cX_takeCharacter 40 = .ok (.getfield 48, 3) := by decide +kernel
theorem dX_takeCharacter_43 : decode cX_takeCharacter 43 = .ok (.iconst 1, 1) := by decide +kernel
theorem dX_takeCharacter_44 : decode cX_takeCharacter 44 = .ok (.iadd, 1) := by decide +kernel
theorem dX_takeCharacter_45 : decode cX_takeCharacter 45 = .ok (.putfield 48, 3) := by decide +kernel
theorem dX_takeCharacter_48 : decode cX_takeCharacter 48 = .ok (.aload_n 0, 1) := by decide +kernel
theorem dX_takeCharacter_49 : decode cX_takeCharacter 49 = .ok (.iload_n 1, 1) := by decide +kernel
theorem dX_takeCharacter_50 : decode cX_takeCharacter 50 = .ok (.putfield 85, 3) := by decide +kernel
theorem dX_takeCharacter_53 : decode cX_takeCharacter 53 = .ok (.iconst 1, 1) := by decide +kernel
theorem dX_takeCharacter_54 : decode cX_takeCharacter 54 = .ok (.ireturn, 1) := by decide +kernel
theorem dX_takeMeantByte_0 : decode cX_takeMeantByte 0 = .ok (.aload_n 0, 1) := by decide +kernel
theorem dX_takeMeantByte_1 : decode cX_takeMeantByte 1 = .ok (.aload_n 0, 1) := by decide +kernel
theorem dX_takeMeantByte_2 : decode cX_takeMeantByte 2 = .ok (.getfield 48, 3) := by decide +kernel
theorem dX_takeMeantByte_5 : decode cX_takeMeantByte 5 = .ok (.invokevirtual 81, 3) := by decide +kernel
theorem dX_takeMeantByte_8 : decode cX_takeMeantByte 8 = .ok (.istore_n 2, 1) := by decide +kernel
theorem dX_takeMeantByte_9 : decode cX_takeMeantByte 9 = .ok (.iload_n 2, 1) := by decide +kernel
theorem dX_takeMeantByte_10 : decode cX_takeMeantByte 10 = .ok (.bipush 42, 2) := by decide +kernel
theorem dX_takeMeantByte_12 : decode cX_takeMeantByte 12 = .ok (.if_icmp .ne 29, 3) := by decide +kernel
theorem dX_takeMeantByte_15 : decode cX_takeMeantByte 15 = .ok (.aload_n 0, 1) := by decide +kernel
theorem dX_takeMeantByte_16 : decode cX_takeMeantByte 16 = .ok (.aload_n 0, 1) := by decide +kernel
theorem dX_takeMeantByte_17 : decode cX_takeMeantByte 17 = .ok (.getfield 48, 3) := by decide +kernel
theorem dX_takeMeantByte_20 : decode cX_takeMeantByte 20 = .ok (.iconst 1, 1) := by decide +kernel
theorem dX_takeMeantByte_21 : decode cX_takeMeantByte 21 = .ok (.iadd, 1) := by decide +kernel
theorem dX_takeMeantByte_22 : decode cX_takeMeantByte 22 = .ok (.invokevirtual 81, 3) := by decide +kernel
theorem dX_takeMeantByte_25 : decode cX_takeMeantByte 25 = .ok (.invokestatic 156, 3) := by decide +kernel
theorem dX_takeMeantByte_28 : decode cX_takeMeantByte 28 = .ok (.istore_n 3, 1) := by decide +kernel
theorem dX_takeMeantByte_29 : decode cX_takeMeantByte 29 = .ok (.aload_n 0, 1) := by decide +kernel
theorem dX_takeMeantByte_30 : decode cX_takeMeantByte 30 = .ok (.dup, 1) := by decide +kernel
theorem dX_takeMeantByte_31 : decode cX_takeMeantByte 31 = .ok (.getfield 48, 3) := by decide +kernel
theorem dX_takeMeantByte_34 : decode cX_takeMeantByte 34 = .ok (.iconst 2, 1) := by decide +kernel
theorem dX_takeMeantByte_35 : decode cX_takeMeantByte 35 = .ok (.iadd, 1) := by decide +kernel
theorem dX_takeMeantByte_36 : decode cX_takeMeantByte 36 = .ok (.putfield 48, 3) := by decide +kernel
theorem dX_takeMeantByte_39 : decode cX_takeMeantByte 39 = .ok (.iload_n 3, 1) := by decide +kernel
theorem dX_takeMeantByte_40 : decode cX_takeMeantByte 40 = .ok (.ireturn, 1) := by decide +kernel
theorem dX_takeMeantByte_41 : decode cX_takeMeantByte 41 = .ok (.aload_n 0, 1) := by decide +kernel
theorem dX_takeMeantByte_42 : decode cX_takeMeantByte 42 = .ok (.dup, 1) := by decide +kernel
theorem dX_takeMeantByte_43 : decode cX_takeMeantByte 43 = .ok (.getfield 48, 3) := by decide +kernel
theorem dX_takeMeantByte_46 : decode cX_takeMeantByte 46 = .ok (.iconst 1, 1) := by decide +kernel
theorem dX_takeMeantByte_47 : decode cX_takeMeantByte 47 = .ok (.iadd, 1) := by decide +kernel
theorem dX_takeMeantByte_48 : decode cX_takeMeantByte 48 = .ok (.putfield 48, 3) := by decide +kernel
theorem dX_takeMeantByte_51 : decode cX_takeMeantByte 51 = .ok (.iload_n 2, 1) := by decide +kernel
theorem dX_takeMeantByte_52 : decode cX_takeMeantByte 52 = .ok (.bipush 32, 2) := by decide +kernel
theorem dX_takeMeantByte_54 : decode cX_takeMeantByte 54 = .ok (.if_icmp .lt 18, 3) := by decide +kernel
theorem dX_takeMeantByte_57 : decode cX_takeMeantByte 57 = .ok (.iload_n 2, 1) := by decide +kernel
theorem dX_takeMeantByte_58 : decode cX_takeMeantByte 58 = .ok (.bipush 126, 2) := by decide +kernel
theorem dX_takeMeantByte_60 : decode cX_takeMeantByte 60 = .ok (.if_icmp .gt 12, 3) := by decide +kernel
theorem dX_takeMeantByte_63 : decode cX_takeMeantByte 63 = .ok (.iload_n 2, 1) := by decide +kernel
theorem dX_takeMeantByte_64 : decode cX_takeMeantByte 64 = .ok (.iload_n 1, 1) := by decide +kernel
theorem dX_takeMeantByte_65 : decode cX_takeMeantByte 65 = .ok (.if_icmp .eq 7, 3) := by decide +kernel
theorem dX_takeMeantByte_68 : decode cX_takeMeantByte 68 = .ok (.iload_n 2, 1) := by decide +kernel
theorem dX_takeMeantByte_69 : decode cX_takeMeantByte 69 = .ok (.goto 4, 3) := by decide +kernel
theorem dX_takeMeantByte_72 : decode cX_takeMeantByte 72 = .ok (.iconst (-1), 1) := by decide +kernel
theorem dX_takeMeantByte_73 : decode cX_takeMeantByte 73 = .ok (.ireturn, 1) := by decide +kernel
theorem dX_meaningBehindStar_0 : decode cX_meaningBehindStar 0 = .ok (.iload_n 0, 1) := by decide +kernel
theorem dX_meaningBehindStar_1 : decode cX_meaningBehindStar 1 = .ok (.lookupswitch 70 #[(34, 68), (39, 68), (42, 68), (78, 59), (83, 62), (84, 65)], 59) := by decide +kernel
theorem dX_meaningBehindStar_60 : decode cX_meaningBehindStar 60 = .ok (.bipush 10, 2) := by decide +kernel
theorem dX_meaningBehindStar_62 : decode cX_meaningBehindStar 62 = .ok (.ireturn, 1) := by decide +kernel
theorem dX_meaningBehindStar_63 : decode cX_meaningBehindStar 63 = .ok (.bipush 32, 2) := by decide +kernel
theorem dX_meaningBehindStar_65 : decode cX_meaningBehindStar 65 = .ok (.ireturn, 1) := by decide +kernel
theorem dX_meaningBehindStar_66 : decode cX_meaningBehindStar 66 = .ok (.bipush 9, 2) := by decide +kernel
theorem dX_meaningBehindStar_68 : decode cX_meaningBehindStar 68 = .ok (.ireturn, 1) := by decide +kernel
theorem dX_meaningBehindStar_69 : decode cX_meaningBehindStar 69 = .ok (.iload_n 0, 1) := by decide +kernel
theorem dX_meaningBehindStar_70 : decode cX_meaningBehindStar 70 = .ok (.ireturn, 1) := by decide +kernel
theorem dX_meaningBehindStar_71 : decode cX_meaningBehindStar 71 = .ok (.iconst (-1), 1) := by decide +kernel
theorem dX_meaningBehindStar_72 : decode cX_meaningBehindStar 72 = .ok (.ireturn, 1) := by decide +kernel
theorem dX_takeString_0 : decode cX_takeString 0 = .ok (.aload_n 0, 1) := by decide +kernel
theorem dX_takeString_1 : decode cX_takeString 1 = .ok (.dup, 1) := by decide +kernel
theorem dX_takeString_2 : decode cX_takeString 2 = .ok (.getfield 48, 3) := by decide +kernel
theorem dX_takeString_5 : decode cX_takeString 5 = .ok (.iconst 1, 1) := by decide +kernel
theorem dX_takeString_6 : decode cX_takeString 6 = .ok (.iadd, 1) := by decide +kernel
theorem dX_takeString_7 : decode cX_takeString 7 = .ok (.putfield 48, 3) := by decide +kernel
theorem dX_takeString_10 : decode cX_takeString 10 = .ok (.iconst 0, 1) := by decide +kernel
theorem dX_takeString_11 : decode cX_takeString 11 = .ok (.istore_n 1, 1) := by decide +kernel
theorem dX_takeString_12 : decode cX_takeString 12 = .ok (.iload_n 1, 1) := by decide +kernel
theorem dX_takeString_13 : decode cX_takeString 13 = .ok (.sipush 200, 3) := by decide +kernel
theorem dX_takeString_16 : decode cX_takeString 16 = .ok (.if_icmp .gt 54, 3) := by decide +kernel
theorem dX_takeString_19 : decode cX_takeString 19 = .ok (.aload_n 0, 1) := by decide +kernel
theorem dX_takeString_20 : decode cX_takeString 20 = .ok (.aload_n 0, 1) := by decide +kernel
theorem dX_takeString_21 : decode cX_takeString 21 = .ok (.getfield 48, 3) := by decide +kernel
theorem dX_takeString_24 : decode cX_takeString 24 = .ok (.invokevirtual 81, 3) := by decide +kernel
theorem dX_takeString_27 : decode cX_takeString 27 = .ok (.bipush 34, 2) := by decide +kernel
theorem dX_takeString_29 : decode cX_takeString 29 = .ok (.if_icmp .ne 15, 3) := by decide +kernel
theorem dX_takeString_32 : decode cX_takeString 32 = .ok (.aload_n 0, 1) := by decide +kernel
theorem dX_takeString_33 : decode cX_takeString 33 = .ok (.dup, 1) := by decide +kernel
theorem dX_takeString_34 : decode cX_takeString 34 = .ok (.getfield 48, 3) := by decide +kernel
theorem dX_takeString_37 : decode cX_takeString 37 = .ok (.iconst 1, 1) := by decide +kernel
theorem dX_takeString_38 : decode cX_takeString 38 = .ok (.iadd, 1) := by decide +kernel
theorem dX_takeString_39 : decode cX_takeString 39 = .ok (.putfield 48, 3) := by decide +kernel
theorem dX_takeString_42 : decode cX_takeString 42 = .ok (.iconst 2, 1) := by decide +kernel
theorem dX_takeString_43 : decode cX_takeString 43 = .ok (.ireturn, 1) := by decide +kernel
theorem dX_takeString_44 : decode cX_takeString 44 = .ok (.aload_n 0, 1) := by decide +kernel
theorem dX_takeString_45 : decode cX_takeString 45 = .ok (.bipush 34, 2) := by decide +kernel
theorem dX_takeString_47 : decode cX_takeString 47 = .ok (.invokevirtual 150, 3) := by decide +kernel
theorem dX_takeString_50 : decode cX_takeString 50 = .ok (.istore_n 2, 1) := by decide +kernel
theorem dX_takeString_51 : decode cX_takeString 51 = .ok (.iload_n 2, 1) := by decide +kernel
theorem dX_takeString_52 : decode cX_takeString 52 = .ok (.iconst (-1), 1) := by decide +kernel
theorem dX_takeString_53 : decode cX_takeString 53 = .ok (.if_icmp .ne 6, 3) := by decide +kernel
theorem dX_takeString_56 : decode cX_takeString 56 = .ok (.bipush 6, 2) := by decide +kernel
theorem dX_takeString_58 : decode cX_takeString 58 = .ok (.ireturn, 1) := by decide +kernel
theorem dX_takeString_59 : decode cX_takeString 59 = .ok (.aload_n 0, 1) := by decide +kernel
theorem dX_takeString_60 : decode cX_takeString 60 = .ok (.iload_n 2, 1) := by decide +kernel
theorem dX_takeString_61 : decode cX_takeString 61 = .ok (.invokevirtual 153, 3) := by decide +kernel
theorem dX_takeString_64 : decode cX_takeString 64 = .ok (.iinc 1 1, 3) := by decide +kernel
theorem dX_takeString_67 : decode cX_takeString 67 = .ok (.goto (-55), 3) := by decide +kernel
theorem dX_takeString_70 : decode cX_takeString 70 = .ok (.bipush 6, 2) := by decide +kernel
theorem dX_takeString_72 : decode cX_takeString 72 = .ok (.ireturn, 1) := by decide +kernel
theorem dX_takeSign_0 : decode cX_takeSign 0 = .ok (.iconst 2, 1) := by decide +kernel
theorem dX_takeSign_1 : decode cX_takeSign 1 = .ok (.istore_n 1, 1) := by decide +kernel
theorem dX_takeSign_2 : decode cX_takeSign 2 = .ok (.iload_n 1, 1) := by decide +kernel
theorem dX_takeSign_3 : decode cX_takeSign 3 = .ok (.ifCond .le 47, 3) := by decide +kernel
theorem dX_takeSign_6 : decode cX_takeSign 6 = .ok (.iload_n 1, 1) := by decide +kernel
theorem dX_takeSign_7 : decode cX_takeSign 7 = .ok (.aload_n 0, 1) := by decide +kernel
theorem dX_takeSign_8 : decode cX_takeSign 8 = .ok (.getfield 34, 3) := by decide +kernel
theorem dX_takeSign_11 : decode cX_takeSign 11 = .ok (.aload_n 0, 1) := by decide +kernel
theorem dX_takeSign_12 : decode cX_takeSign 12 = .ok (.getfield 48, 3) := by decide +kernel
theorem dX_takeSign_15 : decode cX_takeSign 15 = .ok (.isub, 1) := by decide +kernel
theorem dX_takeSign_16 : decode cX_takeSign 16 = .ok (.if_icmp .gt 28, 3) := by decide +kernel
theorem dX_takeSign_19 : decode cX_takeSign 19 = .ok (.ldc 137, 2) := by decide +kernel
theorem dX_takeSign_21 : decode cX_takeSign 21 = .ok (.aload_n 0, 1) := by decide +kernel
theorem dX_takeSign_22 : decode cX_takeSign 22 = .ok (.getfield 9, 3) := by decide +kernel
theorem dX_takeSign_25 : decode cX_takeSign 25 = .ok (.aload_n 0, 1) := by decide +kernel
theorem dX_takeSign_26 : decode cX_takeSign 26 = .ok (.getfield 48, 3) := by decide +kernel
theorem dX_takeSign_29 : decode cX_takeSign 29 = .ok (.iload_n 1, 1) := by decide +kernel
theorem dX_takeSign_30 : decode cX_takeSign 30 = .ok (.invokestatic 73, 3) := by decide +kernel
theorem dX_takeSign_33 : decode cX_takeSign 33 = .ok (.iconst (-1), 1) := by decide +kernel
theorem dX_takeSign_34 : decode cX_takeSign 34 = .ok (.if_icmp .eq 10, 3) := by decide +kernel
theorem dX_takeSign_37 : decode cX_takeSign 37 = .ok (.aload_n 0, 1) := by decide +kernel
theorem dX_takeSign_38 : decode cX_takeSign 38 = .ok (.iload_n 1, 1) := by decide +kernel
theorem dX_takeSign_39 : decode cX_takeSign 39 = .ok (.invokevirtual 134, 3) := by decide +kernel
theorem dX_takeSign_42 : decode cX_takeSign 42 = .ok (.iconst 3, 1) := by decide +kernel
theorem dX_takeSign_43 : decode cX_takeSign 43 = .ok (.ireturn, 1) := by decide +kernel
theorem dX_takeSign_44 : decode cX_takeSign 44 = .ok (.iinc 1 (-1), 3) := by decide +kernel
theorem dX_takeSign_47 : decode cX_takeSign 47 = .ok (.goto (-45), 3) := by decide +kernel
theorem dX_takeSign_50 : decode cX_takeSign 50 = .ok (.bipush 6, 2) := by decide +kernel
theorem dX_takeSign_52 : decode cX_takeSign 52 = .ok (.ireturn, 1) := by decide +kernel
theorem dX_isSemicolonDue_0 : decode cX_isSemicolonDue 0 = .ok (.aload_n 0, 1) := by decide +kernel
theorem dX_isSemicolonDue_1 : decode cX_isSemicolonDue 1 = .ok (.getfield 42, 3) := by decide +kernel
theorem dX_isSemicolonDue_4 : decode cX_isSemicolonDue 4 = .ok (.iconst 1, 1) := by decide +kernel
theorem dX_isSemicolonDue_5 : decode cX_isSemicolonDue 5 = .ok (.isub, 1) := by decide +kernel
theorem dX_isSemicolonDue_6 : decode cX_isSemicolonDue 6 = .ok (.istore 4, 2) := by decide +kernel
theorem dX_isSemicolonDue_8 : decode cX_isSemicolonDue 8 = .ok (.aload_n 0, 1) := by decide +kernel
theorem dX_isSemicolonDue_9 : decode cX_isSemicolonDue 9 = .ok (.iload 4, 2) := by decide +kernel
theorem dX_isSemicolonDue_11 : decode cX_isSemicolonDue 11 = .ok (.invokevirtual 61, 3) := by decide +kernel
theorem dX_isSemicolonDue_14 : decode cX_isSemicolonDue 14 = .ok (.ifCond .eq 59, 3) := by decide +kernel
theorem dX_isSemicolonDue_17 : decode cX_isSemicolonDue 17 = .ok (.aload_n 0, 1) := by decide +kernel
theorem dX_isSemicolonDue_18 : decode cX_isSemicolonDue 18 = .ok (.getfield 19, 3) := by decide +kernel
theorem dX_isSemicolonDue_21 : decode cX_isSemicolonDue 21 = .ok (.iload 4, 2) := by decide +kernel
theorem dX_isSemicolonDue_23 : decode cX_isSemicolonDue 23 = .ok (.iaload, 1) := by decide +kernel
theorem dX_isSemicolonDue_24 : decode cX_isSemicolonDue 24 = .ok (.aload_n 0, 1) := by decide +kernel
theorem dX_isSemicolonDue_25 : decode cX_isSemicolonDue 25 = .ok (.getfield 51, 3) := by decide +kernel
theorem dX_isSemicolonDue_28 : decode cX_isSemicolonDue 28 = .ok (.if_icmp .ge 45, 3) := by decide +kernel
theorem dX_isSemicolonDue_31 : decode cX_isSemicolonDue 31 = .ok (.aload_n 0, 1) := by decide +kernel
theorem dX_isSemicolonDue_32 : decode cX_isSemicolonDue 32 = .ok (.aload_n 0, 1) := by decide +kernel
theorem dX_isSemicolonDue_33 : decode cX_isSemicolonDue 33 = .ok (.getfield 13, 3) := by decide +kernel
theorem dX_isSemicolonDue_36 : decode cX_isSemicolonDue 36 = .ok (.iload 4, 2) := by decide +kernel
theorem dX_isSemicolonDue_38 : decode cX_isSemicolonDue 38 = .ok (.iaload, 1) := by decide +kernel
theorem dX_isSemicolonDue_39 : decode cX_isSemicolonDue 39 = .ok (.aload_n 0, 1) := by decide +kernel
theorem dX_isSemicolonDue_40 : decode cX_isSemicolonDue 40 = .ok (.getfield 25, 3) := by decide +kernel
theorem dX_isSemicolonDue_43 : decode cX_isSemicolonDue 43 = .ok (.iload 4, 2) := by decide +kernel
theorem dX_isSemicolonDue_45 : decode cX_isSemicolonDue 45 = .ok (.iaload, 1) := by decide +kernel
theorem dX_isSemicolonDue_46 : decode cX_isSemicolonDue 46 = .ok (.aload_n 0, 1) := by decide +kernel
theorem dX_isSemicolonDue_47 : decode cX_isSemicolonDue 47 = .ok (.getfield 28, 3) := by decide +kernel
theorem dX_isSemicolonDue_50 : decode cX_isSemicolonDue 50 = .ok (.iload 4, 2) := by decide +kernel
theorem dX_isSemicolonDue_52 : decode cX_isSemicolonDue 52 = .ok (.iaload, 1) := by decide +kernel
theorem dX_isSemicolonDue_53 : decode cX_isSemicolonDue 53 = .ok (.invokevirtual 174, 3) := by decide +kernel
theorem dX_isSemicolonDue_56 : decode cX_isSemicolonDue 56 = .ok (.ifCond .eq 17, 3) := by decide +kernel
theorem dX_isSemicolonDue_59 : decode cX_isSemicolonDue 59 = .ok (.aload_n 0, 1) := by decide +kernel
theorem dX_isSemicolonDue_60 : decode cX_isSemicolonDue 60 = .ok (.iload_n 1, 1) := by decide +kernel
theorem dX_isSemicolonDue_61 : decode cX_isSemicolonDue 61 = .ok (.iload_n 2, 1) := by decide +kernel
theorem dX_isSemicolonDue_62 : decode cX_isSemicolonDue 62 = .ok (.iload_n 3, 1) := by decide +kernel
theorem dX_isSemicolonDue_63 : decode cX_isSemicolonDue 63 = .ok (.invokevirtual 177, 3) := by decide +kernel
theorem dX_isSemicolonDue_66 : decode cX_isSemicolonDue 66 = .ok (.ifCond .eq 7, 3) := by decide +kernel
theorem dX_isSemicolonDue_69 : decode cX_isSemicolonDue 69 = .ok (.iconst 1, 1) := by decide +kernel
theorem dX_isSemicolonDue_70 : decode cX_isSemicolonDue 70 = .ok (.goto 4, 3) := by decide +kernel
theorem dX_isSemicolonDue_73 : decode cX_isSemicolonDue 73 = .ok (.iconst 0, 1) := by decide +kernel
theorem dX_isSemicolonDue_74 : decode cX_isSemicolonDue 74 = .ok (.ireturn, 1) := by decide +kernel
theorem dX_isToken_0 : decode cX_isToken 0 = .ok (.iload_n 1, 1) := by decide +kernel
theorem dX_isToken_1 : decode cX_isToken 1 = .ok (.ifCond .lt 22, 3) := by decide +kernel
theorem dX_isToken_4 : decode cX_isToken 4 = .ok (.iload_n 1, 1) := by decide +kernel
theorem dX_isToken_5 : decode cX_isToken 5 = .ok (.aload_n 0, 1) := by decide +kernel
theorem dX_isToken_6 : decode cX_isToken 6 = .ok (.getfield 42, 3) := by decide +kernel
theorem dX_isToken_9 : decode cX_isToken 9 = .ok (.if_icmp .ge 14, 3) := by decide +kernel
theorem dX_isToken_12 : decode cX_isToken 12 = .ok (.iload_n 1, 1) := by decide +kernel
theorem dX_isToken_13 : decode cX_isToken 13 = .ok (.sipush 1001, 3) := by decide +kernel
theorem dX_isToken_16 : decode cX_isToken 16 = .ok (.if_icmp .ge 7, 3) := by decide +kernel
theorem dX_isToken_19 : decode cX_isToken 19 = .ok (.iconst 1, 1) := by decide +kernel
theorem dX_isToken_20 : decode cX_isToken 20 = .ok (.goto 4, 3) := by decide +kernel
theorem dX_isToken_23 : decode cX_isToken 23 = .ok (.iconst 0, 1) := by decide +kernel
theorem dX_isToken_24 : decode cX_isToken 24 = .ok (.ireturn, 1) := by decide +kernel
theorem dX_mayEndStatement_0 : decode cX_mayEndStatement 0 = .ok (.iload_n 1, 1) := by decide +kernel
theorem dX_mayEndStatement_1 : decode cX_mayEndStatement 1 = .ok (.invokestatic 65, 3) := by decide +kernel
theorem dX_mayEndStatement_4 : decode cX_mayEndStatement 4 = .ok (.ifCond .ne 8, 3) := by decide +kernel
theorem dX_mayEndStatement_7 : decode cX_mayEndStatement 7 = .ok (.iload_n 1, 1) := by decide +kernel
theorem dX_mayEndStatement_8 : decode cX_mayEndStatement 8 = .ok (.invokestatic 180, 3) := by decide +kernel
theorem dX_mayEndStatement_11 : decode cX_mayEndStatement 11 = .ok (.ireturn, 1) := by decide +kernel
theorem dX_mayEndStatement_12 : decode cX_mayEndStatement 12 = .ok (.ldc 183, 2) := by decide +kernel
theorem dX_mayEndStatement_14 : decode cX_mayEndStatement 14 = .ok (.aload_n 0, 1) := by decide +kernel
theorem dX_mayEndStatement_15 : decode cX_mayEndStatement 15 = .ok (.getfield 31, 3) := by decide +kernel
theorem dX_mayEndStatement_18 : decode cX_mayEndStatement 18 = .ok (.iload_n 2, 1) := by decide +kernel
theorem dX_mayEndStatement_19 : decode cX_mayEndStatement 19 = .ok (.iload_n 3, 1) := by decide +kernel
theorem dX_mayEndStatement_20 : decode cX_mayEndStatement 20 = .ok (.invokestatic 73, 3) := by decide +kernel
theorem dX_mayEndStatement_23 : decode cX_mayEndStatement 23 = .ok (.iconst (-1), 1) := by decide +kernel
theorem dX_mayEndStatement_24 : decode cX_mayEndStatement 24 = .ok (.if_icmp .ne 18, 3) := by decide +kernel
theorem dX_mayEndStatement_27 : decode cX_mayEndStatement 27 = .ok (.ldc 159, 2) := by decide +kernel
theorem dX_mayEndStatement_29 : decode cX_mayEndStatement 29 = .ok (.aload_n 0, 1) := by decide +kernel
theorem dX_mayEndStatement_30 : decode cX_mayEndStatement 30 = .ok (.getfield 31, 3) := by decide +kernel
theorem dX_mayEndStatement_33 : decode cX_mayEndStatement 33 = .ok (.iload_n 2, 1) := by decide +kernel
theorem dX_mayEndStatement_34 : decode cX_mayEndStatement 34 = .ok (.iload_n 3, 1) := by decide +kernel
theorem dX_mayEndStatement_35 : decode cX_mayEndStatement 35 = .ok (.invokestatic 73, 3) := by decide +kernel
theorem dX_mayEndStatement_38 : decode cX_mayEndStatement 38 = .ok (.iconst (-1), 1) := by decide +kernel
theorem dX_mayEndStatement_39 : decode cX_mayEndStatement 39 = .ok (.if_icmp .eq 7, 3) := by decide +kernel
theorem dX_mayEndStatement_42 : decode cX_mayEndStatement 42 = .ok (.iconst 1, 1) := by decide +kernel
theorem dX_mayEndStatement_43 : decode cX_mayEndStatement 43 = .ok (.goto 4, 3) := by decide +kernel
theorem dX_mayEndStatement_46 : decode cX_mayEndStatement 46 = .ok (.iconst 0, 1) := by decide +kernel
theorem dX_mayEndStatement_47 : decode cX_mayEndStatement 47 = .ok (.ireturn, 1) := by decide +kernel
theorem dX_isSignOrKeyword_0 : decode cX_isSignOrKeyword 0 = .ok (.iload_n 0, 1) := by decide +kernel
theorem dX_isSignOrKeyword_1 : decode cX_isSignOrKeyword 1 = .ok (.iconst 3, 1) := by decide +kernel
theorem dX_isSignOrKeyword_2 : decode cX_isSignOrKeyword 2 = .ok (.if_icmp .eq 8, 3) := by decide +kernel
theorem dX_isSignOrKeyword_5 : decode cX_isSignOrKeyword 5 = .ok (.iload_n 0, 1) := by decide +kernel
theorem dX_isSignOrKeyword_6 : decode cX_isSignOrKeyword 6 = .ok (.iconst 4, 1) := by decide +kernel
theorem dX_isSignOrKeyword_7 : decode cX_isSignOrKeyword 7 = .ok (.if_icmp .ne 7, 3) := by decide +kernel
theorem dX_isSignOrKeyword_10 : decode cX_isSignOrKeyword 10 = .ok (.iconst 1, 1) := by decide +kernel
theorem dX_isSignOrKeyword_11 : decode cX_isSignOrKeyword 11 = .ok (.goto 4, 3) := by decide +kernel
theorem dX_isSignOrKeyword_14 : decode cX_isSignOrKeyword 14 = .ok (.iconst 0, 1) := by decide +kernel
theorem dX_isSignOrKeyword_15 : decode cX_isSignOrKeyword 15 = .ok (.ireturn, 1) := by decide +kernel
theorem dX_isOperand_0 : decode cX_isOperand 0 = .ok (.iload_n 0, 1) := by decide +kernel
theorem dX_isOperand_1 : decode cX_isOperand 1 = .ok (.ifCond .eq 13, 3) := by decide +kernel
theorem dX_isOperand_4 : decode cX_isOperand 4 = .ok (.iload_n 0, 1) := by decide +kernel
theorem dX_isOperand_5 : decode cX_isOperand 5 = .ok (.iconst 1, 1) := by decide +kernel
theorem dX_isOperand_6 : decode cX_isOperand 6 = .ok (.if_icmp .eq 8, 3) := by decide +kernel
theorem dX_isOperand_9 : decode cX_isOperand 9 = .ok (.iload_n 0, 1) := by decide +kernel
theorem dX_isOperand_10 : decode cX_isOperand 10 = .ok (.iconst 2, 1) := by decide +kernel
theorem dX_isOperand_11 : decode cX_isOperand 11 = .ok (.if_icmp .ne 7, 3) := by decide +kernel
theorem dX_isOperand_14 : decode cX_isOperand 14 = .ok (.iconst 1, 1) := by decide +kernel
theorem dX_isOperand_15 : decode cX_isOperand 15 = .ok (.goto 4, 3) := by decide +kernel
theorem dX_isOperand_18 : decode cX_isOperand 18 = .ok (.iconst 0, 1) := by decide +kernel
theorem dX_isOperand_19 : decode cX_isOperand 19 = .ok (.ireturn, 1) := by decide +kernel
theorem dX_mayBeginStatement_0 : decode cX_mayBeginStatement 0 = .ok (.iload_n 1, 1) := by decide +kernel
theorem dX_mayBeginStatement_1 : decode cX_mayBeginStatement 1 = .ok (.invokestatic 65, 3) := by decide +kernel
theorem dX_mayBeginStatement_4 : decode cX_mayBeginStatement 4 = .ok (.ifCond .ne 8, 3) := by decide +kernel
theorem dX_mayBeginStatement_7 : decode cX_mayBeginStatement 7 = .ok (.iload_n 1, 1) := by decide +kernel
theorem dX_mayBeginStatement_8 : decode cX_mayBeginStatement 8 = .ok (.invokestatic 180, 3) := by decide +kernel
theorem dX_mayBeginStatement_11 : decode cX_mayBeginStatement 11 = .ok (.ireturn, 1) := by decide +kernel
theorem dX_mayBeginStatement_12 : decode cX_mayBeginStatement 12 = .ok (.ldc 185, 2) := by decide +kernel
theorem dX_mayBeginStatement_14 : decode cX_mayBeginStatement 14 = .ok (.aload_n 0, 1) := by decide +kernel
theorem dX_mayBeginStatement_15 : decode cX_mayBeginStatement 15 = .ok (.getfield 31, 3) := by decide +kernel
theorem dX_mayBeginStatement_18 : decode cX_mayBeginStatement 18 = .ok (.iload_n 2, 1) := by decide +kernel
theorem dX_mayBeginStatement_19 : decode cX_mayBeginStatement 19 = .ok (.iload_n 3, 1) := by decide +kernel
theorem dX_mayBeginStatement_20 : decode cX_mayBeginStatement 20 = .ok (.invokestatic 73, 3) := by decide +kernel
theorem dX_mayBeginStatement_23 : decode cX_mayBeginStatement 23 = .ok (.iconst (-1), 1) := by decide +kernel
theorem dX_mayBeginStatement_24 : decode cX_mayBeginStatement 24 = .ok (.if_icmp .ne 33, 3) := by decide +kernel
theorem dX_mayBeginStatement_27 : decode cX_mayBeginStatement 27 = .ok (.ldc 159, 2) := by decide +kernel
theorem dX_mayBeginStatement_29 : decode cX_mayBeginStatement 29 = .ok (.aload_n 0, 1) := by decide +kernel
theorem dX_mayBeginStatement_30 : decode cX_mayBeginStatement 30 = .ok (.getfield 31, 3) := by decide +kernel
theorem dX_mayBeginStatement_33 : decode cX_mayBeginStatement 33 = .ok (.iload_n 2, 1) := by decide +kernel
theorem dX_mayBeginStatement_34 : decode cX_mayBeginStatement 34 = .ok (.iload_n 3, 1) := by decide +kernel
theorem dX_mayBeginStatement_35 : decode cX_mayBeginStatement 35 = .ok (.invokestatic 73, 3) := by decide +kernel
theorem dX_mayBeginStatement_38 : decode cX_mayBeginStatement 38 = .ok (.iconst (-1), 1) := by decide +kernel
theorem dX_mayBeginStatement_39 : decode cX_mayBeginStatement 39 = .ok (.if_icmp .ne 18, 3) := by decide +kernel
theorem dX_mayBeginStatement_42 : decode cX_mayBeginStatement 42 = .ok (.ldc 161, 2) := by decide +kernel
theorem dX_mayBeginStatement_44 : decode cX_mayBeginStatement 44 = .ok (.aload_n 0, 1) := by decide +kernel
theorem dX_mayBeginStatement_45 : decode cX_mayBeginStatement 45 = .ok (.getfield 31, 3) := by decide +kernel
theorem dX_mayBeginStatement_48 : decode cX_mayBeginStatement 48 = .ok (.iload_n 2, 1) := by decide +kernel
theorem dX_mayBeginStatement_49 : decode cX_mayBeginStatement 49 = .ok (.iload_n 3, 1) := by decide +kernel
theorem dX_mayBeginStatement_50 : decode cX_mayBeginStatement 50 = .ok (.invokestatic 73, 3) := by decide +kernel
theorem dX_mayBeginStatement_53 : decode cX_mayBeginStatement 53 = .ok (.iconst (-1), 1) := by decide +kernel
theorem dX_mayBeginStatement_54 : decode cX_mayBeginStatement 54 = .ok (.if_icmp .eq 7, 3) := by decide +kernel
theorem dX_mayBeginStatement_57 : decode cX_mayBeginStatement 57 = .ok (.iconst 1, 1) := by decide +kernel
theorem dX_mayBeginStatement_58 : decode cX_mayBeginStatement 58 = .ok (.goto 4, 3) := by decide +kernel
theorem dX_mayBeginStatement_61 : decode cX_mayBeginStatement 61 = .ok (.iconst 0, 1) := by decide +kernel
theorem dX_mayBeginStatement_62 : decode cX_mayBeginStatement 62 = .ok (.ireturn, 1) := by decide +kernel
theorem dX_addSemicolon_0 : decode cX_addSemicolon 0 = .ok (.aload_n 0, 1) := by decide +kernel
theorem dX_addSemicolon_1 : decode cX_addSemicolon 1 = .ok (.getfield 45, 3) := by decide +kernel
theorem dX_addSemicolon_4 : decode cX_addSemicolon 4 = .ok (.istore_n 2, 1) := by decide +kernel
theorem dX_addSemicolon_5 : decode cX_addSemicolon 5 = .ok (.aload_n 0, 1) := by decide +kernel
theorem dX_addSemicolon_6 : decode cX_addSemicolon 6 = .ok (.bipush 59, 2) := by decide +kernel
theorem dX_addSemicolon_8 : decode cX_addSemicolon 8 = .ok (.invokevirtual 153, 3) := by decide +kernel
theorem dX_addSemicolon_11 : decode cX_addSemicolon 11 = .ok (.aload_n 0, 1) := by decide +kernel
theorem dX_addSemicolon_12 : decode cX_addSemicolon 12 = .ok (.iconst 3, 1) := by decide +kernel
theorem dX_addSemicolon_13 : decode cX_addSemicolon 13 = .ok (.iload_n 1, 1) := by decide +kernel
theorem dX_addSemicolon_14 : decode cX_addSemicolon 14 = .ok (.iconst 0, 1) := by decide +kernel
theorem dX_addSemicolon_15 : decode cX_addSemicolon 15 = .ok (.iload_n 2, 1) := by decide +kernel
theorem dX_addSemicolon_16 : decode cX_addSemicolon 16 = .ok (.aload_n 0, 1) := by decide +kernel
theorem dX_addSemicolon_17 : decode cX_addSemicolon 17 = .ok (.getfield 45, 3) := by decide +kernel
theorem dX_addSemicolon_20 : decode cX_addSemicolon 20 = .ok (.iload_n 2, 1) := by decide +kernel
theorem dX_addSemicolon_21 : decode cX_addSemicolon 21 = .ok (.isub, 1) := by decide +kernel
theorem dX_addSemicolon_22 : decode cX_addSemicolon 22 = .ok (.invokevirtual 99, 3) := by decide +kernel
theorem dX_addSemicolon_25 : decode cX_addSemicolon 25 = .ok (.return_, 1) := by decide +kernel
theorem dX_addToken_0 : decode cX_addToken 0 = .ok (.aload_n 0, 1) := by decide +kernel
theorem dX_addToken_1 : decode cX_addToken 1 = .ok (.getfield 42, 3) := by decide +kernel
theorem dX_addToken_4 : decode cX_addToken 4 = .ok (.ifCond .lt 13, 3) := by decide +kernel
theorem dX_addToken_7 : decode cX_addToken 7 = .ok (.aload_n 0, 1) := by decide +kernel
theorem dX_addToken_8 : decode cX_addToken 8 = .ok (.getfield 42, 3) := by decide +kernel
theorem dX_addToken_11 : decode cX_addToken 11 = .ok (.sipush 1001, 3) := by decide +kernel
theorem dX_addToken_14 : decode cX_addToken 14 = .ok (.if_icmp .lt 4, 3) := by decide +kernel
theorem dX_addToken_17 : decode cX_addToken 17 = .ok (.return_, 1) := by decide +kernel
theorem dX_addToken_18 : decode cX_addToken 18 = .ok (.aload_n 0, 1) := by decide +kernel
theorem dX_addToken_19 : decode cX_addToken 19 = .ok (.getfield 13, 3) := by decide +kernel
theorem dX_addToken_22 : decode cX_addToken 22 = .ok (.aload_n 0, 1) := by decide +kernel
theorem dX_addToken_23 : decode cX_addToken 23 = .ok (.getfield 42, 3) := by decide +kernel
theorem dX_addToken_26 : decode cX_addToken 26 = .ok (.iload_n 1, 1) := by decide +kernel
theorem dX_addToken_27 : decode cX_addToken 27 = .ok (.iastore, 1) := by decide +kernel
theorem dX_addToken_28 : decode cX_addToken 28 = .ok (.aload_n 0, 1) := by decide +kernel
theorem dX_addToken_29 : decode cX_addToken 29 = .ok (.getfield 16, 3) := by decide +kernel
theorem dX_addToken_32 : decode cX_addToken 32 = .ok (.aload_n 0, 1) := by decide +kernel
theorem dX_addToken_33 : decode cX_addToken 33 = .ok (.getfield 42, 3) := by decide +kernel
theorem dX_addToken_36 : decode cX_addToken 36 = .ok (.iload_n 2, 1) := by decide +kernel
theorem dX_addToken_37 : decode cX_addToken 37 = .ok (.iastore, 1) := by decide +kernel
theorem dX_addToken_38 : decode cX_addToken 38 = .ok (.aload_n 0, 1) := by decide +kernel
theorem dX_addToken_39 : decode cX_addToken 39 = .ok (.getfield 19, 3) := by decide +kernel
theorem dX_addToken_42 : decode cX_addToken 42 = .ok (.aload_n 0, 1) := by decide +kernel
theorem dX_addToken_43 : decode cX_addToken 43 = .ok (.getfield 42, 3) := by decide +kernel
theorem dX_addToken_46 : decode cX_addToken 46 = .ok (.aload_n 0, 1) := by decide +kernel
theorem dX_addToken_47 : decode cX_addToken 47 = .ok (.getfield 51, 3) := by decide +kernel
theorem dX_addToken_50 : decode cX_addToken 50 = .ok (.iastore, 1) := by decide +kernel
theorem dX_addToken_51 : decode cX_addToken 51 = .ok (.aload_n 0, 1) := by decide +kernel
theorem dX_addToken_52 : decode cX_addToken 52 = .ok (.getfield 22, 3) := by decide +kernel
theorem dX_addToken_55 : decode cX_addToken 55 = .ok (.aload_n 0, 1) := by decide +kernel
theorem dX_addToken_56 : decode cX_addToken 56 = .ok (.getfield 42, 3) := by decide +kernel
theorem dX_addToken_59 : decode cX_addToken 59 = .ok (.iload_n 3, 1) := by decide +kernel
theorem dX_addToken_60 : decode cX_addToken 60 = .ok (.iastore, 1) := by decide +kernel
theorem dX_addToken_61 : decode cX_addToken 61 = .ok (.aload_n 0, 1) := by decide +kernel
theorem dX_addToken_62 : decode cX_addToken 62 = .ok (.getfield 25, 3) := by decide +kernel
theorem dX_addToken_65 : decode cX_addToken 65 = .ok (.aload_n 0, 1) := by decide +kernel
theorem dX_addToken_66 : decode cX_addToken 66 = .ok (.getfield 42, 3) := by decide +kernel
theorem dX_addToken_69 : decode cX_addToken 69 = .ok (.iload 4, 2) := by decide +kernel
theorem dX_addToken_71 : decode cX_addToken 71 = .ok (.iastore, 1) := by decide +kernel
theorem dX_addToken_72 : decode cX_addToken 72 = .ok (.aload_n 0, 1) := by decide +kernel
theorem dX_addToken_73 : decode cX_addToken 73 = .ok (.getfield 28, 3) := by decide +kernel
theorem dX_addToken_76 : decode cX_addToken 76 = .ok (.aload_n 0, 1) := by decide +kernel
theorem dX_addToken_77 : decode cX_addToken 77 = .ok (.getfield 42, 3) := by decide +kernel
theorem dX_addToken_80 : decode cX_addToken 80 = .ok (.iload 5, 2) := by decide +kernel
theorem dX_addToken_82 : decode cX_addToken 82 = .ok (.iastore, 1) := by decide +kernel
theorem dX_addToken_83 : decode cX_addToken 83 = .ok (.aload_n 0, 1) := by decide +kernel
theorem dX_addToken_84 : decode cX_addToken 84 = .ok (.dup, 1) := by decide +kernel
theorem dX_addToken_85 : decode cX_addToken 85 = .ok (.getfield 42, 3) := by decide +kernel
theorem dX_addToken_88 : decode cX_addToken 88 = .ok (.iconst 1, 1) := by decide +kernel
theorem dX_addToken_89 : decode cX_addToken 89 = .ok (.iadd, 1) := by decide +kernel
theorem dX_addToken_90 : decode cX_addToken 90 = .ok (.putfield 42, 3) := by decide +kernel
theorem dX_addToken_93 : decode cX_addToken 93 = .ok (.return_, 1) := by decide +kernel
theorem dX_kind_0 : decode cX_kind 0 = .ok (.aload_n 0, 1) := by decide +kernel
theorem dX_kind_1 : decode cX_kind 1 = .ok (.iload_n 1, 1) := by decide +kernel
theorem dX_kind_2 : decode cX_kind 2 = .ok (.invokevirtual 61, 3) := by decide +kernel
theorem dX_kind_5 : decode cX_kind 5 = .ok (.ifCond .eq 12, 3) := by decide +kernel
theorem dX_kind_8 : decode cX_kind 8 = .ok (.aload_n 0, 1) := by decide +kernel
theorem dX_kind_9 : decode cX_kind 9 = .ok (.getfield 13, 3) := by decide +kernel
theorem dX_kind_12 : decode cX_kind 12 = .ok (.iload_n 1, 1) := by decide +kernel
theorem dX_kind_13 : decode cX_kind 13 = .ok (.iaload, 1) := by decide +kernel
theorem dX_kind_14 : decode cX_kind 14 = .ok (.goto 4, 3) := by decide +kernel
theorem dX_kind_17 : decode cX_kind 17 = .ok (.iconst (-1), 1) := by decide +kernel
theorem dX_kind_18 : decode cX_kind 18 = .ok (.ireturn, 1) := by decide +kernel
theorem dX_place_0 : decode cX_place 0 = .ok (.aload_n 0, 1) := by decide +kernel
theorem dX_place_1 : decode cX_place 1 = .ok (.iload_n 1, 1) := by decide +kernel
theorem dX_place_2 : decode cX_place 2 = .ok (.invokevirtual 61, 3) := by decide +kernel
theorem dX_place_5 : decode cX_place 5 = .ok (.ifCond .eq 12, 3) := by decide +kernel
theorem dX_place_8 : decode cX_place 8 = .ok (.aload_n 0, 1) := by decide +kernel
theorem dX_place_9 : decode cX_place 9 = .ok (.getfield 16, 3) := by decide +kernel
theorem dX_place_12 : decode cX_place 12 = .ok (.iload_n 1, 1) := by decide +kernel
theorem dX_place_13 : decode cX_place 13 = .ok (.iaload, 1) := by decide +kernel
theorem dX_place_14 : decode cX_place 14 = .ok (.goto 4, 3) := by decide +kernel
theorem dX_place_17 : decode cX_place 17 = .ok (.iconst (-1), 1) := by decide +kernel
theorem dX_place_18 : decode cX_place 18 = .ok (.ireturn, 1) := by decide +kernel
theorem dX_line_0 : decode cX_line 0 = .ok (.aload_n 0, 1) := by decide +kernel
theorem dX_line_1 : decode cX_line 1 = .ok (.iload_n 1, 1) := by decide +kernel
theorem dX_line_2 : decode cX_line 2 = .ok (.invokevirtual 61, 3) := by decide +kernel
theorem dX_line_5 : decode cX_line 5 = .ok (.ifCond .eq 12, 3) := by decide +kernel
theorem dX_line_8 : decode cX_line 8 = .ok (.aload_n 0, 1) := by decide +kernel
theorem dX_line_9 : decode cX_line 9 = .ok (.getfield 19, 3) := by decide +kernel
theorem dX_line_12 : decode cX_line 12 = .ok (.iload_n 1, 1) := by decide +kernel
theorem dX_line_13 : decode cX_line 13 = .ok (.iaload, 1) := by decide +kernel
theorem dX_line_14 : decode cX_line 14 = .ok (.goto 4, 3) := by decide +kernel
theorem dX_line_17 : decode cX_line 17 = .ok (.iconst (-1), 1) := by decide +kernel
theorem dX_line_18 : decode cX_line 18 = .ok (.ireturn, 1) := by decide +kernel
theorem dX_value_0 : decode cX_value 0 = .ok (.aload_n 0, 1) := by decide +kernel
theorem dX_value_1 : decode cX_value 1 = .ok (.iload_n 1, 1) := by decide +kernel
theorem dX_value_2 : decode cX_value 2 = .ok (.invokevirtual 61, 3) := by decide +kernel
theorem dX_value_5 : decode cX_value 5 = .ok (.ifCond .eq 12, 3) := by decide +kernel
theorem dX_value_8 : decode cX_value 8 = .ok (.aload_n 0, 1) := by decide +kernel
theorem dX_value_9 : decode cX_value 9 = .ok (.getfield 22, 3) := by decide +kernel
theorem dX_value_12 : decode cX_value 12 = .ok (.iload_n 1, 1) := by decide +kernel
theorem dX_value_13 : decode cX_value 13 = .ok (.iaload, 1) := by decide +kernel
theorem dX_value_14 : decode cX_value 14 = .ok (.goto 4, 3) := by decide +kernel
theorem dX_value_17 : decode cX_value 17 = .ok (.iconst 0, 1) := by decide +kernel
theorem dX_value_18 : decode cX_value 18 = .ok (.ireturn, 1) := by decide +kernel
theorem dX_level_0 : decode cX_level 0 = .ok (.aload_n 0, 1) := by decide +kernel
theorem dX_level_1 : decode cX_level 1 = .ok (.iload_n 1, 1) := by decide +kernel
theorem dX_level_2 : decode cX_level 2 = .ok (.invokevirtual 61, 3) := by decide +kernel
theorem dX_level_5 : decode cX_level 5 = .ok (.ifCond .eq 15, 3) := by decide +kernel
theorem dX_level_8 : decode cX_level 8 = .ok (.aload_n 0, 1) := by decide +kernel
theorem dX_level_9 : decode cX_level 9 = .ok (.getfield 13, 3) := by decide +kernel
theorem dX_level_12 : decode cX_level 12 = .ok (.iload_n 1, 1) := by decide +kernel
theorem dX_level_13 : decode cX_level 13 = .ok (.iaload, 1) := by decide +kernel
theorem dX_level_14 : decode cX_level 14 = .ok (.invokestatic 65, 3) := by decide +kernel
theorem dX_level_17 : decode cX_level 17 = .ok (.ifCond .ne 5, 3) := by decide +kernel
theorem dX_level_20 : decode cX_level 20 = .ok (.iconst (-1), 1) := by decide +kernel
theorem dX_level_21 : decode cX_level 21 = .ok (.ireturn, 1) := by decide +kernel
theorem dX_level_22 : decode cX_level 22 = .ok (.getstatic 68, 3) := by decide +kernel
theorem dX_level_25 : decode cX_level 25 = .ok (.ldc 71, 2) := by decide +kernel
theorem dX_level_27 : decode cX_level 27 = .ok (.aload_n 0, 1) := by decide +kernel
theorem dX_level_28 : decode cX_level 28 = .ok (.getfield 31, 3) := by decide +kernel
theorem dX_level_31 : decode cX_level 31 = .ok (.aload_n 0, 1) := by decide +kernel
theorem dX_level_32 : decode cX_level 32 = .ok (.getfield 25, 3) := by decide +kernel
theorem dX_level_35 : decode cX_level 35 = .ok (.iload_n 1, 1) := by decide +kernel
theorem dX_level_36 : decode cX_level 36 = .ok (.iaload, 1) := by decide +kernel
theorem dX_level_37 : decode cX_level 37 = .ok (.aload_n 0, 1) := by decide +kernel
theorem dX_level_38 : decode cX_level 38 = .ok (.getfield 28, 3) := by decide +kernel
theorem dX_level_41 : decode cX_level 41 = .ok (.iload_n 1, 1) := by decide +kernel
theorem dX_level_42 : decode cX_level 42 = .ok (.iaload, 1) := by decide +kernel
theorem dX_level_43 : decode cX_level 43 = .ok (.invokestatic 73, 3) := by decide +kernel
theorem dX_level_46 : decode cX_level 46 = .ok (.invokestatic 77, 3) := by decide +kernel
theorem dX_level_49 : decode cX_level 49 = .ok (.ireturn, 1) := by decide +kernel
theorem dX_size_0 : decode cX_size 0 = .ok (.aload_n 0, 1) := by decide +kernel
theorem dX_size_1 : decode cX_size 1 = .ok (.iload_n 1, 1) := by decide +kernel
theorem dX_size_2 : decode cX_size 2 = .ok (.invokevirtual 61, 3) := by decide +kernel
theorem dX_size_5 : decode cX_size 5 = .ok (.ifCond .eq 12, 3) := by decide +kernel
theorem dX_size_8 : decode cX_size 8 = .ok (.aload_n 0, 1) := by decide +kernel
theorem dX_size_9 : decode cX_size 9 = .ok (.getfield 28, 3) := by decide +kernel
theorem dX_size_12 : decode cX_size 12 = .ok (.iload_n 1, 1) := by decide +kernel
theorem dX_size_13 : decode cX_size 13 = .ok (.iaload, 1) := by decide +kernel
theorem dX_size_14 : decode cX_size 14 = .ok (.goto 4, 3) := by decide +kernel
theorem dX_size_17 : decode cX_size 17 = .ok (.iconst (-1), 1) := by decide +kernel
theorem dX_size_18 : decode cX_size 18 = .ok (.ireturn, 1) := by decide +kernel
theorem dX_textAt_0 : decode cX_textAt 0 = .ok (.aload_n 0, 1) := by decide +kernel
theorem dX_textAt_1 : decode cX_textAt 1 = .ok (.iload_n 1, 1) := by decide +kernel
theorem dX_textAt_2 : decode cX_textAt 2 = .ok (.invokevirtual 61, 3) := by decide +kernel
theorem dX_textAt_5 : decode cX_textAt 5 = .ok (.ifCond .eq 17, 3) := by decide +kernel
theorem dX_textAt_8 : decode cX_textAt 8 = .ok (.iload_n 2, 1) := by decide +kernel
theorem dX_textAt_9 : decode cX_textAt 9 = .ok (.ifCond .lt 13, 3) := by decide +kernel
theorem dX_textAt_12 : decode cX_textAt 12 = .ok (.iload_n 2, 1) := by decide +kernel
theorem dX_textAt_13 : decode cX_textAt 13 = .ok (.aload_n 0, 1) := by decide +kernel
theorem dX_textAt_14 : decode cX_textAt 14 = .ok (.getfield 28, 3) := by decide +kernel
theorem dX_textAt_17 : decode cX_textAt 17 = .ok (.iload_n 1, 1) := by decide +kernel
theorem dX_textAt_18 : decode cX_textAt 18 = .ok (.iaload, 1) := by decide +kernel
theorem dX_textAt_19 : decode cX_textAt 19 = .ok (.if_icmp .lt 5, 3) := by decide +kernel
theorem dX_textAt_22 : decode cX_textAt 22 = .ok (.iconst (-1), 1) := by decide +kernel
theorem dX_textAt_23 : decode cX_textAt 23 = .ok (.ireturn, 1) := by decide +kernel
theorem dX_textAt_24 : decode cX_textAt 24 = .ok (.aload_n 0, 1) := by decide +kernel
theorem dX_textAt_25 : decode cX_textAt 25 = .ok (.getfield 31, 3) := by decide +kernel
theorem dX_textAt_28 : decode cX_textAt 28 = .ok (.aload_n 0, 1) := by decide +kernel
theorem dX_textAt_29 : decode cX_textAt 29 = .ok (.getfield 25, 3) := by decide +kernel
theorem dX_textAt_32 : decode cX_textAt 32 = .ok (.iload_n 1, 1) := by decide +kernel
theorem dX_textAt_33 : decode cX_textAt 33 = .ok (.iaload, 1) := by decide +kernel
theorem dX_textAt_34 : decode cX_textAt 34 = .ok (.iload_n 2, 1) := by decide +kernel
theorem dX_textAt_35 : decode cX_textAt 35 = .ok (.iadd, 1) := by decide +kernel
theorem dX_textAt_36 : decode cX_textAt 36 = .ok (.invokestatic 77, 3) := by decide +kernel
theorem dX_textAt_39 : decode cX_textAt 39 = .ok (.ireturn, 1) := by decide +kernel
