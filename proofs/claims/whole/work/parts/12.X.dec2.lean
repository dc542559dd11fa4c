theorem dX7_write_19 : decode cX7_write 19 = .ok (.aload_n 0, 1) := by decide +kernel
theorem dX7_write_20 : decode cX7_write 20 = .ok (.dup, 1) := by decide +kernel
theorem dX7_write_21 : decode cX7_write 21 = .ok (.getfield 21, 3) := by decide +kernel
theorem dX7_write_24 : decode cX7_write 24 = .ok (.iconst 1, 1) := by decide +kernel
theorem dX7_write_25 : decode cX7_write 25 = .ok (.iadd, 1) := by decide +kernel
theorem dX7_write_26 : decode cX7_write 26 = .ok (.putfield 21, 3) := by decide +kernel
theorem dX7_readCompared_0 : decode cX7_readCompared 0 = .ok (.aload_n 0, 1) := by decide +kernel
theorem dX7_readCompared_1 : decode cX7_readCompared 1 = .ok (.aload_n 1, 1) := by decide +kernel
theorem dX7_readCompared_2 : decode cX7_readCompared 2 = .ok (.iload_n 2, 1) := by decide +kernel
theorem dX7_readCompared_3 : decode cX7_readCompared 3 = .ok (.invokevirtual 44, 3) := by decide +kernel
theorem dX7_readCompared_6 : decode cX7_readCompared 6 = .ok (.ifCond .ne 5, 3) := by decide +kernel
theorem dX7_readCompared_11 : decode cX7_readCompared 11 = .ok (.aload_n 1, 1) := by decide +kernel
theorem dX7_readCompared_12 : decode cX7_readCompared 12 = .ok (.invokevirtual 47, 3) := by decide +kernel
theorem dX7_readCompared_15 : decode cX7_readCompared 15 = .ok (.istore_n 3, 1) := by decide +kernel
theorem dX7_readCompared_16 : decode cX7_readCompared 16 = .ok (.iload_n 3, 1) := by decide +kernel
theorem dX7_readCompared_17 : decode cX7_readCompared 17 = .ok (.bipush 60, 2) := by decide +kernel
theorem dX7_readCompared_36 : decode cX7_readCompared 36 = .ok (.aload_n 1, 1) := by decide +kernel
theorem dX7_readCompared_37 : decode cX7_readCompared 37 = .ok (.invokevirtual 51, 3) := by decide +kernel
theorem dX7_readCompared_40 : decode cX7_readCompared 40 = .ok (.aload_n 0, 1) := by decide +kernel
theorem dX7_readCompared_41 : decode cX7_readCompared 41 = .ok (.aload_n 1, 1) := by decide +kernel
theorem dX7_readCompared_42 : decode cX7_readCompared 42 = .ok (.iload_n 2, 1) := by decide +kernel
theorem dX7_readCompared_43 : decode cX7_readCompared 43 = .ok (.invokevirtual 44, 3) := by decide +kernel
theorem dX7_readCompared_46 : decode cX7_readCompared 46 = .ok (.istore 4, 2) := by decide +kernel
theorem dX7_readCompared_48 : decode cX7_readCompared 48 = .ok (.aload_n 0, 1) := by decide +kernel
theorem dX7_readCompared_49 : decode cX7_readCompared 49 = .ok (.sipush 2000, 3) := by decide +kernel
theorem dX7_readCompared_52 : decode cX7_readCompared 52 = .ok (.iload_n 3, 1) := by decide +kernel
theorem dX7_readCompared_53 : decode cX7_readCompared 53 = .ok (.iadd, 1) := by decide +kernel
theorem dX7_readCompared_54 : decode cX7_readCompared 54 = .ok (.invokevirtual 54, 3) := by decide +kernel
theorem dX7_readCompared_57 : decode cX7_readCompared 57 = .ok (.iload 4, 2) := by decide +kernel
theorem dX7_readCompared_59 : decode cX7_readCompared 59 = .ok (.ireturn, 1) := by decide +kernel
theorem dX7_readCompared_19 : decode cX7_readCompared 19 = .ok (.if_icmp .eq 17, 3) := by decide +kernel
theorem dX7_readCompared_22 : decode cX7_readCompared 22 = .ok (.iload_n 3, 1) := by decide +kernel
theorem dX7_readCompared_23 : decode cX7_readCompared 23 = .ok (.bipush 62, 2) := by decide +kernel
theorem dX7_readCompared_25 : decode cX7_readCompared 25 = .ok (.if_icmp .eq 11, 3) := by decide +kernel
theorem dX7_readCompared_28 : decode cX7_readCompared 28 = .ok (.iload_n 3, 1) := by decide +kernel
theorem dX7_readCompared_29 : decode cX7_readCompared 29 = .ok (.bipush 61, 2) := by decide +kernel
theorem dX7_readCompared_31 : decode cX7_readCompared 31 = .ok (.if_icmp .eq 5, 3) := by decide +kernel
theorem dX7_readCompared_34 : decode cX7_readCompared 34 = .ok (.iconst 1, 1) := by decide +kernel
theorem dX7_readCompared_35 : decode cX7_readCompared 35 = .ok (.ireturn, 1) := by decide +kernel
theorem dX7_readCompared_9 : decode cX7_readCompared 9 = .ok (.iconst 0, 1) := by decide +kernel
theorem dX7_readCompared_10 : decode cX7_readCompared 10 = .ok (.ireturn, 1) := by decide +kernel
theorem dX7_readSum_0 : decode cX7_readSum 0 = .ok (.aload_n 0, 1) := by decide +kernel
theorem dX7_readSum_1 : decode cX7_readSum 1 = .ok (.aload_n 1, 1) := by decide +kernel
theorem dX7_readSum_2 : decode cX7_readSum 2 = .ok (.iload_n 2, 1) := by decide +kernel
theorem dX7_readSum_3 : decode cX7_readSum 3 = .ok (.invokevirtual 58, 3) := by decide +kernel
theorem dX7_readSum_6 : decode cX7_readSum 6 = .ok (.istore_n 3, 1) := by decide +kernel
theorem dX7_readSum_7 : decode cX7_readSum 7 = .ok (.iconst 0, 1) := by decide +kernel
theorem dX7_readSum_8 : decode cX7_readSum 8 = .ok (.istore 4, 2) := by decide +kernel
theorem dX7_readSum_10 : decode cX7_readSum 10 = .ok (.iload_n 3, 1) := by decide +kernel
theorem dX7_readSum_11 : decode cX7_readSum 11 = .ok (.ifCond .eq 60, 3) := by decide +kernel
theorem dX7_readSum_71 : decode cX7_readSum 71 = .ok (.iload_n 3, 1) := by decide +kernel
theorem dX7_readSum_72 : decode cX7_readSum 72 = .ok (.ireturn, 1) := by decide +kernel
theorem dX7_readSum_14 : decode cX7_readSum 14 = .ok (.iload 4, 2) := by decide +kernel
theorem dX7_readSum_16 : decode cX7_readSum 16 = .ok (.bipush 40, 2) := by decide +kernel
theorem dX7_readSum_18 : decode cX7_readSum 18 = .ok (.if_icmp .ge 53, 3) := by decide +kernel
theorem dX7_readSum_21 : decode cX7_readSum 21 = .ok (.aload_n 1, 1) := by decide +kernel
theorem dX7_readSum_22 : decode cX7_readSum 22 = .ok (.invokevirtual 47, 3) := by decide +kernel
theorem dX7_readSum_25 : decode cX7_readSum 25 = .ok (.istore 5, 2) := by decide +kernel
theorem dX7_readSum_27 : decode cX7_readSum 27 = .ok (.iload 5, 2) := by decide +kernel
theorem dX7_readSum_29 : decode cX7_readSum 29 = .ok (.bipush 43, 2) := by decide +kernel
theorem dX7_readSum_44 : decode cX7_readSum 44 = .ok (.aload_n 1, 1) := by decide +kernel
theorem dX7_readSum_45 : decode cX7_readSum 45 = .ok (.invokevirtual 51, 3) := by decide +kernel
theorem dX7_readSum_48 : decode cX7_readSum 48 = .ok (.aload_n 0, 1) := by decide +kernel
theorem dX7_readSum_49 : decode cX7_readSum 49 = .ok (.aload_n 1, 1) := by decide +kernel
theorem dX7_readSum_50 : decode cX7_readSum 50 = .ok (.iload_n 2, 1) := by decide +kernel
theorem dX7_readSum_51 : decode cX7_readSum 51 = .ok (.invokevirtual 58, 3) := by decide +kernel
theorem dX7_readSum_54 : decode cX7_readSum 54 = .ok (.istore_n 3, 1) := by decide +kernel
theorem dX7_readSum_55 : decode cX7_readSum 55 = .ok (.aload_n 0, 1) := by decide +kernel
theorem dX7_readSum_56 : decode cX7_readSum 56 = .ok (.sipush 2000, 3) := by decide +kernel
theorem dX7_readSum_59 : decode cX7_readSum 59 = .ok (.iload 5, 2) := by decide +kernel
theorem dX7_readSum_61 : decode cX7_readSum 61 = .ok (.iadd, 1) := by decide +kernel
theorem dX7_readSum_62 : decode cX7_readSum 62 = .ok (.invokevirtual 54, 3) := by decide +kernel
theorem dX7_readSum_65 : decode cX7_readSum 65 = .ok (.iinc 4 1, 3) := by decide +kernel
theorem dX7_readSum_68 : decode cX7_readSum 68 = .ok (.goto (-58), 3) := by decide +kernel
theorem dX7_readSum_31 : decode cX7_readSum 31 = .ok (.if_icmp .eq 13, 3) := by decide +kernel
theorem dX7_readSum_34 : decode cX7_readSum 34 = .ok (.iload 5, 2) := by decide +kernel
theorem dX7_readSum_36 : decode cX7_readSum 36 = .ok (.bipush 45, 2) := by decide +kernel
theorem dX7_readSum_38 : decode cX7_readSum 38 = .ok (.if_icmp .eq 6, 3) := by decide +kernel
theorem dX7_readSum_41 : decode cX7_readSum 41 = .ok (.goto 30, 3) := by decide +kernel
theorem dX7_readProduct_0 : decode cX7_readProduct 0 = .ok (.aload_n 0, 1) := by decide +kernel
theorem dX7_readProduct_1 : decode cX7_readProduct 1 = .ok (.aload_n 1, 1) := by decide +kernel
theorem dX7_readProduct_2 : decode cX7_readProduct 2 = .ok (.iload_n 2, 1) := by decide +kernel
theorem dX7_readProduct_3 : decode cX7_readProduct 3 = .ok (.invokevirtual 61, 3) := by decide +kernel
theorem dX7_readProduct_6 : decode cX7_readProduct 6 = .ok (.istore_n 3, 1) := by decide +kernel
theorem dX7_readProduct_7 : decode cX7_readProduct 7 = .ok (.iconst 0, 1) := by decide +kernel
theorem dX7_readProduct_8 : decode cX7_readProduct 8 = .ok (.istore 4, 2) := by decide +kernel
theorem dX7_readProduct_10 : decode cX7_readProduct 10 = .ok (.iload_n 3, 1) := by decide +kernel
theorem dX7_readProduct_11 : decode cX7_readProduct 11 = .ok (.ifCond .eq 60, 3) := by decide +kernel
theorem dX7_readProduct_71 : decode cX7_readProduct 71 = .ok (.iload_n 3, 1) := by decide +kernel
theorem dX7_readProduct_72 : decode cX7_readProduct 72 = .ok (.ireturn, 1) := by decide +kernel
theorem dX7_readProduct_14 : decode cX7_readProduct 14 = .ok (.iload 4, 2) := by decide +kernel
theorem dX7_readProduct_16 : decode cX7_readProduct 16 = .ok (.bipush 40, 2) := by decide +kernel
theorem dX7_readProduct_18 : decode cX7_readProduct 18 = .ok (.if_icmp .ge 53, 3) := by decide +kernel
theorem dX7_readProduct_21 : decode cX7_readProduct 21 = .ok (.aload_n 1, 1) := by decide +kernel
theorem dX7_readProduct_22 : decode cX7_readProduct 22 = .ok (.invokevirtual 47, 3) := by decide +kernel
theorem dX7_readProduct_25 : decode cX7_readProduct 25 = .ok (.istore 5, 2) := by decide +kernel
theorem dX7_readProduct_27 : decode cX7_readProduct 27 = .ok (.iload 5, 2) := by decide +kernel
theorem dX7_readProduct_29 : decode cX7_readProduct 29 = .ok (.bipush 42, 2) := by decide +kernel
theorem dX7_readProduct_44 : decode cX7_readProduct 44 = .ok (.aload_n 1, 1) := by decide +kernel
theorem dX7_readProduct_45 : decode cX7_readProduct 45 = .ok (.invokevirtual 51, 3) := by decide +kernel
theorem dX7_readProduct_48 : decode cX7_readProduct 48 = .ok (.aload_n 0, 1) := by decide +kernel
theorem dX7_readProduct_49 : decode cX7_readProduct 49 = .ok (.aload_n 1, 1) := by decide +kernel
theorem dX7_readProduct_50 : decode cX7_readProduct 50 = .ok (.iload_n 2, 1) := by decide +kernel
theorem dX7_readProduct_51 : decode cX7_readProduct 51 = .ok (.invokevirtual 61, 3) := by decide +kernel
theorem dX7_readProduct_54 : decode cX7_readProduct 54 = .ok (.istore_n 3, 1) := by decide +kernel
theorem dX7_readProduct_55 : decode cX7_readProduct 55 = .ok (.aload_n 0, 1) := by decide +kernel
theorem dX7_readProduct_56 : decode cX7_readProduct 56 = .ok (.sipush 2000, 3) := by decide +kernel
theorem dX7_readProduct_59 : decode cX7_readProduct 59 = .ok (.iload 5, 2) := by decide +kernel
theorem dX7_readProduct_61 : decode cX7_readProduct 61 = .ok (.iadd, 1) := by decide +kernel
theorem dX7_readProduct_62 : decode cX7_readProduct 62 = .ok (.invokevirtual 54, 3) := by decide +kernel
theorem dX7_readProduct_65 : decode cX7_readProduct 65 = .ok (.iinc 4 1, 3) := by decide +kernel
theorem dX7_readProduct_68 : decode cX7_readProduct 68 = .ok (.goto (-58), 3) := by decide +kernel
theorem dX7_readProduct_31 : decode cX7_readProduct 31 = .ok (.if_icmp .eq 13, 3) := by decide +kernel
theorem dX7_readProduct_34 : decode cX7_readProduct 34 = .ok (.iload 5, 2) := by decide +kernel
theorem dX7_readProduct_36 : decode cX7_readProduct 36 = .ok (.bipush 47, 2) := by decide +kernel
theorem dX7_readProduct_38 : decode cX7_readProduct 38 = .ok (.if_icmp .eq 6, 3) := by decide +kernel
theorem dX7_readProduct_41 : decode cX7_readProduct 41 = .ok (.goto 30, 3) := by decide +kernel
theorem dX7_readSigned_0 : decode cX7_readSigned 0 = .ok (.iconst 0, 1) := by decide +kernel
theorem dX7_readSigned_1 : decode cX7_readSigned 1 = .ok (.istore_n 3, 1) := by decide +kernel
theorem dX7_readSigned_2 : decode cX7_readSigned 2 = .ok (.iconst 0, 1) := by decide +kernel
theorem dX7_readSigned_3 : decode cX7_readSigned 3 = .ok (.istore 4, 2) := by decide +kernel
theorem dX7_readSigned_5 : decode cX7_readSigned 5 = .ok (.iload 4, 2) := by decide +kernel
theorem dX7_readSigned_7 : decode cX7_readSigned 7 = .ok (.bipush 40, 2) := by decide +kernel
theorem dX7_readSigned_9 : decode cX7_readSigned 9 = .ok (.if_icmp .ge 21, 3) := by decide +kernel
theorem dX7_readSigned_12 : decode cX7_readSigned 12 = .ok (.aload_n 1, 1) := by decide +kernel
theorem dX7_readSigned_13 : decode cX7_readSigned 13 = .ok (.bipush 45, 2) := by decide +kernel
theorem dX7_readSigned_15 : decode cX7_readSigned 15 = .ok (.invokevirtual 64, 3) := by decide +kernel
theorem dX7_readSigned_18 : decode cX7_readSigned 18 = .ok (.ifCond .eq 12, 3) := by decide +kernel
theorem dX7_readSigned_21 : decode cX7_readSigned 21 = .ok (.iinc 3 1, 3) := by decide +kernel
theorem dX7_readSigned_24 : decode cX7_readSigned 24 = .ok (.iinc 4 1, 3) := by decide +kernel
theorem dX7_readSigned_27 : decode cX7_readSigned 27 = .ok (.goto (-22), 3) := by decide +kernel
theorem dX7_readSigned_30 : decode cX7_readSigned 30 = .ok (.aload_n 0, 1) := by decide +kernel
theorem dX7_readSigned_31 : decode cX7_readSigned 31 = .ok (.aload_n 1, 1) := by decide +kernel
theorem dX7_readSigned_32 : decode cX7_readSigned 32 = .ok (.iload_n 2, 1) := by decide +kernel
theorem dX7_readSigned_33 : decode cX7_readSigned 33 = .ok (.invokevirtual 68, 3) := by decide +kernel
theorem dX7_readSigned_36 : decode cX7_readSigned 36 = .ok (.istore 4, 2) := by decide +kernel
theorem dX7_readSigned_38 : decode cX7_readSigned 38 = .ok (.iload_n 3, 1) := by decide +kernel
theorem dX7_readSigned_39 : decode cX7_readSigned 39 = .ok (.iconst 2, 1) := by decide +kernel
theorem dX7_readSigned_40 : decode cX7_readSigned 40 = .ok (.irem, 1) := by decide +kernel
theorem dX7_readSigned_41 : decode cX7_readSigned 41 = .ok (.iconst 1, 1) := by decide +kernel
theorem dX7_readSigned_42 : decode cX7_readSigned 42 = .ok (.if_icmp .ne 10, 3) := by decide +kernel
theorem dX7_readSigned_52 : decode cX7_readSigned 52 = .ok (.iload 4, 2) := by decide +kernel
theorem dX7_readSigned_54 : decode cX7_readSigned 54 = .ok (.ireturn, 1) := by decide +kernel
theorem dX7_readSigned_45 : decode cX7_readSigned 45 = .ok (.aload_n 0, 1) := by decide +kernel
theorem dX7_readSigned_46 : decode cX7_readSigned 46 = .ok (.sipush 3000, 3) := by decide +kernel
theorem dX7_readSigned_49 : decode cX7_readSigned 49 = .ok (.invokevirtual 54, 3) := by decide +kernel
theorem dX7_readThing_0 : decode cX7_readThing 0 = .ok (.aload_n 1, 1) := by decide +kernel
theorem dX7_readThing_1 : decode cX7_readThing 1 = .ok (.invokevirtual 71, 3) := by decide +kernel
theorem dX7_readThing_4 : decode cX7_readThing 4 = .ok (.ifCond .eq 53, 3) := by decide +kernel
theorem dX7_readThing_57 : decode cX7_readThing 57 = .ok (.iload_n 2, 1) := by decide +kernel
theorem dX7_readThing_58 : decode cX7_readThing 58 = .ok (.iconst 4, 1) := by decide +kernel
theorem dX7_readThing_97 : decode cX7_readThing 97 = .ok (.iconst 0, 1) := by decide +kernel
theorem dX7_readThing_98 : decode cX7_readThing 98 = .ok (.istore_n 3, 1) := by decide +kernel
theorem dX7_readThing_99 : decode cX7_readThing 99 = .ok (.iload_n 3, 1) := by decide +kernel
theorem dX7_readThing_100 : decode cX7_readThing 100 = .ok (.bipush 8, 2) := by decide +kernel
theorem dX7_readThing_102 : decode cX7_readThing 102 = .ok (.if_icmp .ge 32, 3) := by decide +kernel
theorem dX7_readThing_134 : decode cX7_readThing 134 = .ok (.iconst 0, 1) := by decide +kernel
theorem dX7_readThing_135 : decode cX7_readThing 135 = .ok (.ireturn, 1) := by decide +kernel
theorem dX7_readThing_105 : decode cX7_readThing 105 = .ok (.aload_n 1, 1) := by decide +kernel
theorem dX7_readThing_106 : decode cX7_readThing 106 = .ok (.getstatic 78, 3) := by decide +kernel
theorem dX7_readThing_109 : decode cX7_readThing 109 = .ok (.iload_n 3, 1) := by decide +kernel
theorem dX7_readThing_110 : decode cX7_readThing 110 = .ok (.caload, 1) := by decide +kernel
theorem dX7_readThing_111 : decode cX7_readThing 111 = .ok (.invokevirtual 64, 3) := by decide +kernel
theorem dX7_readThing_114 : decode cX7_readThing 114 = .ok (.ifCond .eq 14, 3) := by decide +kernel
theorem dX7_readThing_128 : decode cX7_readThing 128 = .ok (.iinc 3 1, 3) := by decide +kernel
theorem dX7_readThing_131 : decode cX7_readThing 131 = .ok (.goto (-32), 3) := by decide +kernel
theorem dX7_readThing_117 : decode cX7_readThing 117 = .ok (.aload_n 0, 1) := by decide +kernel
theorem dX7_readThing_118 : decode cX7_readThing 118 = .ok (.sipush 1000, 3) := by decide +kernel
theorem dX7_readThing_121 : decode cX7_readThing 121 = .ok (.iload_n 3, 1) := by decide +kernel
theorem dX7_readThing_122 : decode cX7_readThing 122 = .ok (.iadd, 1) := by decide +kernel
theorem dX7_readThing_123 : decode cX7_readThing 123 = .ok (.invokevirtual 54, 3) := by decide +kernel
theorem dX7_readThing_126 : decode cX7_readThing 126 = .ok (.iconst 1, 1) := by decide +kernel
theorem dX7_readThing_127 : decode cX7_readThing 127 = .ok (.ireturn, 1) := by decide +kernel
theorem dX7_readThing_59 : decode cX7_readThing 59 = .ok (.if_icmp .ge 38, 3) := by decide +kernel
theorem dX7_readThing_62 : decode cX7_readThing 62 = .ok (.aload_n 1, 1) := by decide +kernel
theorem dX7_readThing_63 : decode cX7_readThing 63 = .ok (.bipush 40, 2) := by decide +kernel
theorem dX7_readThing_65 : decode cX7_readThing 65 = .ok (.invokevirtual 64, 3) := by decide +kernel
theorem dX7_readThing_68 : decode cX7_readThing 68 = .ok (.ifCond .eq 29, 3) := by decide +kernel
theorem dX7_readThing_71 : decode cX7_readThing 71 = .ok (.aload_n 0, 1) := by decide +kernel
theorem dX7_readThing_72 : decode cX7_readThing 72 = .ok (.aload_n 1, 1) := by decide +kernel
theorem dX7_readThing_73 : decode cX7_readThing 73 = .ok (.iload_n 2, 1) := by decide +kernel
theorem dX7_readThing_74 : decode cX7_readThing 74 = .ok (.iconst 1, 1) := by decide +kernel
theorem dX7_readThing_75 : decode cX7_readThing 75 = .ok (.iadd, 1) := by decide +kernel
theorem dX7_readThing_76 : decode cX7_readThing 76 = .ok (.invokevirtual 31, 3) := by decide +kernel
theorem dX7_readThing_79 : decode cX7_readThing 79 = .ok (.ifCond .eq 16, 3) := by decide +kernel
theorem dX7_readThing_95 : decode cX7_readThing 95 = .ok (.iconst 0, 1) := by decide +kernel
theorem dX7_readThing_96 : decode cX7_readThing 96 = .ok (.ireturn, 1) := by decide +kernel
theorem dX7_readThing_82 : decode cX7_readThing 82 = .ok (.aload_n 1, 1) := by decide +kernel
theorem dX7_readThing_83 : decode cX7_readThing 83 = .ok (.bipush 41, 2) := by decide +kernel
theorem dX7_readThing_85 : decode cX7_readThing 85 = .ok (.invokevirtual 64, 3) := by decide +kernel
theorem dX7_readThing_88 : decode cX7_readThing 88 = .ok (.ifCond .eq 7, 3) := by decide +kernel
theorem dX7_readThing_91 : decode cX7_readThing 91 = .ok (.iconst 1, 1) := by decide +kernel
theorem dX7_readThing_92 : decode cX7_readThing 92 = .ok (.goto 4, 3) := by decide +kernel
theorem dX7_readThing_7 : decode cX7_readThing 7 = .ok (.aload_n 1, 1) := by decide +kernel
theorem dX7_readThing_8 : decode cX7_readThing 8 = .ok (.iconst 0, 1) := by decide +kernel
theorem dX7_readThing_9 : decode cX7_readThing 9 = .ok (.bipush 9, 2) := by decide +kernel
theorem dX7_readThing_11 : decode cX7_readThing 11 = .ok (.invokevirtual 74, 3) := by decide +kernel
theorem dX7_readThing_14 : decode cX7_readThing 14 = .ok (.istore_n 3, 1) := by decide +kernel
theorem dX7_readThing_15 : decode cX7_readThing 15 = .ok (.iconst 0, 1) := by decide +kernel
theorem dX7_readThing_16 : decode cX7_readThing 16 = .ok (.istore 4, 2) := by decide +kernel
theorem dX7_readThing_18 : decode cX7_readThing 18 = .ok (.iload 4, 2) := by decide +kernel
theorem dX7_readThing_20 : decode cX7_readThing 20 = .ok (.iconst 2, 1) := by decide +kernel
theorem dX7_readThing_21 : decode cX7_readThing 21 = .ok (.if_icmp .ge 29, 3) := by decide +kernel
theorem dX7_readThing_24 : decode cX7_readThing 24 = .ok (.aload_n 1, 1) := by decide +kernel
theorem dX7_readThing_25 : decode cX7_readThing 25 = .ok (.invokevirtual 71, 3) := by decide +kernel
theorem dX7_readThing_28 : decode cX7_readThing 28 = .ok (.ifCond .eq 22, 3) := by decide +kernel
theorem dX7_readThing_31 : decode cX7_readThing 31 = .ok (.iload_n 3, 1) := by decide +kernel
theorem dX7_readThing_32 : decode cX7_readThing 32 = .ok (.bipush 10, 2) := by decide +kernel
theorem dX7_readThing_34 : decode cX7_readThing 34 = .ok (.imul, 1) := by decide +kernel
theorem dX7_readThing_35 : decode cX7_readThing 35 = .ok (.aload_n 1, 1) := by decide +kernel
theorem dX7_readThing_36 : decode cX7_readThing 36 = .ok (.iconst 0, 1) := by decide +kernel
theorem dX7_readThing_37 : decode cX7_readThing 37 = .ok (.bipush 9, 2) := by decide +kernel
theorem dX7_readThing_39 : decode cX7_readThing 39 = .ok (.invokevirtual 74, 3) := by decide +kernel
theorem dX7_readThing_42 : decode cX7_readThing 42 = .ok (.iadd, 1) := by decide +kernel
theorem dX7_readThing_43 : decode cX7_readThing 43 = .ok (.istore_n 3, 1) := by decide +kernel
theorem dX7_readThing_44 : decode cX7_readThing 44 = .ok (.iinc 4 1, 3) := by decide +kernel
theorem dX7_readThing_47 : decode cX7_readThing 47 = .ok (.goto (-29), 3) := by decide +kernel
theorem dX7_readThing_50 : decode cX7_readThing 50 = .ok (.aload_n 0, 1) := by decide +kernel
theorem dX7_readThing_51 : decode cX7_readThing 51 = .ok (.iload_n 3, 1) := by decide +kernel
theorem dX7_readThing_52 : decode cX7_readThing 52 = .ok (.invokevirtual 54, 3) := by decide +kernel
theorem dX7_readThing_55 : decode cX7_readThing 55 = .ok (.iconst 1, 1) := by decide +kernel
theorem dX7_readThing_56 : decode cX7_readThing 56 = .ok (.ireturn, 1) := by decide +kernel
theorem dX7_read_0 : decode cX7_read 0 = .ok (.aload_n 0, 1) := by decide +kernel
theorem dX7_read_1 : decode cX7_read 1 = .ok (.iconst 0, 1) := by decide +kernel
theorem dX7_read_2 : decode cX7_read 2 = .ok (.putfield 21, 3) := by decide +kernel
theorem dX7_read_5 : decode cX7_read 5 = .ok (.aload_n 1, 1) := by decide +kernel
theorem dX7_read_6 : decode cX7_read 6 = .ok (.invokevirtual 25, 3) := by decide +kernel
theorem dX7_read_30 : decode cX7_read 30 = .ok (.aload_n 0, 1) := by decide +kernel
theorem dX7_read_31 : decode cX7_read 31 = .ok (.aload_n 0, 1) := by decide +kernel
theorem dX7_read_32 : decode cX7_read 32 = .ok (.getfield 21, 3) := by decide +kernel
theorem dX7_read_35 : decode cX7_read 35 = .ok (.putfield 35, 3) := by decide +kernel
theorem dX7_read_38 : decode cX7_read 38 = .ok (.aload_n 0, 1) := by decide +kernel
theorem dX7_read_39 : decode cX7_read 39 = .ok (.getfield 15, 3) := by decide +kernel
theorem dX7_read_42 : decode cX7_read 42 = .ok (.iconst 0, 1) := by decide +kernel
theorem dX7_read_43 : decode cX7_read 43 = .ok (.aload_n 0, 1) := by decide +kernel
theorem dX7_read_44 : decode cX7_read 44 = .ok (.getfield 9, 3) := by decide +kernel
theorem dX7_read_47 : decode cX7_read 47 = .ok (.iconst 0, 1) := by decide +kernel
theorem dX7_read_48 : decode cX7_read 48 = .ok (.aload_n 0, 1) := by decide +kernel
theorem dX7_read_49 : decode cX7_read 49 = .ok (.getfield 21, 3) := by decide +kernel
theorem dX7_read_52 : decode cX7_read 52 = .ok (.invokestatic 38, 3) := by decide +kernel
theorem dX7_read_55 : decode cX7_read 55 = .ok (.iconst 1, 1) := by decide +kernel
theorem dX7_read_56 : decode cX7_read 56 = .ok (.ireturn, 1) := by decide +kernel
theorem dX7_read_9 : decode cX7_read 9 = .ok (.ifCond .ne 21, 3) := by decide +kernel
theorem dX7_read_12 : decode cX7_read 12 = .ok (.aload_n 0, 1) := by decide +kernel
theorem dX7_read_13 : decode cX7_read 13 = .ok (.aload_n 1, 1) := by decide +kernel
theorem dX7_read_14 : decode cX7_read 14 = .ok (.iconst 0, 1) := by decide +kernel
theorem dX7_read_15 : decode cX7_read 15 = .ok (.invokevirtual 31, 3) := by decide +kernel
theorem dX7_read_18 : decode cX7_read 18 = .ok (.ifCond .eq 10, 3) := by decide +kernel
theorem dX7_read_28 : decode cX7_read 28 = .ok (.iconst 0, 1) := by decide +kernel
theorem dX7_read_29 : decode cX7_read 29 = .ok (.ireturn, 1) := by decide +kernel
theorem dX7_read_21 : decode cX7_read 21 = .ok (.aload_n 1, 1) := by decide +kernel
theorem dX7_read_22 : decode cX7_read 22 = .ok (.invokevirtual 25, 3) := by decide +kernel
theorem dX7_read_25 : decode cX7_read 25 = .ok (.ifCond .ne 5, 3) := by decide +kernel
theorem dX8_append_0 : decode cX8_append 0 = .ok (.aload_n 0, 1) := by decide +kernel
theorem dX8_append_1 : decode cX8_append 1 = .ok (.getfield 15, 3) := by decide +kernel
theorem dX8_append_4 : decode cX8_append 4 = .ok (.bipush 80, 2) := by decide +kernel
theorem dX8_append_6 : decode cX8_append 6 = .ok (.if_icmp .ge 23, 3) := by decide +kernel
theorem dX8_append_29 : decode cX8_append 29 = .ok (.return_, 1) := by decide +kernel
theorem dX8_append_9 : decode cX8_append 9 = .ok (.aload_n 0, 1) := by decide +kernel
theorem dX8_append_10 : decode cX8_append 10 = .ok (.getfield 9, 3) := by decide +kernel
theorem dX8_append_13 : decode cX8_append 13 = .ok (.aload_n 0, 1) := by decide +kernel
theorem dX8_append_14 : decode cX8_append 14 = .ok (.getfield 15, 3) := by decide +kernel
theorem dX8_append_17 : decode cX8_append 17 = .ok (.iload_n 1, 1) := by decide +kernel
theorem dX8_append_18 : decode cX8_append 18 = .ok (.castore, 1) := by decide +kernel
theorem dX8_append_19 : decode cX8_append 19 = .ok (.aload_n 0, 1) := by decide +kernel
theorem dX8_append_20 : decode cX8_append 20 = .ok (.dup, 1) := by decide +kernel
theorem dX8_append_21 : decode cX8_append 21 = .ok (.getfield 15, 3) := by decide +kernel
theorem dX8_append_24 : decode cX8_append 24 = .ok (.iconst 1, 1) := by decide +kernel
theorem dX8_append_25 : decode cX8_append 25 = .ok (.iadd, 1) := by decide +kernel
theorem dX8_append_26 : decode cX8_append 26 = .ok (.putfield 15, 3) := by decide +kernel
theorem dX8_open_0 : decode cX8_open 0 = .ok (.aload_n 0, 1) := by decide +kernel
theorem dX8_open_1 : decode cX8_open 1 = .ok (.iconst 0, 1) := by decide +kernel
theorem dX8_open_2 : decode cX8_open 2 = .ok (.putfield 19, 3) := by decide +kernel
theorem dX8_open_5 : decode cX8_open 5 = .ok (.aload_n 0, 1) := by decide +kernel
theorem dX8_open_6 : decode cX8_open 6 = .ok (.iload_n 1, 1) := by decide +kernel
theorem dX8_open_7 : decode cX8_open 7 = .ok (.aload_n 0, 1) := by decide +kernel
theorem dX8_open_8 : decode cX8_open 8 = .ok (.getfield 15, 3) := by decide +kernel
theorem dX8_open_11 : decode cX8_open 11 = .ok (.invokestatic 22, 3) := by decide +kernel
theorem dX8_open_14 : decode cX8_open 14 = .ok (.putfield 28, 3) := by decide +kernel
theorem dX8_open_17 : decode cX8_open 17 = .ok (.return_, 1) := by decide +kernel
theorem dX8_close_0 : decode cX8_close 0 = .ok (.aload_n 0, 1) := by decide +kernel
theorem dX8_close_1 : decode cX8_close 1 = .ok (.iconst 0, 1) := by decide +kernel
theorem dX8_close_2 : decode cX8_close 2 = .ok (.putfield 15, 3) := by decide +kernel
theorem dX8_close_5 : decode cX8_close 5 = .ok (.return_, 1) := by decide +kernel
theorem dX8_fault_0 : decode cX8_fault 0 = .ok (.iconst (-1), 1) := by decide +kernel
theorem dX8_fault_1 : decode cX8_fault 1 = .ok (.aload_n 0, 1) := by decide +kernel
theorem dX8_fault_2 : decode cX8_fault 2 = .ok (.getfield 19, 3) := by decide +kernel
theorem dX8_fault_5 : decode cX8_fault 5 = .ok (.isub, 1) := by decide +kernel
theorem dX8_fault_6 : decode cX8_fault 6 = .ok (.ireturn, 1) := by decide +kernel
theorem dX9_readLines_0 : decode cX9_readLines 0 = .ok (.iconst 0, 1) := by decide +kernel
theorem dX9_readLines_1 : decode cX9_readLines 1 = .ok (.istore_n 2, 1) := by decide +kernel
theorem dX9_readLines_2 : decode cX9_readLines 2 = .ok (.iload_n 2, 1) := by decide +kernel
theorem dX9_readLines_3 : decode cX9_readLines 3 = .ok (.bipush 8, 2) := by decide +kernel
theorem dX9_readLines_5 : decode cX9_readLines 5 = .ok (.if_icmp .ge 91, 3) := by decide +kernel
theorem dX9_readLines_8 : decode cX9_readLines 8 = .ok (.aload_n 0, 1) := by decide +kernel
theorem dX9_readLines_9 : decode cX9_readLines 9 = .ok (.getfield 18, 3) := by decide +kernel
theorem dX9_readLines_12 : decode cX9_readLines 12 = .ok (.iconst 2, 1) := by decide +kernel
theorem dX9_readLines_13 : decode cX9_readLines 13 = .ok (.iload_n 2, 1) := by decide +kernel
theorem dX9_readLines_14 : decode cX9_readLines 14 = .ok (.imul, 1) := by decide +kernel
theorem dX9_readLines_15 : decode cX9_readLines 15 = .ok (.aload_n 1, 1) := by decide +kernel
theorem dX9_readLines_16 : decode cX9_readLines 16 = .ok (.iconst 0, 1) := by decide +kernel
theorem dX9_readLines_17 : decode cX9_readLines 17 = .ok (.bipush 9, 2) := by decide +kernel
theorem dX9_readLines_19 : decode cX9_readLines 19 = .ok (.invokevirtual 47, 3) := by decide +kernel
theorem dX9_readLines_22 : decode cX9_readLines 22 = .ok (.iastore, 1) := by decide +kernel
theorem dX9_readLines_23 : decode cX9_readLines 23 = .ok (.aload_n 0, 1) := by decide +kernel
theorem dX9_readLines_24 : decode cX9_readLines 24 = .ok (.getfield 18, 3) := by decide +kernel
theorem dX9_readLines_27 : decode cX9_readLines 27 = .ok (.iconst 2, 1) := by decide +kernel
theorem dX9_readLines_28 : decode cX9_readLines 28 = .ok (.iload_n 2, 1) := by decide +kernel
theorem dX9_readLines_29 : decode cX9_readLines 29 = .ok (.imul, 1) := by decide +kernel
theorem dX9_readLines_30 : decode cX9_readLines 30 = .ok (.iaload, 1) := by decide +kernel
theorem dX9_readLines_31 : decode cX9_readLines 31 = .ok (.ifCond .ge 5, 3) := by decide +kernel
theorem dX9_readLines_36 : decode cX9_readLines 36 = .ok (.aload_n 0, 1) := by decide +kernel
theorem dX9_readLines_37 : decode cX9_readLines 37 = .ok (.getfield 18, 3) := by decide +kernel
theorem dX9_readLines_40 : decode cX9_readLines 40 = .ok (.iconst 2, 1) := by decide +kernel
theorem dX9_readLines_41 : decode cX9_readLines 41 = .ok (.iload_n 2, 1) := by decide +kernel
theorem dX9_readLines_42 : decode cX9_readLines 42 = .ok (.imul, 1) := by decide +kernel
theorem dX9_readLines_43 : decode cX9_readLines 43 = .ok (.iconst 1, 1) := by decide +kernel
theorem dX9_readLines_44 : decode cX9_readLines 44 = .ok (.iadd, 1) := by decide +kernel
theorem dX9_readLines_45 : decode cX9_readLines 45 = .ok (.aload_n 1, 1) := by decide +kernel
theorem dX9_readLines_46 : decode cX9_readLines 46 = .ok (.iconst 0, 1) := by decide +kernel
theorem dX9_readLines_47 : decode cX9_readLines 47 = .ok (.bipush 7, 2) := by decide +kernel
theorem dX9_readLines_49 : decode cX9_readLines 49 = .ok (.invokevirtual 47, 3) := by decide +kernel
theorem dX9_readLines_52 : decode cX9_readLines 52 = .ok (.iastore, 1) := by decide +kernel
theorem dX9_readLines_53 : decode cX9_readLines 53 = .ok (.aload_n 0, 1) := by decide +kernel
theorem dX9_readLines_54 : decode cX9_readLines 54 = .ok (.getfield 18, 3) := by decide +kernel
theorem dX9_readLines_57 : decode cX9_readLines 57 = .ok (.iconst 2, 1) := by decide +kernel
theorem dX9_readLines_58 : decode cX9_readLines 58 = .ok (.iload_n 2, 1) := by decide +kernel
theorem dX9_readLines_59 : decode cX9_readLines 59 = .ok (.imul, 1) := by decide +kernel
theorem dX9_readLines_60 : decode cX9_readLines 60 = .ok (.iconst 1, 1) := by decide +kernel
theorem dX9_readLines_61 : decode cX9_readLines 61 = .ok (.iadd, 1) := by decide +kernel
theorem dX9_readLines_62 : decode cX9_readLines 62 = .ok (.iaload, 1) := by decide +kernel
theorem dX9_readLines_63 : decode cX9_readLines 63 = .ok (.ifCond .ge 5, 3) := by decide +kernel
theorem dX9_readLines_68 : decode cX9_readLines 68 = .ok (.aload_n 1, 1) := by decide +kernel
theorem dX9_readLines_69 : decode cX9_readLines 69 = .ok (.invokevirtual 34, 3) := by decide +kernel
theorem dX9_readLines_72 : decode cX9_readLines 72 = .ok (.ifCond .eq 7, 3) := by decide +kernel
theorem dX9_readLines_79 : decode cX9_readLines 79 = .ok (.aload_n 1, 1) := by decide +kernel
theorem dX9_readLines_80 : decode cX9_readLines 80 = .ok (.bipush 59, 2) := by decide +kernel
theorem dX9_readLines_82 : decode cX9_readLines 82 = .ok (.invokevirtual 51, 3) := by decide +kernel
theorem dX9_readLines_85 : decode cX9_readLines 85 = .ok (.ifCond .ne 5, 3) := by decide +kernel
theorem dX9_readLines_90 : decode cX9_readLines 90 = .ok (.iinc 2 1, 3) := by decide +kernel
theorem dX9_readLines_93 : decode cX9_readLines 93 = .ok (.goto (-91), 3) := by decide +kernel
theorem dX9_readLines_88 : decode cX9_readLines 88 = .ok (.iconst (-1), 1) := by decide +kernel
theorem dX9_readLines_89 : decode cX9_readLines 89 = .ok (.ireturn, 1) := by decide +kernel
theorem dX9_readLines_75 : decode cX9_readLines 75 = .ok (.iload_n 2, 1) := by decide +kernel
theorem dX9_readLines_76 : decode cX9_readLines 76 = .ok (.iconst 1, 1) := by decide +kernel
theorem dX9_readLines_77 : decode cX9_readLines 77 = .ok (.iadd, 1) := by decide +kernel
theorem dX9_readLines_78 : decode cX9_readLines 78 = .ok (.ireturn, 1) := by decide +kernel
theorem dX9_readLines_66 : decode cX9_readLines 66 = .ok (.iconst (-1), 1) := by decide +kernel
theorem dX9_readLines_67 : decode cX9_readLines 67 = .ok (.ireturn, 1) := by decide +kernel
theorem dX9_readLines_34 : decode cX9_readLines 34 = .ok (.iconst (-1), 1) := by decide +kernel
theorem dX9_readLines_35 : decode cX9_readLines 35 = .ok (.ireturn, 1) := by decide +kernel
theorem dX9_readLines_96 : decode cX9_readLines 96 = .ok (.iconst (-1), 1) := by decide +kernel
theorem dX9_readLines_97 : decode cX9_readLines 97 = .ok (.ireturn, 1) := by decide +kernel
theorem dX9_compare_0 : decode cX9_compare 0 = .ok (.iconst 0, 1) := by decide +kernel
theorem dX9_compare_1 : decode cX9_compare 1 = .ok (.istore_n 1, 1) := by decide +kernel
theorem dX9_compare_2 : decode cX9_compare 2 = .ok (.iload_n 1, 1) := by decide +kernel
theorem dX9_compare_3 : decode cX9_compare 3 = .ok (.aload_n 0, 1) := by decide +kernel
theorem dX9_compare_4 : decode cX9_compare 4 = .ok (.getfield 30, 3) := by decide +kernel
theorem dX9_compare_7 : decode cX9_compare 7 = .ok (.if_icmp .ge 141, 3) := by decide +kernel
theorem dX9_compare_10 : decode cX9_compare 10 = .ok (.aload_n 0, 1) := by decide +kernel
theorem dX9_compare_11 : decode cX9_compare 11 = .ok (.getfield 21, 3) := by decide +kernel
theorem dX9_compare_14 : decode cX9_compare 14 = .ok (.iload_n 1, 1) := by decide +kernel
theorem dX9_compare_15 : decode cX9_compare 15 = .ok (.iconst 0, 1) := by decide +kernel
theorem dX9_compare_16 : decode cX9_compare 16 = .ok (.iastore, 1) := by decide +kernel
theorem dX9_compare_17 : decode cX9_compare 17 = .ok (.aload_n 0, 1) := by decide +kernel
theorem dX9_compare_18 : decode cX9_compare 18 = .ok (.getfield 24, 3) := by decide +kernel
theorem dX9_compare_21 : decode cX9_compare 21 = .ok (.iload_n 1, 1) := by decide +kernel
theorem dX9_compare_22 : decode cX9_compare 22 = .ok (.iconst 0, 1) := by decide +kernel
theorem dX9_compare_23 : decode cX9_compare 23 = .ok (.iastore, 1) := by decide +kernel
theorem dX9_compare_24 : decode cX9_compare 24 = .ok (.aload_n 0, 1) := by decide +kernel
theorem dX9_compare_25 : decode cX9_compare 25 = .ok (.getfield 27, 3) := by decide +kernel
theorem dX9_compare_28 : decode cX9_compare 28 = .ok (.iload_n 1, 1) := by decide +kernel
theorem dX9_compare_29 : decode cX9_compare 29 = .ok (.iconst 0, 1) := by decide +kernel
theorem dX9_compare_30 : decode cX9_compare 30 = .ok (.iastore, 1) := by decide +kernel
theorem dX9_compare_31 : decode cX9_compare 31 = .ok (.iconst 0, 1) := by decide +kernel
theorem dX9_compare_32 : decode cX9_compare 32 = .ok (.istore_n 2, 1) := by decide +kernel
theorem dX9_compare_33 : decode cX9_compare 33 = .ok (.iload_n 2, 1) := by decide +kernel
theorem dX9_compare_34 : decode cX9_compare 34 = .ok (.aload_n 0, 1) := by decide +kernel
theorem dX9_compare_35 : decode cX9_compare 35 = .ok (.getfield 30, 3) := by decide +kernel
theorem dX9_compare_38 : decode cX9_compare 38 = .ok (.if_icmp .ge 104, 3) := by decide +kernel
theorem dX9_compare_41 : decode cX9_compare 41 = .ok (.aload_n 0, 1) := by decide +kernel
theorem dX9_compare_42 : decode cX9_compare 42 = .ok (.getfield 15, 3) := by decide +kernel
theorem dX9_compare_45 : decode cX9_compare 45 = .ok (.iload_n 2, 1) := by decide +kernel
theorem dX9_compare_46 : decode cX9_compare 46 = .ok (.iaload, 1) := by decide +kernel
theorem dX9_compare_47 : decode cX9_compare 47 = .ok (.aload_n 0, 1) := by decide +kernel
theorem dX9_compare_48 : decode cX9_compare 48 = .ok (.getfield 15, 3) := by decide +kernel
theorem dX9_compare_51 : decode cX9_compare 51 = .ok (.iload_n 1, 1) := by decide +kernel
theorem dX9_compare_52 : decode cX9_compare 52 = .ok (.iaload, 1) := by decide +kernel
theorem dX9_compare_136 : decode cX9_compare 136 = .ok (.iinc 2 1, 3) := by decide +kernel
theorem dX9_compare_139 : decode cX9_compare 139 = .ok (.goto (-106), 3) := by decide +kernel
theorem dX9_compare_53 : decode cX9_compare 53 = .ok (.if_icmp .ne 83, 3) := by decide +kernel
theorem dX9_compare_56 : decode cX9_compare 56 = .ok (.aload_n 0, 1) := by decide +kernel
theorem dX9_compare_57 : decode cX9_compare 57 = .ok (.getfield 9, 3) := by decide +kernel
theorem dX9_compare_60 : decode cX9_compare 60 = .ok (.iload_n 2, 1) := by decide +kernel
theorem dX9_compare_61 : decode cX9_compare 61 = .ok (.iaload, 1) := by decide +kernel
theorem dX9_compare_62 : decode cX9_compare 62 = .ok (.aload_n 0, 1) := by decide +kernel
theorem dX9_compare_63 : decode cX9_compare 63 = .ok (.getfield 9, 3) := by decide +kernel
theorem dX9_compare_66 : decode cX9_compare 66 = .ok (.iload_n 1, 1) := by decide +kernel
theorem dX9_compare_67 : decode cX9_compare 67 = .ok (.iaload, 1) := by decide +kernel
theorem dX9_compare_68 : decode cX9_compare 68 = .ok (.isub, 1) := by decide +kernel
theorem dX9_compare_69 : decode cX9_compare 69 = .ok (.istore_n 3, 1) := by decide +kernel
theorem dX9_compare_70 : decode cX9_compare 70 = .ok (.aload_n 0, 1) := by decide +kernel
theorem dX9_compare_71 : decode cX9_compare 71 = .ok (.getfield 21, 3) := by decide +kernel
theorem dX9_compare_74 : decode cX9_compare 74 = .ok (.iload_n 1, 1) := by decide +kernel
theorem dX9_compare_75 : decode cX9_compare 75 = .ok (.dup2, 1) := by decide +kernel
theorem dX9_compare_76 : decode cX9_compare 76 = .ok (.iaload, 1) := by decide +kernel
theorem dX9_compare_77 : decode cX9_compare 77 = .ok (.iload_n 3, 1) := by decide +kernel
theorem dX9_compare_78 : decode cX9_compare 78 = .ok (.iconst (-1), 1) := by decide +kernel
theorem dX9_compare_94 : decode cX9_compare 94 = .ok (.ior, 1) := by decide +kernel
theorem dX9_compare_95 : decode cX9_compare 95 = .ok (.iastore, 1) := by decide +kernel
theorem dX9_compare_96 : decode cX9_compare 96 = .ok (.aload_n 0, 1) := by decide +kernel
theorem dX9_compare_97 : decode cX9_compare 97 = .ok (.getfield 24, 3) := by decide +kernel
theorem dX9_compare_100 : decode cX9_compare 100 = .ok (.iload_n 1, 1) := by decide +kernel
theorem dX9_compare_101 : decode cX9_compare 101 = .ok (.dup2, 1) := by decide +kernel
theorem dX9_compare_102 : decode cX9_compare 102 = .ok (.iaload, 1) := by decide +kernel
theorem dX9_compare_103 : decode cX9_compare 103 = .ok (.iload_n 3, 1) := by decide +kernel
theorem dX9_compare_114 : decode cX9_compare 114 = .ok (.ior, 1) := by decide +kernel
theorem dX9_compare_115 : decode cX9_compare 115 = .ok (.iastore, 1) := by decide +kernel
theorem dX9_compare_116 : decode cX9_compare 116 = .ok (.aload_n 0, 1) := by decide +kernel
theorem dX9_compare_117 : decode cX9_compare 117 = .ok (.getfield 27, 3) := by decide +kernel
theorem dX9_compare_120 : decode cX9_compare 120 = .ok (.iload_n 1, 1) := by decide +kernel
theorem dX9_compare_121 : decode cX9_compare 121 = .ok (.dup2, 1) := by decide +kernel
theorem dX9_compare_122 : decode cX9_compare 122 = .ok (.iaload, 1) := by decide +kernel
theorem dX9_compare_123 : decode cX9_compare 123 = .ok (.iload_n 3, 1) := by decide +kernel
theorem dX9_compare_134 : decode cX9_compare 134 = .ok (.ior, 1) := by decide +kernel
theorem dX9_compare_135 : decode cX9_compare 135 = .ok (.iastore, 1) := by decide +kernel
theorem dX9_compare_124 : decode cX9_compare 124 = .ok (.ifCond .le 9, 3) := by decide +kernel
theorem dX9_compare_133 : decode cX9_compare 133 = .ok (.iconst 0, 1) := by decide +kernel
theorem dX9_compare_127 : decode cX9_compare 127 = .ok (.iconst 1, 1) := by decide +kernel
theorem dX9_compare_128 : decode cX9_compare 128 = .ok (.iload_n 2, 1) := by decide +kernel
theorem dX9_compare_129 : decode cX9_compare 129 = .ok (.ishl, 1) := by decide +kernel
theorem dX9_compare_130 : decode cX9_compare 130 = .ok (.goto 4, 3) := by decide +kernel
theorem dX9_compare_104 : decode cX9_compare 104 = .ok (.ifCond .ge 9, 3) := by decide +kernel
theorem dX9_compare_113 : decode cX9_compare 113 = .ok (.iconst 0, 1) := by decide +kernel
theorem dX9_compare_107 : decode cX9_compare 107 = .ok (.iconst 1, 1) := by decide +kernel
theorem dX9_compare_108 : decode cX9_compare 108 = .ok (.iload_n 2, 1) := by decide +kernel
theorem dX9_compare_109 : decode cX9_compare 109 = .ok (.ishl, 1) := by decide +kernel
theorem dX9_compare_110 : decode cX9_compare 110 = .ok (.goto 4, 3) := by decide +kernel
theorem dX9_compare_93 : decode cX9_compare 93 = .ok (.iconst 0, 1) := by decide +kernel
theorem dX9_compare_79 : decode cX9_compare 79 = .ok (.if_icmp .lt 14, 3) := by decide +kernel
theorem dX9_compare_82 : decode cX9_compare 82 = .ok (.iload_n 3, 1) := by decide +kernel
theorem dX9_compare_83 : decode cX9_compare 83 = .ok (.iconst 1, 1) := by decide +kernel
theorem dX9_compare_84 : decode cX9_compare 84 = .ok (.if_icmp .gt 9, 3) := by decide +kernel
theorem dX9_compare_87 : decode cX9_compare 87 = .ok (.iconst 1, 1) := by decide +kernel
theorem dX9_compare_88 : decode cX9_compare 88 = .ok (.iload_n 2, 1) := by decide +kernel
theorem dX9_compare_89 : decode cX9_compare 89 = .ok (.ishl, 1) := by decide +kernel
theorem dX9_compare_90 : decode cX9_compare 90 = .ok (.goto 4, 3) := by decide +kernel
theorem dX9_compare_142 : decode cX9_compare 142 = .ok (.iinc 1 1, 3) := by decide +kernel
theorem dX9_compare_145 : decode cX9_compare 145 = .ok (.goto (-143), 3) := by decide +kernel
theorem dX9_compare_148 : decode cX9_compare 148 = .ok (.return_, 1) := by decide +kernel
theorem dX9_read_0 : decode cX9_read 0 = .ok (.aload_n 1, 1) := by decide +kernel
theorem dX9_read_1 : decode cX9_read 1 = .ok (.invokevirtual 34, 3) := by decide +kernel
theorem dX9_read_16 : decode cX9_read 16 = .ok (.istore_n 2, 1) := by decide +kernel
theorem dX9_read_17 : decode cX9_read 17 = .ok (.iload_n 2, 1) := by decide +kernel
theorem dX9_read_18 : decode cX9_read 18 = .ok (.ifCond .lt 58, 3) := by decide +kernel
theorem dX9_read_76 : decode cX9_read 76 = .ok (.iload_n 2, 1) := by decide +kernel
theorem dX9_read_77 : decode cX9_read 77 = .ok (.ireturn, 1) := by decide +kernel
theorem dX9_read_21 : decode cX9_read 21 = .ok (.aload_n 0, 1) := by decide +kernel
theorem dX9_read_22 : decode cX9_read 22 = .ok (.iload_n 2, 1) := by decide +kernel
theorem dX9_read_23 : decode cX9_read 23 = .ok (.putfield 30, 3) := by decide +kernel
theorem dX9_read_26 : decode cX9_read 26 = .ok (.iconst 0, 1) := by decide +kernel
theorem dX9_read_27 : decode cX9_read 27 = .ok (.istore_n 3, 1) := by decide +kernel
theorem dX9_read_28 : decode cX9_read 28 = .ok (.iload_n 3, 1) := by decide +kernel
theorem dX9_read_29 : decode cX9_read 29 = .ok (.aload_n 0, 1) := by decide +kernel
theorem dX9_read_30 : decode cX9_read 30 = .ok (.getfield 30, 3) := by decide +kernel
theorem dX9_read_33 : decode cX9_read 33 = .ok (.if_icmp .ge 39, 3) := by decide +kernel
theorem dX9_read_36 : decode cX9_read 36 = .ok (.aload_n 0, 1) := by decide +kernel
theorem dX9_read_37 : decode cX9_read 37 = .ok (.getfield 9, 3) := by decide +kernel
theorem dX9_read_40 : decode cX9_read 40 = .ok (.iload_n 3, 1) := by decide +kernel
theorem dX9_read_41 : decode cX9_read 41 = .ok (.aload_n 0, 1) := by decide +kernel
theorem dX9_read_42 : decode cX9_read 42 = .ok (.getfield 18, 3) := by decide +kernel
theorem dX9_read_45 : decode cX9_read 45 = .ok (.iconst 2, 1) := by decide +kernel
theorem dX9_read_46 : decode cX9_read 46 = .ok (.iload_n 3, 1) := by decide +kernel
theorem dX9_read_47 : decode cX9_read 47 = .ok (.imul, 1) := by decide +kernel
theorem dX9_read_48 : decode cX9_read 48 = .ok (.iaload, 1) := by decide +kernel
theorem dX9_read_49 : decode cX9_read 49 = .ok (.iastore, 1) := by decide +kernel
theorem dX9_read_50 : decode cX9_read 50 = .ok (.aload_n 0, 1) := by decide +kernel
theorem dX9_read_51 : decode cX9_read 51 = .ok (.getfield 15, 3) := by decide +kernel
theorem dX9_read_54 : decode cX9_read 54 = .ok (.iload_n 3, 1) := by decide +kernel
theorem dX9_read_55 : decode cX9_read 55 = .ok (.aload_n 0, 1) := by decide +kernel
theorem dX9_read_56 : decode cX9_read 56 = .ok (.getfield 18, 3) := by decide +kernel
theorem dX9_read_59 : decode cX9_read 59 = .ok (.iconst 2, 1) := by decide +kernel
theorem dX9_read_60 : decode cX9_read 60 = .ok (.iload_n 3, 1) := by decide +kernel
theorem dX9_read_61 : decode cX9_read 61 = .ok (.imul, 1) := by decide +kernel
theorem dX9_read_62 : decode cX9_read 62 = .ok (.iconst 1, 1) := by decide +kernel
theorem dX9_read_63 : decode cX9_read 63 = .ok (.iadd, 1) := by decide +kernel
theorem dX9_read_64 : decode cX9_read 64 = .ok (.iaload, 1) := by decide +kernel
theorem dX9_read_65 : decode cX9_read 65 = .ok (.iastore, 1) := by decide +kernel
theorem dX9_read_66 : decode cX9_read 66 = .ok (.iinc 3 1, 3) := by decide +kernel
theorem dX9_read_69 : decode cX9_read 69 = .ok (.goto (-41), 3) := by decide +kernel
theorem dX9_read_72 : decode cX9_read 72 = .ok (.aload_n 0, 1) := by decide +kernel
theorem dX9_read_73 : decode cX9_read 73 = .ok (.invokevirtual 44, 3) := by decide +kernel
theorem dX9_read_4 : decode cX9_read 4 = .ok (.ifCond .eq 7, 3) := by decide +kernel
theorem dX9_read_11 : decode cX9_read 11 = .ok (.aload_n 0, 1) := by decide +kernel
theorem dX9_read_12 : decode cX9_read 12 = .ok (.aload_n 1, 1) := by decide +kernel
theorem dX9_read_13 : decode cX9_read 13 = .ok (.invokevirtual 40, 3) := by decide +kernel
theorem dX9_read_7 : decode cX9_read 7 = .ok (.iconst 0, 1) := by decide +kernel
theorem dX9_read_8 : decode cX9_read 8 = .ok (.goto 8, 3) := by decide +kernel
theorem dX10_readOne_0 : decode cX10_readOne 0 = .ok (.aload_n 1, 1) := by decide +kernel
theorem dX10_readOne_1 : decode cX10_readOne 1 = .ok (.bipush 45, 2) := by decide +kernel
theorem dX10_readOne_3 : decode cX10_readOne 3 = .ok (.invokevirtual 33, 3) := by decide +kernel
theorem dX10_readOne_6 : decode cX10_readOne 6 = .ok (.istore_n 3, 1) := by decide +kernel
theorem dX10_readOne_7 : decode cX10_readOne 7 = .ok (.aload_n 0, 1) := by decide +kernel
theorem dX10_readOne_8 : decode cX10_readOne 8 = .ok (.getfield 24, 3) := by decide +kernel
theorem dX10_readOne_11 : decode cX10_readOne 11 = .ok (.iconst 2, 1) := by decide +kernel
theorem dX10_readOne_12 : decode cX10_readOne 12 = .ok (.iload_n 2, 1) := by decide +kernel
theorem dX10_readOne_13 : decode cX10_readOne 13 = .ok (.imul, 1) := by decide +kernel
theorem dX10_readOne_14 : decode cX10_readOne 14 = .ok (.iload_n 3, 1) := by decide +kernel
theorem dX10_readOne_29 : decode cX10_readOne 29 = .ok (.iastore, 1) := by decide +kernel
theorem dX10_readOne_30 : decode cX10_readOne 30 = .ok (.iload_n 3, 1) := by decide +kernel
theorem dX10_readOne_45 : decode cX10_readOne 45 = .ok (.aload_n 0, 1) := by decide +kernel
theorem dX10_readOne_46 : decode cX10_readOne 46 = .ok (.getfield 24, 3) := by decide +kernel
theorem dX10_readOne_49 : decode cX10_readOne 49 = .ok (.iconst 2, 1) := by decide +kernel
theorem dX10_readOne_50 : decode cX10_readOne 50 = .ok (.iload_n 2, 1) := by decide +kernel
theorem dX10_readOne_51 : decode cX10_readOne 51 = .ok (.imul, 1) := by decide +kernel
theorem dX10_readOne_52 : decode cX10_readOne 52 = .ok (.iconst 1, 1) := by decide +kernel
theorem dX10_readOne_53 : decode cX10_readOne 53 = .ok (.iadd, 1) := by decide +kernel
theorem dX10_readOne_54 : decode cX10_readOne 54 = .ok (.iconst 0, 1) := by decide +kernel
theorem dX10_readOne_55 : decode cX10_readOne 55 = .ok (.iastore, 1) := by decide +kernel
theorem dX10_readOne_56 : decode cX10_readOne 56 = .ok (.iload_n 3, 1) := by decide +kernel
theorem dX10_readOne_57 : decode cX10_readOne 57 = .ok (.ireturn, 1) := by decide +kernel
theorem dX10_readOne_31 : decode cX10_readOne 31 = .ok (.ifCond .ne 14, 3) := by decide +kernel
theorem dX10_readOne_34 : decode cX10_readOne 34 = .ok (.aload_n 0, 1) := by decide +kernel
theorem dX10_readOne_35 : decode cX10_readOne 35 = .ok (.getfield 24, 3) := by decide +kernel
theorem dX10_readOne_38 : decode cX10_readOne 38 = .ok (.iconst 2, 1) := by decide +kernel
theorem dX10_readOne_39 : decode cX10_readOne 39 = .ok (.iload_n 2, 1) := by decide +kernel
theorem dX10_readOne_40 : decode cX10_readOne 40 = .ok (.imul, 1) := by decide +kernel
theorem dX10_readOne_41 : decode cX10_readOne 41 = .ok (.iaload, 1) := by decide +kernel
theorem dX10_readOne_42 : decode cX10_readOne 42 = .ok (.ifCond .ge 16, 3) := by decide +kernel
theorem dX10_readOne_58 : decode cX10_readOne 58 = .ok (.aload_n 0, 1) := by decide +kernel
theorem dX10_readOne_59 : decode cX10_readOne 59 = .ok (.getfield 24, 3) := by decide +kernel
theorem dX10_readOne_62 : decode cX10_readOne 62 = .ok (.iconst 2, 1) := by decide +kernel
theorem dX10_readOne_63 : decode cX10_readOne 63 = .ok (.iload_n 2, 1) := by decide +kernel
theorem dX10_readOne_64 : decode cX10_readOne 64 = .ok (.imul, 1) := by decide +kernel
theorem dX10_readOne_65 : decode cX10_readOne 65 = .ok (.iconst 1, 1) := by decide +kernel
theorem dX10_readOne_66 : decode cX10_readOne 66 = .ok (.iadd, 1) := by decide +kernel
theorem dX10_readOne_67 : decode cX10_readOne 67 = .ok (.aload_n 1, 1) := by decide +kernel
theorem dX10_readOne_68 : decode cX10_readOne 68 = .ok (.iconst 1, 1) := by decide +kernel
theorem dX10_readOne_69 : decode cX10_readOne 69 = .ok (.iconst 3, 1) := by decide +kernel
theorem dX10_readOne_70 : decode cX10_readOne 70 = .ok (.invokevirtual 51, 3) := by decide +kernel
theorem dX10_readOne_73 : decode cX10_readOne 73 = .ok (.iastore, 1) := by decide +kernel
theorem dX10_readOne_74 : decode cX10_readOne 74 = .ok (.aload_n 0, 1) := by decide +kernel
theorem dX10_readOne_75 : decode cX10_readOne 75 = .ok (.getfield 24, 3) := by decide +kernel
theorem dX10_readOne_78 : decode cX10_readOne 78 = .ok (.iconst 2, 1) := by decide +kernel
theorem dX10_readOne_79 : decode cX10_readOne 79 = .ok (.iload_n 2, 1) := by decide +kernel
theorem dX10_readOne_80 : decode cX10_readOne 80 = .ok (.imul, 1) := by decide +kernel
theorem dX10_readOne_81 : decode cX10_readOne 81 = .ok (.iconst 1, 1) := by decide +kernel
theorem dX10_readOne_82 : decode cX10_readOne 82 = .ok (.iadd, 1) := by decide +kernel
theorem dX10_readOne_83 : decode cX10_readOne 83 = .ok (.iaload, 1) := by decide +kernel
theorem dX10_readOne_84 : decode cX10_readOne 84 = .ok (.ifCond .le 7, 3) := by decide +kernel
theorem dX10_readOne_91 : decode cX10_readOne 91 = .ok (.iconst 0, 1) := by decide +kernel
theorem dX10_readOne_92 : decode cX10_readOne 92 = .ok (.ireturn, 1) := by decide +kernel
theorem dX10_readOne_87 : decode cX10_readOne 87 = .ok (.iconst 1, 1) := by decide +kernel
theorem dX10_readOne_88 : decode cX10_readOne 88 = .ok (.goto 4, 3) := by decide +kernel
theorem dX10_readOne_15 : decode cX10_readOne 15 = .ok (.ifCond .eq 7, 3) := by decide +kernel
theorem dX10_readOne_22 : decode cX10_readOne 22 = .ok (.aload_n 1, 1) := by decide +kernel
theorem dX10_readOne_23 : decode cX10_readOne 23 = .ok (.iconst 0, 1) := by decide +kernel
theorem dX10_readOne_24 : decode cX10_readOne 24 = .ok (.bipush 7, 2) := by decide +kernel
theorem dX10_readOne_26 : decode cX10_readOne 26 = .ok (.invokevirtual 51, 3) := by decide +kernel
theorem dX10_readOne_18 : decode cX10_readOne 18 = .ok (.iconst (-1), 1) := by decide +kernel
theorem dX10_readOne_19 : decode cX10_readOne 19 = .ok (.goto 10, 3) := by decide +kernel
theorem dX10_put_0 : decode cX10_put 0 = .ok (.iload_n 2, 1) := by decide +kernel
theorem dX10_put_17 : decode cX10_put 17 = .ok (.istore 4, 2) := by decide +kernel
theorem dX10_put_19 : decode cX10_put 19 = .ok (.aload_n 0, 1) := by decide +kernel
theorem dX10_put_20 : decode cX10_put 20 = .ok (.getfield 9, 3) := by decide +kernel
theorem dX10_put_23 : decode cX10_put 23 = .ok (.iload_n 1, 1) := by decide +kernel
theorem dX10_put_24 : decode cX10_put 24 = .ok (.iload 4, 2) := by decide +kernel
theorem dX10_put_34 : decode cX10_put 34 = .ok (.iastore, 1) := by decide +kernel
theorem dX10_put_35 : decode cX10_put 35 = .ok (.aload_n 0, 1) := by decide +kernel
theorem dX10_put_36 : decode cX10_put 36 = .ok (.getfield 15, 3) := by decide +kernel
theorem dX10_put_39 : decode cX10_put 39 = .ok (.iload_n 1, 1) := by decide +kernel
theorem dX10_put_40 : decode cX10_put 40 = .ok (.iload 4, 2) := by decide +kernel
theorem dX10_put_50 : decode cX10_put 50 = .ok (.iastore, 1) := by decide +kernel
theorem dX10_put_51 : decode cX10_put 51 = .ok (.aload_n 0, 1) := by decide +kernel
theorem dX10_put_52 : decode cX10_put 52 = .ok (.getfield 18, 3) := by decide +kernel
theorem dX10_put_55 : decode cX10_put 55 = .ok (.iload_n 1, 1) := by decide +kernel
theorem dX10_put_56 : decode cX10_put 56 = .ok (.iload 4, 2) := by decide +kernel
theorem dX10_put_72 : decode cX10_put 72 = .ok (.iastore, 1) := by decide +kernel
theorem dX10_put_73 : decode cX10_put 73 = .ok (.aload_n 0, 1) := by decide +kernel
theorem dX10_put_74 : decode cX10_put 74 = .ok (.getfield 21, 3) := by decide +kernel
theorem dX10_put_77 : decode cX10_put 77 = .ok (.iload_n 1, 1) := by decide +kernel
theorem dX10_put_78 : decode cX10_put 78 = .ok (.iload 4, 2) := by decide +kernel
theorem dX10_put_80 : decode cX10_put 80 = .ok (.ifCond .eq 13, 3) := by decide +kernel
theorem dX10_put_93 : decode cX10_put 93 = .ok (.iconst 0, 1) := by decide +kernel
theorem dX10_put_94 : decode cX10_put 94 = .ok (.iastore, 1) := by decide +kernel
theorem dX10_put_95 : decode cX10_put 95 = .ok (.return_, 1) := by decide +kernel
theorem dX10_put_83 : decode cX10_put 83 = .ok (.getstatic 58, 3) := by decide +kernel
theorem dX10_put_86 : decode cX10_put 86 = .ok (.iload_n 2, 1) := by decide +kernel
theorem dX10_put_87 : decode cX10_put 87 = .ok (.iaload, 1) := by decide +kernel
theorem dX10_put_88 : decode cX10_put 88 = .ok (.iload_n 3, 1) := by decide +kernel
theorem dX10_put_89 : decode cX10_put 89 = .ok (.imul, 1) := by decide +kernel
theorem dX10_put_90 : decode cX10_put 90 = .ok (.goto 4, 3) := by decide +kernel
theorem dX10_put_58 : decode cX10_put 58 = .ok (.ifCond .eq 13, 3) := by decide +kernel
theorem dX10_put_71 : decode cX10_put 71 = .ok (.iconst 0, 1) := by decide +kernel
theorem dX10_put_61 : decode cX10_put 61 = .ok (.getstatic 55, 3) := by decide +kernel
theorem dX10_put_64 : decode cX10_put 64 = .ok (.iload_n 2, 1) := by decide +kernel
theorem dX10_put_65 : decode cX10_put 65 = .ok (.iaload, 1) := by decide +kernel
theorem dX10_put_66 : decode cX10_put 66 = .ok (.iload_n 3, 1) := by decide +kernel
theorem dX10_put_67 : decode cX10_put 67 = .ok (.imul, 1) := by decide +kernel
theorem dX10_put_68 : decode cX10_put 68 = .ok (.goto 4, 3) := by decide +kernel
theorem dX10_put_42 : decode cX10_put 42 = .ok (.ifCond .eq 7, 3) := by decide +kernel
theorem dX10_put_49 : decode cX10_put 49 = .ok (.iconst 0, 1) := by decide +kernel
theorem dX10_put_45 : decode cX10_put 45 = .ok (.iload_n 3, 1) := by decide +kernel
theorem dX10_put_46 : decode cX10_put 46 = .ok (.goto 4, 3) := by decide +kernel
theorem dX10_put_26 : decode cX10_put 26 = .ok (.ifCond .eq 7, 3) := by decide +kernel
theorem dX10_put_33 : decode cX10_put 33 = .ok (.iconst (-1), 1) := by decide +kernel
theorem dX10_put_29 : decode cX10_put 29 = .ok (.iload_n 2, 1) := by decide +kernel
theorem dX10_put_30 : decode cX10_put 30 = .ok (.goto 4, 3) := by decide +kernel
theorem dX10_put_16 : decode cX10_put 16 = .ok (.iconst 0, 1) := by decide +kernel
theorem dX10_put_1 : decode cX10_put 1 = .ok (.ifCond .lt 15, 3) := by decide +kernel
theorem dX10_put_4 : decode cX10_put 4 = .ok (.iload_n 2, 1) := by decide +kernel
theorem dX10_put_5 : decode cX10_put 5 = .ok (.getstatic 55, 3) := by decide +kernel
theorem dX10_put_8 : decode cX10_put 8 = .ok (.arraylength, 1) := by decide +kernel
theorem dX10_put_9 : decode cX10_put 9 = .ok (.if_icmp .ge 7, 3) := by decide +kernel
theorem dX10_put_12 : decode cX10_put 12 = .ok (.iconst 1, 1) := by decide +kernel
theorem dX10_put_13 : decode cX10_put 13 = .ok (.goto 4, 3) := by decide +kernel
theorem dX10_read_0 : decode cX10_read 0 = .ok (.iconst 0, 1) := by decide +kernel
theorem dX10_read_1 : decode cX10_read 1 = .ok (.istore_n 2, 1) := by decide +kernel
theorem dX10_read_2 : decode cX10_read 2 = .ok (.iload_n 2, 1) := by decide +kernel
theorem dX10_read_3 : decode cX10_read 3 = .ok (.bipush 10, 2) := by decide +kernel
theorem dX10_read_5 : decode cX10_read 5 = .ok (.if_icmp .ge 33, 3) := by decide +kernel
theorem dX10_read_8 : decode cX10_read 8 = .ok (.iload_n 2, 1) := by decide +kernel
theorem dX10_read_21 : decode cX10_read 21 = .ok (.aload_n 0, 1) := by decide +kernel
theorem dX10_read_22 : decode cX10_read 22 = .ok (.aload_n 1, 1) := by decide +kernel
theorem dX10_read_23 : decode cX10_read 23 = .ok (.iload_n 2, 1) := by decide +kernel
theorem dX10_read_24 : decode cX10_read 24 = .ok (.invokevirtual 39, 3) := by decide +kernel
theorem dX10_read_27 : decode cX10_read 27 = .ok (.ifCond .ne 5, 3) := by decide +kernel
theorem dX10_read_32 : decode cX10_read 32 = .ok (.iinc 2 1, 3) := by decide +kernel
theorem dX10_read_35 : decode cX10_read 35 = .ok (.goto (-33), 3) := by decide +kernel
theorem dX10_read_30 : decode cX10_read 30 = .ok (.iconst 0, 1) := by decide +kernel
theorem dX10_read_31 : decode cX10_read 31 = .ok (.ireturn, 1) := by decide +kernel
theorem dX10_read_9 : decode cX10_read 9 = .ok (.ifCond .le 12, 3) := by decide +kernel
theorem dX10_read_12 : decode cX10_read 12 = .ok (.aload_n 1, 1) := by decide +kernel
theorem dX10_read_13 : decode cX10_read 13 = .ok (.bipush 47, 2) := by decide +kernel
theorem dX10_read_15 : decode cX10_read 15 = .ok (.invokevirtual 33, 3) := by decide +kernel
theorem dX10_read_18 : decode cX10_read 18 = .ok (.ifCond .eq 12, 3) := by decide +kernel
theorem dX10_read_38 : decode cX10_read 38 = .ok (.aload_n 1, 1) := by decide +kernel
theorem dX10_read_39 : decode cX10_read 39 = .ok (.invokevirtual 43, 3) := by decide +kernel
theorem dX10_read_42 : decode cX10_read 42 = .ok (.ifCond .ne 5, 3) := by decide +kernel
theorem dX10_read_47 : decode cX10_read 47 = .ok (.iconst 0, 1) := by decide +kernel
theorem dX10_read_48 : decode cX10_read 48 = .ok (.istore_n 2, 1) := by decide +kernel
theorem dX10_read_49 : decode cX10_read 49 = .ok (.iload_n 2, 1) := by decide +kernel
theorem dX10_read_50 : decode cX10_read 50 = .ok (.bipush 10, 2) := by decide +kernel
theorem dX10_read_52 : decode cX10_read 52 = .ok (.if_icmp .ge 32, 3) := by decide +kernel
theorem dX10_read_55 : decode cX10_read 55 = .ok (.aload_n 0, 1) := by decide +kernel
theorem dX10_read_56 : decode cX10_read 56 = .ok (.iload_n 2, 1) := by decide +kernel
theorem dX10_read_57 : decode cX10_read 57 = .ok (.aload_n 0, 1) := by decide +kernel
theorem dX10_read_58 : decode cX10_read 58 = .ok (.getfield 24, 3) := by decide +kernel
theorem dX10_read_61 : decode cX10_read 61 = .ok (.iconst 2, 1) := by decide +kernel
theorem dX10_read_62 : decode cX10_read 62 = .ok (.iload_n 2, 1) := by decide +kernel
theorem dX10_read_63 : decode cX10_read 63 = .ok (.imul, 1) := by decide +kernel
theorem dX10_read_64 : decode cX10_read 64 = .ok (.iaload, 1) := by decide +kernel
theorem dX10_read_65 : decode cX10_read 65 = .ok (.aload_n 0, 1) := by decide +kernel
theorem dX10_read_66 : decode cX10_read 66 = .ok (.getfield 24, 3) := by decide +kernel
theorem dX10_read_69 : decode cX10_read 69 = .ok (.iconst 2, 1) := by decide +kernel
theorem dX10_read_70 : decode cX10_read 70 = .ok (.iload_n 2, 1) := by decide +kernel
theorem dX10_read_71 : decode cX10_read 71 = .ok (.imul, 1) := by decide +kernel
theorem dX10_read_72 : decode cX10_read 72 = .ok (.iconst 1, 1) := by decide +kernel
theorem dX10_read_73 : decode cX10_read 73 = .ok (.iadd, 1) := by decide +kernel
theorem dX10_read_74 : decode cX10_read 74 = .ok (.iaload, 1) := by decide +kernel
theorem dX10_read_75 : decode cX10_read 75 = .ok (.invokevirtual 47, 3) := by decide +kernel
theorem dX10_read_78 : decode cX10_read 78 = .ok (.iinc 2 1, 3) := by decide +kernel
theorem dX10_read_81 : decode cX10_read 81 = .ok (.goto (-32), 3) := by decide +kernel
theorem dX10_read_84 : decode cX10_read 84 = .ok (.iconst 1, 1) := by decide +kernel
theorem dX10_read_85 : decode cX10_read 85 = .ok (.ireturn, 1) := by decide +kernel
theorem dX10_read_45 : decode cX10_read 45 = .ok (.iconst 0, 1) := by decide +kernel
theorem dX10_read_46 : decode cX10_read 46 = .ok (.ireturn, 1) := by decide +kernel
theorem dX10_blowing_0 : decode cX10_blowing 0 = .ok (.iconst 0, 1) := by decide +kernel
theorem dX10_blowing_1 : decode cX10_blowing 1 = .ok (.istore_n 1, 1) := by decide +kernel
theorem dX10_blowing_2 : decode cX10_blowing 2 = .ok (.iconst 0, 1) := by decide +kernel
theorem dX10_blowing_3 : decode cX10_blowing 3 = .ok (.istore_n 2, 1) := by decide +kernel
theorem dX10_blowing_4 : decode cX10_blowing 4 = .ok (.iload_n 2, 1) := by decide +kernel
theorem dX10_blowing_5 : decode cX10_blowing 5 = .ok (.bipush 10, 2) := by decide +kernel
theorem dX10_blowing_7 : decode cX10_blowing 7 = .ok (.if_icmp .ge 26, 3) := by decide +kernel
theorem dX10_blowing_10 : decode cX10_blowing 10 = .ok (.iload_n 1, 1) := by decide +kernel
theorem dX10_blowing_11 : decode cX10_blowing 11 = .ok (.aload_n 0, 1) := by decide +kernel
theorem dX10_blowing_12 : decode cX10_blowing 12 = .ok (.getfield 15, 3) := by decide +kernel
theorem dX10_blowing_15 : decode cX10_blowing 15 = .ok (.iload_n 2, 1) := by decide +kernel
theorem dX10_blowing_16 : decode cX10_blowing 16 = .ok (.iaload, 1) := by decide +kernel
theorem dX10_blowing_25 : decode cX10_blowing 25 = .ok (.iadd, 1) := by decide +kernel
theorem dX10_blowing_26 : decode cX10_blowing 26 = .ok (.istore_n 1, 1) := by decide +kernel
theorem dX10_blowing_27 : decode cX10_blowing 27 = .ok (.iinc 2 1, 3) := by decide +kernel
theorem dX10_blowing_30 : decode cX10_blowing 30 = .ok (.goto (-26), 3) := by decide +kernel
theorem dX10_blowing_17 : decode cX10_blowing 17 = .ok (.ifCond .le 7, 3) := by decide +kernel
theorem dX10_blowing_24 : decode cX10_blowing 24 = .ok (.iconst 0, 1) := by decide +kernel
theorem dX10_blowing_20 : decode cX10_blowing 20 = .ok (.iconst 1, 1) := by decide +kernel
theorem dX10_blowing_21 : decode cX10_blowing 21 = .ok (.goto 4, 3) := by decide +kernel
theorem dX10_blowing_33 : decode cX10_blowing 33 = .ok (.iload_n 1, 1) := by decide +kernel
theorem dX10_blowing_34 : decode cX10_blowing 34 = .ok (.ireturn, 1) := by decide +kernel
theorem dX11_sign_0 : decode cX11_sign 0 = .ok (.aload_n 0, 1) := by decide +kernel
theorem dX11_sign_1 : decode cX11_sign 1 = .ok (.getfield 10, 3) := by decide +kernel
theorem dX11_sign_4 : decode cX11_sign 4 = .ok (.getfield 95, 3) := by decide +kernel
theorem dX11_sign_7 : decode cX11_sign 7 = .ok (.iconst 4, 1) := by decide +kernel
theorem dX11_sign_8 : decode cX11_sign 8 = .ok (.iadd, 1) := by decide +kernel
theorem dX11_sign_9 : decode cX11_sign 9 = .ok (.bipush 80, 2) := by decide +kernel
theorem dX11_sign_11 : decode cX11_sign 11 = .ok (.if_icmp .le 5, 3) := by decide +kernel
theorem dX11_sign_16 : decode cX11_sign 16 = .ok (.bipush 24, 2) := by decide +kernel
theorem dX11_sign_18 : decode cX11_sign 18 = .ok (.istore_n 2, 1) := by decide +kernel
theorem dX11_sign_19 : decode cX11_sign 19 = .ok (.iload_n 2, 1) := by decide +kernel
theorem dX11_sign_20 : decode cX11_sign 20 = .ok (.ifCond .lt 24, 3) := by decide +kernel
theorem dX11_sign_23 : decode cX11_sign 23 = .ok (.aload_n 0, 1) := by decide +kernel
theorem dX11_sign_24 : decode cX11_sign 24 = .ok (.getfield 10, 3) := by decide +kernel
theorem dX11_sign_27 : decode cX11_sign 27 = .ok (.iload_n 1, 1) := by decide +kernel
theorem dX11_sign_28 : decode cX11_sign 28 = .ok (.iload_n 2, 1) := by decide +kernel
theorem dX11_sign_29 : decode cX11_sign 29 = .ok (.iushr, 1) := by decide +kernel
theorem dX11_sign_30 : decode cX11_sign 30 = .ok (.sipush 255, 3) := by decide +kernel
theorem dX11_sign_33 : decode cX11_sign 33 = .ok (.iand, 1) := by decide +kernel
theorem dX11_sign_34 : decode cX11_sign 34 = .ok (.i2c, 1) := by decide +kernel
theorem dX11_sign_35 : decode cX11_sign 35 = .ok (.invokevirtual 99, 3) := by decide +kernel
theorem dX11_sign_38 : decode cX11_sign 38 = .ok (.iinc 2 (-8), 3) := by decide +kernel
theorem dX11_sign_41 : decode cX11_sign 41 = .ok (.goto (-22), 3) := by decide +kernel
theorem dX11_sign_44 : decode cX11_sign 44 = .ok (.aload_n 0, 1) := by decide +kernel
theorem dX11_sign_45 : decode cX11_sign 45 = .ok (.getfield 10, 3) := by decide +kernel
theorem dX11_sign_48 : decode cX11_sign 48 = .ok (.getfield 95, 3) := by decide +kernel
theorem dX11_sign_51 : decode cX11_sign 51 = .ok (.ireturn, 1) := by decide +kernel
theorem dX11_sign_14 : decode cX11_sign 14 = .ok (.iconst (-1), 1) := by decide +kernel
theorem dX11_sign_15 : decode cX11_sign 15 = .ok (.ireturn, 1) := by decide +kernel
theorem dX11_end_0 : decode cX11_end 0 = .ok (.iload_n 1, 1) := by decide +kernel
theorem dX11_end_1 : decode cX11_end 1 = .ok (.ifCond .lt 14, 3) := by decide +kernel
theorem dX11_end_15 : decode cX11_end 15 = .ok (.iconst 0, 1) := by decide +kernel
theorem dX11_end_16 : decode cX11_end 16 = .ok (.ireturn, 1) := by decide +kernel
theorem dX11_end_4 : decode cX11_end 4 = .ok (.iload_n 1, 1) := by decide +kernel
theorem dX11_end_5 : decode cX11_end 5 = .ok (.aload_n 0, 1) := by decide +kernel
theorem dX11_end_6 : decode cX11_end 6 = .ok (.getfield 10, 3) := by decide +kernel
theorem dX11_end_9 : decode cX11_end 9 = .ok (.getfield 95, 3) := by decide +kernel
theorem dX11_end_12 : decode cX11_end 12 = .ok (.if_icmp .le 5, 3) := by decide +kernel
theorem dX11_end_17 : decode cX11_end 17 = .ok (.aload_n 0, 1) := by decide +kernel
theorem dX11_end_18 : decode cX11_end 18 = .ok (.getfield 10, 3) := by decide +kernel
theorem dX11_end_21 : decode cX11_end 21 = .ok (.iload_n 1, 1) := by decide +kernel
theorem dX11_end_22 : decode cX11_end 22 = .ok (.putfield 95, 3) := by decide +kernel
theorem dX11_end_25 : decode cX11_end 25 = .ok (.iconst 1, 1) := by decide +kernel
theorem dX11_end_26 : decode cX11_end 26 = .ok (.ireturn, 1) := by decide +kernel
theorem dX11_tower_0 : decode cX11_tower 0 = .ok (.aload_n 0, 1) := by decide +kernel
theorem dX11_tower_1 : decode cX11_tower 1 = .ok (.getfield 10, 3) := by decide +kernel
theorem dX11_tower_4 : decode cX11_tower 4 = .ok (.bipush 23, 2) := by decide +kernel
theorem dX11_tower_6 : decode cX11_tower 6 = .ok (.invokevirtual 103, 3) := by decide +kernel
theorem dX11_tower_9 : decode cX11_tower 9 = .ok (.aload_n 0, 1) := by decide +kernel
theorem dX11_tower_10 : decode cX11_tower 10 = .ok (.getfield 19, 3) := by decide +kernel
theorem dX11_tower_13 : decode cX11_tower 13 = .ok (.aload_n 0, 1) := by decide +kernel
theorem dX11_tower_14 : decode cX11_tower 14 = .ok (.getfield 10, 3) := by decide +kernel
theorem dX11_tower_17 : decode cX11_tower 17 = .ok (.invokevirtual 107, 3) := by decide +kernel
theorem dX11_tower_20 : decode cX11_tower 20 = .ok (.istore_n 1, 1) := by decide +kernel
theorem dX11_tower_21 : decode cX11_tower 21 = .ok (.aload_n 0, 1) := by decide +kernel
theorem dX11_tower_22 : decode cX11_tower 22 = .ok (.getfield 10, 3) := by decide +kernel
theorem dX11_tower_25 : decode cX11_tower 25 = .ok (.invokevirtual 111, 3) := by decide +kernel
theorem dX11_tower_28 : decode cX11_tower 28 = .ok (.iload_n 1, 1) := by decide +kernel
theorem dX11_tower_29 : decode cX11_tower 29 = .ok (.ifCond .ge 11, 3) := by decide +kernel
theorem dX11_tower_40 : decode cX11_tower 40 = .ok (.aload_n 0, 1) := by decide +kernel
theorem dX11_tower_41 : decode cX11_tower 41 = .ok (.getfield 42, 3) := by decide +kernel
theorem dX11_tower_44 : decode cX11_tower 44 = .ok (.invokevirtual 118, 3) := by decide +kernel
theorem dX11_tower_47 : decode cX11_tower 47 = .ok (.aload_n 0, 1) := by decide +kernel
theorem dX11_tower_48 : decode cX11_tower 48 = .ok (.getfield 66, 3) := by decide +kernel
theorem dX11_tower_51 : decode cX11_tower 51 = .ok (.iconst 0, 1) := by decide +kernel
theorem dX11_tower_52 : decode cX11_tower 52 = .ok (.putfield 121, 3) := by decide +kernel
theorem dX11_tower_55 : decode cX11_tower 55 = .ok (.aload_n 0, 1) := by decide +kernel
theorem dX11_tower_56 : decode cX11_tower 56 = .ok (.getfield 52, 3) := by decide +kernel
theorem dX11_tower_59 : decode cX11_tower 59 = .ok (.invokevirtual 122, 3) := by decide +kernel
theorem dX11_tower_62 : decode cX11_tower 62 = .ok (.aload_n 0, 1) := by decide +kernel
theorem dX11_tower_63 : decode cX11_tower 63 = .ok (.getfield 52, 3) := by decide +kernel
theorem dX11_tower_66 : decode cX11_tower 66 = .ok (.invokevirtual 125, 3) := by decide +kernel
theorem dX11_tower_69 : decode cX11_tower 69 = .ok (.iload_n 1, 1) := by decide +kernel
theorem dX11_tower_70 : decode cX11_tower 70 = .ok (.ireturn, 1) := by decide +kernel
theorem dX11_tower_32 : decode cX11_tower 32 = .ok (.aload_n 0, 1) := by decide +kernel
theorem dX11_tower_33 : decode cX11_tower 33 = .ok (.getfield 10, 3) := by decide +kernel
theorem dX11_tower_36 : decode cX11_tower 36 = .ok (.invokevirtual 114, 3) := by decide +kernel
theorem dX11_tower_39 : decode cX11_tower 39 = .ok (.ireturn, 1) := by decide +kernel
theorem dX11_balloons_0 : decode cX11_balloons 0 = .ok (.aload_n 0, 1) := by decide +kernel
theorem dX11_balloons_1 : decode cX11_balloons 1 = .ok (.getfield 10, 3) := by decide +kernel
theorem dX11_balloons_4 : decode cX11_balloons 4 = .ok (.bipush 47, 2) := by decide +kernel
theorem dX11_balloons_6 : decode cX11_balloons 6 = .ok (.invokevirtual 103, 3) := by decide +kernel
theorem dX11_balloons_9 : decode cX11_balloons 9 = .ok (.aload_n 0, 1) := by decide +kernel
theorem dX11_balloons_10 : decode cX11_balloons 10 = .ok (.getfield 42, 3) := by decide +kernel
theorem dX11_balloons_13 : decode cX11_balloons 13 = .ok (.aload_n 0, 1) := by decide +kernel
theorem dX11_balloons_14 : decode cX11_balloons 14 = .ok (.getfield 10, 3) := by decide +kernel
theorem dX11_balloons_17 : decode cX11_balloons 17 = .ok (.invokevirtual 128, 3) := by decide +kernel
theorem dX11_balloons_20 : decode cX11_balloons 20 = .ok (.istore_n 1, 1) := by decide +kernel
theorem dX11_balloons_21 : decode cX11_balloons 21 = .ok (.aload_n 0, 1) := by decide +kernel
theorem dX11_balloons_22 : decode cX11_balloons 22 = .ok (.getfield 10, 3) := by decide +kernel
theorem dX11_balloons_25 : decode cX11_balloons 25 = .ok (.invokevirtual 111, 3) := by decide +kernel
theorem dX11_balloons_28 : decode cX11_balloons 28 = .ok (.iload_n 1, 1) := by decide +kernel
theorem dX11_balloons_29 : decode cX11_balloons 29 = .ok (.ifCond .ge 11, 3) := by decide +kernel
theorem dX11_balloons_40 : decode cX11_balloons 40 = .ok (.iload_n 1, 1) := by decide +kernel
theorem dX11_balloons_41 : decode cX11_balloons 41 = .ok (.ifCond .le 17, 3) := by decide +kernel
theorem dX11_balloons_58 : decode cX11_balloons 58 = .ok (.iload_n 1, 1) := by decide +kernel
theorem dX11_balloons_59 : decode cX11_balloons 59 = .ok (.ireturn, 1) := by decide +kernel
theorem dX11_balloons_44 : decode cX11_balloons 44 = .ok (.aload_n 0, 1) := by decide +kernel
theorem dX11_balloons_45 : decode cX11_balloons 45 = .ok (.getfield 52, 3) := by decide +kernel
theorem dX11_balloons_48 : decode cX11_balloons 48 = .ok (.invokevirtual 122, 3) := by decide +kernel
theorem dX11_balloons_51 : decode cX11_balloons 51 = .ok (.aload_n 0, 1) := by decide +kernel
theorem dX11_balloons_52 : decode cX11_balloons 52 = .ok (.getfield 52, 3) := by decide +kernel
theorem dX11_balloons_55 : decode cX11_balloons 55 = .ok (.invokevirtual 125, 3) := by decide +kernel
theorem dX11_balloons_32 : decode cX11_balloons 32 = .ok (.aload_n 0, 1) := by decide +kernel
theorem dX11_balloons_33 : decode cX11_balloons 33 = .ok (.getfield 10, 3) := by decide +kernel
theorem dX11_balloons_36 : decode cX11_balloons 36 = .ok (.invokevirtual 114, 3) := by decide +kernel
theorem dX11_balloons_39 : decode cX11_balloons 39 = .ok (.ireturn, 1) := by decide +kernel
theorem dX11_winds_0 : decode cX11_winds 0 = .ok (.aload_n 0, 1) := by decide +kernel
theorem dX11_winds_1 : decode cX11_winds 1 = .ok (.getfield 10, 3) := by decide +kernel
theorem dX11_winds_4 : decode cX11_winds 4 = .ok (.bipush 29, 2) := by decide +kernel
theorem dX11_winds_6 : decode cX11_winds 6 = .ok (.invokevirtual 103, 3) := by decide +kernel
theorem dX11_winds_9 : decode cX11_winds 9 = .ok (.aload_n 0, 1) := by decide +kernel
theorem dX11_winds_10 : decode cX11_winds 10 = .ok (.getfield 26, 3) := by decide +kernel
theorem dX11_winds_13 : decode cX11_winds 13 = .ok (.aload_n 0, 1) := by decide +kernel
theorem dX11_winds_14 : decode cX11_winds 14 = .ok (.getfield 10, 3) := by decide +kernel
theorem dX11_winds_17 : decode cX11_winds 17 = .ok (.invokevirtual 129, 3) := by decide +kernel
theorem dX11_winds_20 : decode cX11_winds 20 = .ok (.istore_n 1, 1) := by decide +kernel
theorem dX11_winds_21 : decode cX11_winds 21 = .ok (.aload_n 0, 1) := by decide +kernel
theorem dX11_winds_22 : decode cX11_winds 22 = .ok (.getfield 10, 3) := by decide +kernel
theorem dX11_winds_25 : decode cX11_winds 25 = .ok (.invokevirtual 111, 3) := by decide +kernel
theorem dX11_winds_28 : decode cX11_winds 28 = .ok (.iload_n 1, 1) := by decide +kernel
theorem dX11_winds_29 : decode cX11_winds 29 = .ok (.ifCond .eq 13, 3) := by decide +kernel
theorem dX11_winds_42 : decode cX11_winds 42 = .ok (.aload_n 0, 1) := by decide +kernel
theorem dX11_winds_43 : decode cX11_winds 43 = .ok (.getfield 10, 3) := by decide +kernel
theorem dX11_winds_46 : decode cX11_winds 46 = .ok (.invokevirtual 114, 3) := by decide +kernel
theorem dX11_winds_49 : decode cX11_winds 49 = .ok (.ireturn, 1) := by decide +kernel
theorem dX11_winds_32 : decode cX11_winds 32 = .ok (.aload_n 0, 1) := by decide +kernel
theorem dX11_winds_33 : decode cX11_winds 33 = .ok (.getfield 26, 3) := by decide +kernel
theorem dX11_winds_36 : decode cX11_winds 36 = .ok (.invokevirtual 132, 3) := by decide +kernel
theorem dX11_winds_39 : decode cX11_winds 39 = .ok (.goto 10, 3) := by decide +kernel
theorem dX11_rule_0 : decode cX11_rule 0 = .ok (.aload_n 0, 1) := by decide +kernel
theorem dX11_rule_1 : decode cX11_rule 1 = .ok (.getfield 10, 3) := by decide +kernel
theorem dX11_rule_4 : decode cX11_rule 4 = .ok (.bipush 40, 2) := by decide +kernel
theorem dX11_rule_6 : decode cX11_rule 6 = .ok (.invokevirtual 103, 3) := by decide +kernel
theorem dX11_rule_9 : decode cX11_rule 9 = .ok (.aload_n 0, 1) := by decide +kernel
theorem dX11_rule_10 : decode cX11_rule 10 = .ok (.getfield 33, 3) := by decide +kernel
theorem dX11_rule_13 : decode cX11_rule 13 = .ok (.aload_n 0, 1) := by decide +kernel
theorem dX11_rule_14 : decode cX11_rule 14 = .ok (.getfield 10, 3) := by decide +kernel
theorem dX11_rule_17 : decode cX11_rule 17 = .ok (.invokevirtual 135, 3) := by decide +kernel
theorem dX11_rule_20 : decode cX11_rule 20 = .ok (.istore_n 1, 1) := by decide +kernel
theorem dX11_rule_21 : decode cX11_rule 21 = .ok (.aload_n 0, 1) := by decide +kernel
theorem dX11_rule_22 : decode cX11_rule 22 = .ok (.getfield 10, 3) := by decide +kernel
theorem dX11_rule_25 : decode cX11_rule 25 = .ok (.invokevirtual 111, 3) := by decide +kernel
theorem dX11_rule_28 : decode cX11_rule 28 = .ok (.iload_n 1, 1) := by decide +kernel
theorem dX11_rule_29 : decode cX11_rule 29 = .ok (.ifCond .eq 7, 3) := by decide +kernel
theorem dX11_rule_36 : decode cX11_rule 36 = .ok (.aload_n 0, 1) := by decide +kernel
theorem dX11_rule_37 : decode cX11_rule 37 = .ok (.getfield 10, 3) := by decide +kernel
theorem dX11_rule_40 : decode cX11_rule 40 = .ok (.invokevirtual 114, 3) := by decide +kernel
theorem dX11_rule_43 : decode cX11_rule 43 = .ok (.ireturn, 1) := by decide +kernel
theorem dX11_rule_32 : decode cX11_rule 32 = .ok (.iconst 0, 1) := by decide +kernel
theorem dX11_rule_33 : decode cX11_rule 33 = .ok (.goto 10, 3) := by decide +kernel
theorem dX11_ring_0 : decode cX11_ring 0 = .ok (.aload_n 0, 1) := by decide +kernel
theorem dX11_ring_1 : decode cX11_ring 1 = .ok (.getfield 19, 3) := by decide +kernel
theorem dX11_ring_4 : decode cX11_ring 4 = .ok (.iload_n 1, 1) := by decide +kernel
theorem dX11_ring_5 : decode cX11_ring 5 = .ok (.invokevirtual 136, 3) := by decide +kernel
theorem dX11_ring_8 : decode cX11_ring 8 = .ok (.ifCond .ne 11, 3) := by decide +kernel
theorem dX11_ring_19 : decode cX11_ring 19 = .ok (.aload_n 0, 1) := by decide +kernel
theorem dX11_ring_20 : decode cX11_ring 20 = .ok (.getfield 19, 3) := by decide +kernel
theorem dX11_ring_23 : decode cX11_ring 23 = .ok (.getfield 143, 3) := by decide +kernel
theorem dX11_ring_26 : decode cX11_ring 26 = .ok (.iload_n 1, 1) := by decide +kernel
theorem dX11_ring_27 : decode cX11_ring 27 = .ok (.iaload, 1) := by decide +kernel
theorem dX11_ring_28 : decode cX11_ring 28 = .ok (.istore_n 3, 1) := by decide +kernel
theorem dX11_ring_29 : decode cX11_ring 29 = .ok (.iload_n 2, 1) := by decide +kernel
theorem dX11_ring_30 : decode cX11_ring 30 = .ok (.tableswitch 75 0 4 #[34, 36, 46, 55, 65], 34) := by decide +kernel
theorem dX11_ring_64 : decode cX11_ring 64 = .ok (.iload_n 3, 1) := by decide +kernel
theorem dX11_ring_65 : decode cX11_ring 65 = .ok (.ireturn, 1) := by decide +kernel
theorem dX11_ring_66 : decode cX11_ring 66 = .ok (.aload_n 0, 1) := by decide +kernel
theorem dX11_ring_67 : decode cX11_ring 67 = .ok (.getfield 19, 3) := by decide +kernel
theorem dX11_ring_70 : decode cX11_ring 70 = .ok (.getfield 147, 3) := by decide +kernel
theorem dX11_ring_73 : decode cX11_ring 73 = .ok (.iload_n 1, 1) := by decide +kernel
theorem dX11_ring_74 : decode cX11_ring 74 = .ok (.iaload, 1) := by decide +kernel
theorem dX11_ring_75 : decode cX11_ring 75 = .ok (.ireturn, 1) := by decide +kernel
theorem dX11_ring_76 : decode cX11_ring 76 = .ok (.aload_n 0, 1) := by decide +kernel
theorem dX11_ring_77 : decode cX11_ring 77 = .ok (.getfield 42, 3) := by decide +kernel
theorem dX11_ring_80 : decode cX11_ring 80 = .ok (.iload_n 1, 1) := by decide +kernel
theorem dX11_ring_81 : decode cX11_ring 81 = .ok (.invokevirtual 150, 3) := by decide +kernel
theorem dX11_ring_84 : decode cX11_ring 84 = .ok (.ireturn, 1) := by decide +kernel
theorem dX11_ring_85 : decode cX11_ring 85 = .ok (.aload_n 0, 1) := by decide +kernel
theorem dX11_ring_86 : decode cX11_ring 86 = .ok (.getfield 26, 3) := by decide +kernel
theorem dX11_ring_89 : decode cX11_ring 89 = .ok (.getfield 154, 3) := by decide +kernel
theorem dX11_ring_92 : decode cX11_ring 92 = .ok (.iload_n 3, 1) := by decide +kernel
theorem dX11_ring_93 : decode cX11_ring 93 = .ok (.iaload, 1) := by decide +kernel
theorem dX11_ring_94 : decode cX11_ring 94 = .ok (.ireturn, 1) := by decide +kernel
theorem dX11_ring_95 : decode cX11_ring 95 = .ok (.aload_n 0, 1) := by decide +kernel
theorem dX11_ring_96 : decode cX11_ring 96 = .ok (.getfield 26, 3) := by decide +kernel
theorem dX11_ring_99 : decode cX11_ring 99 = .ok (.getfield 157, 3) := by decide +kernel
theorem dX11_ring_102 : decode cX11_ring 102 = .ok (.iload_n 3, 1) := by decide +kernel
theorem dX11_ring_103 : decode cX11_ring 103 = .ok (.iaload, 1) := by decide +kernel
theorem dX11_ring_104 : decode cX11_ring 104 = .ok (.ireturn, 1) := by decide +kernel
theorem dX11_ring_105 : decode cX11_ring 105 = .ok (.new 140, 3) := by decide +kernel
theorem dX11_ring_108 : decode cX11_ring 108 = .ok (.dup, 1) := by decide +kernel
theorem dX11_ring_109 : decode cX11_ring 109 = .ok (.invokespecial 142, 3) := by decide +kernel
theorem dX11_ring_112 : decode cX11_ring 112 = .ok (.athrow, 1) := by decide +kernel
theorem dX11_ring_11 : decode cX11_ring 11 = .ok (.new 140, 3) := by decide +kernel
theorem dX11_ring_14 : decode cX11_ring 14 = .ok (.dup, 1) := by decide +kernel
theorem dX11_ring_15 : decode cX11_ring 15 = .ok (.invokespecial 142, 3) := by decide +kernel
theorem dX11_ring_18 : decode cX11_ring 18 = .ok (.athrow, 1) := by decide +kernel
theorem dX11_balloon_0 : decode cX11_balloon 0 = .ok (.aload_n 0, 1) := by decide +kernel
theorem dX11_balloon_1 : decode cX11_balloon 1 = .ok (.getfield 42, 3) := by decide +kernel
theorem dX11_balloon_4 : decode cX11_balloon 4 = .ok (.iload_n 1, 1) := by decide +kernel
theorem dX11_balloon_5 : decode cX11_balloon 5 = .ok (.invokevirtual 160, 3) := by decide +kernel
theorem dX11_balloon_8 : decode cX11_balloon 8 = .ok (.ifCond .ne 11, 3) := by decide +kernel
theorem dX11_balloon_19 : decode cX11_balloon 19 = .ok (.iload_n 2, 1) := by decide +kernel
theorem dX11_balloon_20 : decode cX11_balloon 20 = .ok (.tableswitch 155 0 9 #[56, 66, 76, 86, 96, 106, 115, 127, 137, 146], 56) := by decide +kernel
theorem dX11_balloon_76 : decode cX11_balloon 76 = .ok (.aload_n 0, 1) := by decide +kernel
theorem dX11_balloon_77 : decode cX11_balloon 77 = .ok (.getfield 42, 3) := by decide +kernel
theorem dX11_balloon_80 : decode cX11_balloon 80 = .ok (.getfield 161, 3) := by decide +kernel
theorem dX11_balloon_83 : decode cX11_balloon 83 = .ok (.iload_n 1, 1) := by decide +kernel
theorem dX11_balloon_84 : decode cX11_balloon 84 = .ok (.iaload, 1) := by decide +kernel
theorem dX11_balloon_85 : decode cX11_balloon 85 = .ok (.ireturn, 1) := by decide +kernel
theorem dX11_balloon_86 : decode cX11_balloon 86 = .ok (.aload_n 0, 1) := by decide +kernel
theorem dX11_balloon_87 : decode cX11_balloon 87 = .ok (.getfield 42, 3) := by decide +kernel
theorem dX11_balloon_90 : decode cX11_balloon 90 = .ok (.getfield 164, 3) := by decide +kernel
theorem dX11_balloon_93 : decode cX11_balloon 93 = .ok (.iload_n 1, 1) := by decide +kernel
theorem dX11_balloon_94 : decode cX11_balloon 94 = .ok (.iaload, 1) := by decide +kernel
theorem dX11_balloon_95 : decode cX11_balloon 95 = .ok (.ireturn, 1) := by decide +kernel
theorem dX11_balloon_96 : decode cX11_balloon 96 = .ok (.aload_n 0, 1) := by decide +kernel
theorem dX11_balloon_97 : decode cX11_balloon 97 = .ok (.getfield 42, 3) := by decide +kernel
theorem dX11_balloon_100 : decode cX11_balloon 100 = .ok (.getfield 167, 3) := by decide +kernel
theorem dX11_balloon_103 : decode cX11_balloon 103 = .ok (.iload_n 1, 1) := by decide +kernel
theorem dX11_balloon_104 : decode cX11_balloon 104 = .ok (.iaload, 1) := by decide +kernel
theorem dX11_balloon_105 : decode cX11_balloon 105 = .ok (.ireturn, 1) := by decide +kernel
theorem dX11_balloon_106 : decode cX11_balloon 106 = .ok (.aload_n 0, 1) := by decide +kernel
theorem dX11_balloon_107 : decode cX11_balloon 107 = .ok (.getfield 42, 3) := by decide +kernel
theorem dX11_balloon_110 : decode cX11_balloon 110 = .ok (.getfield 170, 3) := by decide +kernel
theorem dX11_balloon_113 : decode cX11_balloon 113 = .ok (.iload_n 1, 1) := by decide +kernel
theorem dX11_balloon_114 : decode cX11_balloon 114 = .ok (.iaload, 1) := by decide +kernel
theorem dX11_balloon_115 : decode cX11_balloon 115 = .ok (.ireturn, 1) := by decide +kernel
theorem dX11_balloon_116 : decode cX11_balloon 116 = .ok (.aload_n 0, 1) := by decide +kernel
theorem dX11_balloon_117 : decode cX11_balloon 117 = .ok (.getfield 42, 3) := by decide +kernel
theorem dX11_balloon_120 : decode cX11_balloon 120 = .ok (.getfield 173, 3) := by decide +kernel
theorem dX11_balloon_123 : decode cX11_balloon 123 = .ok (.iload_n 1, 1) := by decide +kernel
theorem dX11_balloon_124 : decode cX11_balloon 124 = .ok (.iaload, 1) := by decide +kernel
theorem dX11_balloon_125 : decode cX11_balloon 125 = .ok (.ireturn, 1) := by decide +kernel
theorem dX11_balloon_126 : decode cX11_balloon 126 = .ok (.aload_n 0, 1) := by decide +kernel
theorem dX11_balloon_127 : decode cX11_balloon 127 = .ok (.getfield 42, 3) := by decide +kernel
theorem dX11_balloon_130 : decode cX11_balloon 130 = .ok (.iload_n 1, 1) := by decide +kernel
theorem dX11_balloon_131 : decode cX11_balloon 131 = .ok (.invokevirtual 176, 3) := by decide +kernel
theorem dX11_balloon_134 : decode cX11_balloon 134 = .ok (.ireturn, 1) := by decide +kernel
theorem dX11_balloon_135 : decode cX11_balloon 135 = .ok (.aload_n 0, 1) := by decide +kernel
theorem dX11_balloon_136 : decode cX11_balloon 136 = .ok (.getfield 42, 3) := by decide +kernel
theorem dX11_balloon_139 : decode cX11_balloon 139 = .ok (.iload_n 1, 1) := by decide +kernel
theorem dX11_balloon_140 : decode cX11_balloon 140 = .ok (.invokevirtual 179, 3) := by decide +kernel
theorem dX11_balloon_143 : decode cX11_balloon 143 = .ok (.invokestatic 182, 3) := by decide +kernel
theorem dX11_balloon_146 : decode cX11_balloon 146 = .ok (.ireturn, 1) := by decide +kernel
theorem dX11_balloon_147 : decode cX11_balloon 147 = .ok (.aload_n 0, 1) := by decide +kernel
theorem dX11_balloon_148 : decode cX11_balloon 148 = .ok (.getfield 42, 3) := by decide +kernel
theorem dX11_balloon_151 : decode cX11_balloon 151 = .ok (.getfield 185, 3) := by decide +kernel
theorem dX11_balloon_154 : decode cX11_balloon 154 = .ok (.iload_n 1, 1) := by decide +kernel
theorem dX11_balloon_155 : decode cX11_balloon 155 = .ok (.iaload, 1) := by decide +kernel
theorem dX11_balloon_156 : decode cX11_balloon 156 = .ok (.ireturn, 1) := by decide +kernel
theorem dX11_balloon_157 : decode cX11_balloon 157 = .ok (.aload_n 0, 1) := by decide +kernel
theorem dX11_balloon_158 : decode cX11_balloon 158 = .ok (.getfield 42, 3) := by decide +kernel
theorem dX11_balloon_161 : decode cX11_balloon 161 = .ok (.iload_n 1, 1) := by decide +kernel
theorem dX11_balloon_162 : decode cX11_balloon 162 = .ok (.invokevirtual 188, 3) := by decide +kernel
theorem dX11_balloon_165 : decode cX11_balloon 165 = .ok (.ireturn, 1) := by decide +kernel
theorem dX11_balloon_166 : decode cX11_balloon 166 = .ok (.aload_n 0, 1) := by decide +kernel
theorem dX11_balloon_167 : decode cX11_balloon 167 = .ok (.getfield 42, 3) := by decide +kernel
theorem dX11_balloon_170 : decode cX11_balloon 170 = .ok (.iload_n 1, 1) := by decide +kernel
theorem dX11_balloon_171 : decode cX11_balloon 171 = .ok (.invokevirtual 191, 3) := by decide +kernel
theorem dX11_balloon_174 : decode cX11_balloon 174 = .ok (.ireturn, 1) := by decide +kernel
theorem dX11_balloon_175 : decode cX11_balloon 175 = .ok (.new 140, 3) := by decide +kernel
theorem dX11_balloon_178 : decode cX11_balloon 178 = .ok (.dup, 1) := by decide +kernel
theorem dX11_balloon_179 : decode cX11_balloon 179 = .ok (.invokespecial 142, 3) := by decide +kernel
theorem dX11_balloon_182 : decode cX11_balloon 182 = .ok (.athrow, 1) := by decide +kernel
theorem dX11_balloon_11 : decode cX11_balloon 11 = .ok (.new 140, 3) := by decide +kernel
theorem dX11_balloon_14 : decode cX11_balloon 14 = .ok (.dup, 1) := by decide +kernel
theorem dX11_balloon_15 : decode cX11_balloon 15 = .ok (.invokespecial 142, 3) := by decide +kernel
theorem dX11_balloon_18 : decode cX11_balloon 18 = .ok (.athrow, 1) := by decide +kernel
theorem dX11_lift_0 : decode cX11_lift 0 = .ok (.aload_n 0, 1) := by decide +kernel
theorem dX11_lift_1 : decode cX11_lift 1 = .ok (.getfield 42, 3) := by decide +kernel
theorem dX11_lift_4 : decode cX11_lift 4 = .ok (.iload_n 1, 1) := by decide +kernel
theorem dX11_lift_5 : decode cX11_lift 5 = .ok (.invokevirtual 160, 3) := by decide +kernel
theorem dX11_lift_8 : decode cX11_lift 8 = .ok (.ifCond .ne 11, 3) := by decide +kernel
theorem dX11_lift_19 : decode cX11_lift 19 = .ok (.aload_n 0, 1) := by decide +kernel
theorem dX11_lift_20 : decode cX11_lift 20 = .ok (.getfield 42, 3) := by decide +kernel
theorem dX11_lift_23 : decode cX11_lift 23 = .ok (.iload_n 1, 1) := by decide +kernel
theorem dX11_lift_24 : decode cX11_lift 24 = .ok (.invokevirtual 179, 3) := by decide +kernel
theorem dX11_lift_27 : decode cX11_lift 27 = .ok (.ireturn, 1) := by decide +kernel
theorem dX11_lift_11 : decode cX11_lift 11 = .ok (.new 140, 3) := by decide +kernel
theorem dX11_lift_14 : decode cX11_lift 14 = .ok (.dup, 1) := by decide +kernel
theorem dX11_lift_15 : decode cX11_lift 15 = .ok (.invokespecial 142, 3) := by decide +kernel
theorem dX11_lift_18 : decode cX11_lift 18 = .ok (.athrow, 1) := by decide +kernel
theorem dX11_rain_0 : decode cX11_rain 0 = .ok (.iload_n 1, 1) := by decide +kernel
theorem dX11_rain_1 : decode cX11_rain 1 = .ok (.ifCond .lt 9, 3) := by decide +kernel
theorem dX11_rain_10 : decode cX11_rain 10 = .ok (.iconst (-1), 1) := by decide +kernel
theorem dX11_rain_11 : decode cX11_rain 11 = .ok (.ireturn, 1) := by decide +kernel
theorem dX11_rain_4 : decode cX11_rain 4 = .ok (.iload_n 1, 1) := by decide +kernel
theorem dX11_rain_5 : decode cX11_rain 5 = .ok (.bipush 9, 2) := by decide +kernel
theorem dX11_rain_7 : decode cX11_rain 7 = .ok (.if_icmp .le 5, 3) := by decide +kernel
theorem dX11_rain_12 : decode cX11_rain 12 = .ok (.aload_n 0, 1) := by decide +kernel
theorem dX11_rain_13 : decode cX11_rain 13 = .ok (.getfield 42, 3) := by decide +kernel
theorem dX11_rain_16 : decode cX11_rain 16 = .ok (.getfield 194, 3) := by decide +kernel
theorem dX11_rain_19 : decode cX11_rain 19 = .ok (.istore_n 2, 1) := by decide +kernel
theorem dX11_rain_20 : decode cX11_rain 20 = .ok (.aload_n 0, 1) := by decide +kernel
theorem dX11_rain_21 : decode cX11_rain 21 = .ok (.getfield 42, 3) := by decide +kernel
theorem dX11_rain_24 : decode cX11_rain 24 = .ok (.iload_n 1, 1) := by decide +kernel
theorem dX11_rain_25 : decode cX11_rain 25 = .ok (.putfield 194, 3) := by decide +kernel
theorem dX11_rain_28 : decode cX11_rain 28 = .ok (.iload_n 2, 1) := by decide +kernel
theorem dX11_rain_29 : decode cX11_rain 29 = .ok (.ireturn, 1) := by decide +kernel
theorem dX11_entryOf_0 : decode cX11_entryOf 0 = .ok (.iload_n 1, 1) := by decide +kernel
theorem dX11_entryOf_1 : decode cX11_entryOf 1 = .ok (.istore_n 2, 1) := by decide +kernel
theorem dX11_entryOf_2 : decode cX11_entryOf 2 = .ok (.iload_n 0, 1) := by decide +kernel
theorem dX11_entryOf_20 : decode cX11_entryOf 20 = .ok (.iconst 0, 1) := by decide +kernel
theorem dX11_entryOf_21 : decode cX11_entryOf 21 = .ok (.bipush 99, 2) := by decide +kernel
theorem dX11_entryOf_23 : decode cX11_entryOf 23 = .ok (.iload_n 2, 1) := by decide +kernel
theorem dX11_entryOf_24 : decode cX11_entryOf 24 = .ok (.invokestatic 202, 3) := by decide +kernel
theorem dX11_entryOf_27 : decode cX11_entryOf 27 = .ok (.invokestatic 207, 3) := by decide +kernel
theorem dX11_entryOf_30 : decode cX11_entryOf 30 = .ok (.ireturn, 1) := by decide +kernel
theorem dX11_entryOf_3 : decode cX11_entryOf 3 = .ok (.ifCond .ne 9, 3) := by decide +kernel
theorem dX11_entryOf_12 : decode cX11_entryOf 12 = .ok (.iload_n 0, 1) := by decide +kernel
theorem dX11_entryOf_13 : decode cX11_entryOf 13 = .ok (.iconst 1, 1) := by decide +kernel
theorem dX11_entryOf_14 : decode cX11_entryOf 14 = .ok (.if_icmp .ne 6, 3) := by decide +kernel
theorem dX11_entryOf_17 : decode cX11_entryOf 17 = .ok (.iload_n 1, 1) := by decide +kernel
theorem dX11_entryOf_18 : decode cX11_entryOf 18 = .ok (.i2s, 1) := by decide +kernel
theorem dX11_entryOf_19 : decode cX11_entryOf 19 = .ok (.istore_n 2, 1) := by decide +kernel
theorem dX11_entryOf_6 : decode cX11_entryOf 6 = .ok (.iload_n 1, 1) := by decide +kernel
theorem dX11_entryOf_7 : decode cX11_entryOf 7 = .ok (.i2b, 1) := by decide +kernel
theorem dX11_entryOf_8 : decode cX11_entryOf 8 = .ok (.istore_n 2, 1) := by decide +kernel
theorem dX11_entryOf_9 : decode cX11_entryOf 9 = .ok (.goto 11, 3) := by decide +kernel
theorem dX11_sheet_0 : decode cX11_sheet 0 = .ok (.iload_n 1, 1) := by decide +kernel
theorem dX11_sheet_1 : decode cX11_sheet 1 = .ok (.ifCond .lt 14, 3) := by decide +kernel
theorem dX11_sheet_15 : decode cX11_sheet 15 = .ok (.iconst (-1), 1) := by decide +kernel
theorem dX11_sheet_16 : decode cX11_sheet 16 = .ok (.ireturn, 1) := by decide +kernel
theorem dX11_sheet_4 : decode cX11_sheet 4 = .ok (.iload_n 1, 1) := by decide +kernel
theorem dX11_sheet_5 : decode cX11_sheet 5 = .ok (.iconst 3, 1) := by decide +kernel
theorem dX11_sheet_6 : decode cX11_sheet 6 = .ok (.if_icmp .gt 9, 3) := by decide +kernel
theorem dX11_sheet_9 : decode cX11_sheet 9 = .ok (.iload_n 2, 1) := by decide +kernel
theorem dX11_sheet_10 : decode cX11_sheet 10 = .ok (.bipush 6, 2) := by decide +kernel
theorem dX11_sheet_12 : decode cX11_sheet 12 = .ok (.if_icmp .le 5, 3) := by decide +kernel
theorem dX11_sheet_17 : decode cX11_sheet 17 = .ok (.iload_n 1, 1) := by decide +kernel
theorem dX11_sheet_18 : decode cX11_sheet 18 = .ok (.iconst 3, 1) := by decide +kernel
theorem dX11_sheet_27 : decode cX11_sheet 27 = .ok (.istore 5, 2) := by decide +kernel
theorem dX11_sheet_29 : decode cX11_sheet 29 = .ok (.iload 5, 2) := by decide +kernel
theorem dX11_sheet_41 : decode cX11_sheet 41 = .ok (.iload 5, 2) := by decide +kernel
theorem dX11_sheet_51 : decode cX11_sheet 51 = .ok (.istore 6, 2) := by decide +kernel
theorem dX11_sheet_53 : decode cX11_sheet 53 = .ok (.iconst 0, 1) := by decide +kernel
theorem dX11_sheet_54 : decode cX11_sheet 54 = .ok (.istore 7, 2) := by decide +kernel
theorem dX11_sheet_56 : decode cX11_sheet 56 = .ok (.iconst 0, 1) := by decide +kernel
theorem dX11_sheet_57 : decode cX11_sheet 57 = .ok (.istore 8, 2) := by decide +kernel
theorem dX11_sheet_59 : decode cX11_sheet 59 = .ok (.iload 8, 2) := by decide +kernel
theorem dX11_sheet_61 : decode cX11_sheet 61 = .ok (.aload_n 0, 1) := by decide +kernel
theorem dX11_sheet_62 : decode cX11_sheet 62 = .ok (.getfield 42, 3) := by decide +kernel
theorem dX11_sheet_65 : decode cX11_sheet 65 = .ok (.getfield 197, 3) := by decide +kernel
theorem dX11_sheet_68 : decode cX11_sheet 68 = .ok (.if_icmp .ge 52, 3) := by decide +kernel
theorem dX11_sheet_71 : decode cX11_sheet 71 = .ok (.iload 8, 2) := by decide +kernel
theorem dX11_sheet_73 : decode cX11_sheet 73 = .ok (.iload 6, 2) := by decide +kernel
theorem dX11_sheet_93 : decode cX11_sheet 93 = .ok (.istore 9, 2) := by decide +kernel
theorem dX11_sheet_95 : decode cX11_sheet 95 = .ok (.aload_n 0, 1) := by decide +kernel
theorem dX11_sheet_96 : decode cX11_sheet 96 = .ok (.getfield 42, 3) := by decide +kernel
theorem dX11_sheet_99 : decode cX11_sheet 99 = .ok (.getfield 161, 3) := by decide +kernel
theorem dX11_sheet_102 : decode cX11_sheet 102 = .ok (.iload 8, 2) := by decide +kernel
theorem dX11_sheet_104 : decode cX11_sheet 104 = .ok (.iload 9, 2) := by decide +kernel
theorem dX11_sheet_106 : decode cX11_sheet 106 = .ok (.iastore, 1) := by decide +kernel
theorem dX11_sheet_107 : decode cX11_sheet 107 = .ok (.iload 7, 2) := by decide +kernel
theorem dX11_sheet_109 : decode cX11_sheet 109 = .ok (.iload 9, 2) := by decide +kernel
theorem dX11_sheet_111 : decode cX11_sheet 111 = .ok (.iadd, 1) := by decide +kernel
theorem dX11_sheet_112 : decode cX11_sheet 112 = .ok (.istore 7, 2) := by decide +kernel
theorem dX11_sheet_114 : decode cX11_sheet 114 = .ok (.iinc 8 1, 3) := by decide +kernel
theorem dX11_sheet_117 : decode cX11_sheet 117 = .ok (.goto (-58), 3) := by decide +kernel
theorem dX11_sheet_75 : decode cX11_sheet 75 = .ok (.if_icmp .ge 17, 3) := by decide +kernel
theorem dX11_sheet_92 : decode cX11_sheet 92 = .ok (.iconst 0, 1) := by decide +kernel
theorem dX11_sheet_78 : decode cX11_sheet 78 = .ok (.iload_n 1, 1) := by decide +kernel
theorem dX11_sheet_79 : decode cX11_sheet 79 = .ok (.iload_n 3, 1) := by decide +kernel
theorem dX11_sheet_80 : decode cX11_sheet 80 = .ok (.iload 8, 2) := by decide +kernel
theorem dX11_sheet_82 : decode cX11_sheet 82 = .ok (.iload 4, 2) := by decide +kernel
theorem dX11_sheet_84 : decode cX11_sheet 84 = .ok (.imul, 1) := by decide +kernel
theorem dX11_sheet_85 : decode cX11_sheet 85 = .ok (.iadd, 1) := by decide +kernel
theorem dX11_sheet_86 : decode cX11_sheet 86 = .ok (.invokestatic 198, 3) := by decide +kernel
theorem dX11_sheet_89 : decode cX11_sheet 89 = .ok (.goto 4, 3) := by decide +kernel
theorem dX11_sheet_120 : decode cX11_sheet 120 = .ok (.iload 5, 2) := by decide +kernel
theorem dX11_sheet_122 : decode cX11_sheet 122 = .ok (.ifCond .eq 8, 3) := by decide +kernel
theorem dX11_sheet_130 : decode cX11_sheet 130 = .ok (.iload 7, 2) := by decide +kernel
theorem dX11_sheet_132 : decode cX11_sheet 132 = .ok (.ireturn, 1) := by decide +kernel
theorem dX11_sheet_125 : decode cX11_sheet 125 = .ok (.bipush (-3), 2) := by decide +kernel
theorem dX11_sheet_127 : decode cX11_sheet 127 = .ok (.goto 5, 3) := by decide +kernel
theorem dX11_sheet_43 : decode cX11_sheet 43 = .ok (.ifCond .eq 7, 3) := by decide +kernel
theorem dX11_sheet_50 : decode cX11_sheet 50 = .ok (.iload_n 2, 1) := by decide +kernel
theorem dX11_sheet_46 : decode cX11_sheet 46 = .ok (.iconst 0, 1) := by decide +kernel
theorem dX11_sheet_47 : decode cX11_sheet 47 = .ok (.goto 4, 3) := by decide +kernel
theorem dX11_sheet_31 : decode cX11_sheet 31 = .ok (.ifCond .ne 10, 3) := by decide +kernel
theorem dX11_sheet_34 : decode cX11_sheet 34 = .ok (.iload_n 2, 1) := by decide +kernel
theorem dX11_sheet_35 : decode cX11_sheet 35 = .ok (.ifCond .ge 6, 3) := by decide +kernel
theorem dX11_sheet_38 : decode cX11_sheet 38 = .ok (.bipush (-2), 2) := by decide +kernel
theorem dX11_sheet_40 : decode cX11_sheet 40 = .ok (.ireturn, 1) := by decide +kernel
theorem dX11_sheet_19 : decode cX11_sheet 19 = .ok (.if_icmp .ne 7, 3) := by decide +kernel
theorem dX11_sheet_26 : decode cX11_sheet 26 = .ok (.iconst 0, 1) := by decide +kernel
theorem dX11_sheet_22 : decode cX11_sheet 22 = .ok (.iconst 1, 1) := by decide +kernel
theorem dX11_sheet_23 : decode cX11_sheet 23 = .ok (.goto 4, 3) := by decide +kernel
theorem dX11_setFree_0 : decode cX11_setFree 0 = .ok (.aload_n 0, 1) := by decide +kernel
theorem dX11_setFree_1 : decode cX11_setFree 1 = .ok (.iload_n 1, 1) := by decide +kernel
theorem dX11_setFree_2 : decode cX11_setFree 2 = .ok (.invokevirtual 160, 3) := by decide +kernel
theorem dX11_setFree_5 : decode cX11_setFree 5 = .ok (.ifCond .ne 5, 3) := by decide +kernel
theorem dX11_setFree_10 : decode cX11_setFree 10 = .ok (.aload_n 0, 1) := by decide +kernel
theorem dX11_setFree_11 : decode cX11_setFree 11 = .ok (.getfield 185, 3) := by decide +kernel
theorem dX11_setFree_14 : decode cX11_setFree 14 = .ok (.iload_n 1, 1) := by decide +kernel
theorem dX11_setFree_15 : decode cX11_setFree 15 = .ok (.iaload, 1) := by decide +kernel
theorem dX11_setFree_16 : decode cX11_setFree 16 = .ok (.ifCond .eq 6, 3) := by decide +kernel
theorem dX11_setFree_22 : decode cX11_setFree 22 = .ok (.aload_n 0, 1) := by decide +kernel
theorem dX11_setFree_23 : decode cX11_setFree 23 = .ok (.iload_n 1, 1) := by decide +kernel
theorem dX11_setFree_24 : decode cX11_setFree 24 = .ok (.invokevirtual 179, 3) := by decide +kernel
theorem dX11_setFree_27 : decode cX11_setFree 27 = .ok (.istore_n 2, 1) := by decide +kernel
theorem dX11_setFree_28 : decode cX11_setFree 28 = .ok (.iload_n 2, 1) := by decide +kernel
theorem dX11_setFree_29 : decode cX11_setFree 29 = .ok (.ifCond .ge 6, 3) := by decide +kernel
theorem dX11_setFree_35 : decode cX11_setFree 35 = .ok (.aload_n 0, 1) := by decide +kernel
theorem dX11_setFree_36 : decode cX11_setFree 36 = .ok (.iload_n 1, 1) := by decide +kernel
theorem dX11_setFree_37 : decode cX11_setFree 37 = .ok (.invokevirtual 267, 3) := by decide +kernel
theorem dX11_setFree_40 : decode cX11_setFree 40 = .ok (.iload_n 2, 1) := by decide +kernel
theorem dX11_setFree_41 : decode cX11_setFree 41 = .ok (.invokestatic 182, 3) := by decide +kernel
theorem dX11_setFree_44 : decode cX11_setFree 44 = .ok (.ireturn, 1) := by decide +kernel
theorem dX11_setFree_32 : decode cX11_setFree 32 = .ok (.bipush (-3), 2) := by decide +kernel
theorem dX11_setFree_34 : decode cX11_setFree 34 = .ok (.ireturn, 1) := by decide +kernel
theorem dX11_setFree_19 : decode cX11_setFree 19 = .ok (.bipush (-2), 2) := by decide +kernel
theorem dX11_setFree_21 : decode cX11_setFree 21 = .ok (.ireturn, 1) := by decide +kernel
theorem dX11_setFree_8 : decode cX11_setFree 8 = .ok (.iconst (-1), 1) := by decide +kernel
theorem dX11_setFree_9 : decode cX11_setFree 9 = .ok (.ireturn, 1) := by decide +kernel
theorem dX11_remembered_0 : decode cX11_remembered 0 = .ok (.iload_n 1, 1) := by decide +kernel
theorem dX11_remembered_1 : decode cX11_remembered 1 = .ok (.ifCond .lt 10, 3) := by decide +kernel
theorem dX11_remembered_11 : decode cX11_remembered 11 = .ok (.iload_n 1, 1) := by decide +kernel
theorem dX11_remembered_12 : decode cX11_remembered 12 = .ok (.ireturn, 1) := by decide +kernel
theorem dX11_remembered_4 : decode cX11_remembered 4 = .ok (.aload_n 0, 1) := by decide +kernel
theorem dX11_remembered_5 : decode cX11_remembered 5 = .ok (.getfield 52, 3) := by decide +kernel
theorem dX11_remembered_8 : decode cX11_remembered 8 = .ok (.invokevirtual 259, 3) := by decide +kernel
theorem dX11_launch_0 : decode cX11_launch 0 = .ok (.aload_n 0, 1) := by decide +kernel
theorem dX11_launch_1 : decode cX11_launch 1 = .ok (.getfield 52, 3) := by decide +kernel
theorem dX11_launch_4 : decode cX11_launch 4 = .ok (.aload_n 0, 1) := by decide +kernel
theorem dX11_launch_5 : decode cX11_launch 5 = .ok (.getfield 42, 3) := by decide +kernel
theorem dX11_launch_8 : decode cX11_launch 8 = .ok (.invokevirtual 210, 3) := by decide +kernel
theorem dX11_launch_11 : decode cX11_launch 11 = .ok (.aload_n 0, 1) := by decide +kernel
theorem dX11_launch_12 : decode cX11_launch 12 = .ok (.aload_n 0, 1) := by decide +kernel
theorem dX11_launch_13 : decode cX11_launch 13 = .ok (.getfield 42, 3) := by decide +kernel
theorem dX11_launch_16 : decode cX11_launch 16 = .ok (.iload_n 1, 1) := by decide +kernel
theorem dX11_launch_17 : decode cX11_launch 17 = .ok (.invokestatic 214, 3) := by decide +kernel
theorem dX11_launch_20 : decode cX11_launch 20 = .ok (.invokevirtual 218, 3) := by decide +kernel
theorem dX11_launch_23 : decode cX11_launch 23 = .ok (.ireturn, 1) := by decide +kernel
theorem dX11_tie_0 : decode cX11_tie 0 = .ok (.aload_n 0, 1) := by decide +kernel
theorem dX11_tie_1 : decode cX11_tie 1 = .ok (.getfield 42, 3) := by decide +kernel
theorem dX11_tie_4 : decode cX11_tie 4 = .ok (.iload_n 1, 1) := by decide +kernel
theorem dX11_tie_5 : decode cX11_tie 5 = .ok (.invokevirtual 160, 3) := by decide +kernel
theorem dX11_tie_8 : decode cX11_tie 8 = .ok (.ifCond .eq 14, 3) := by decide +kernel
theorem dX11_tie_22 : decode cX11_tie 22 = .ok (.iconst (-1), 1) := by decide +kernel
theorem dX11_tie_23 : decode cX11_tie 23 = .ok (.ireturn, 1) := by decide +kernel
theorem dX11_tie_11 : decode cX11_tie 11 = .ok (.aload_n 0, 1) := by decide +kernel
theorem dX11_tie_12 : decode cX11_tie 12 = .ok (.getfield 19, 3) := by decide +kernel
theorem dX11_tie_15 : decode cX11_tie 15 = .ok (.iload_n 2, 1) := by decide +kernel
theorem dX11_tie_16 : decode cX11_tie 16 = .ok (.invokevirtual 136, 3) := by decide +kernel
theorem dX11_tie_19 : decode cX11_tie 19 = .ok (.ifCond .ne 5, 3) := by decide +kernel
theorem dX11_tie_24 : decode cX11_tie 24 = .ok (.aload_n 0, 1) := by decide +kernel
theorem dX11_tie_25 : decode cX11_tie 25 = .ok (.getfield 42, 3) := by decide +kernel
theorem dX11_tie_28 : decode cX11_tie 28 = .ok (.getfield 185, 3) := by decide +kernel
theorem dX11_tie_31 : decode cX11_tie 31 = .ok (.iload_n 1, 1) := by decide +kernel
theorem dX11_tie_32 : decode cX11_tie 32 = .ok (.iaload, 1) := by decide +kernel
theorem dX11_tie_33 : decode cX11_tie 33 = .ok (.iconst 1, 1) := by decide +kernel
theorem dX11_tie_34 : decode cX11_tie 34 = .ok (.if_icmp .eq 6, 3) := by decide +kernel
theorem dX11_tie_40 : decode cX11_tie 40 = .ok (.aload_n 0, 1) := by decide +kernel
theorem dX11_tie_41 : decode cX11_tie 41 = .ok (.getfield 42, 3) := by decide +kernel
theorem dX11_tie_44 : decode cX11_tie 44 = .ok (.iload_n 1, 1) := by decide +kernel
theorem dX11_tie_45 : decode cX11_tie 45 = .ok (.invokevirtual 270, 3) := by decide +kernel
theorem dX11_tie_48 : decode cX11_tie 48 = .ok (.aload_n 0, 1) := by decide +kernel
theorem dX11_tie_49 : decode cX11_tie 49 = .ok (.getfield 42, 3) := by decide +kernel
theorem dX11_tie_52 : decode cX11_tie 52 = .ok (.getfield 170, 3) := by decide +kernel
theorem dX11_tie_55 : decode cX11_tie 55 = .ok (.iload_n 1, 1) := by decide +kernel
theorem dX11_tie_56 : decode cX11_tie 56 = .ok (.iaload, 1) := by decide +kernel
theorem dX11_tie_57 : decode cX11_tie 57 = .ok (.if_icmp .le 6, 3) := by decide +kernel
theorem dX11_tie_63 : decode cX11_tie 63 = .ok (.aload_n 0, 1) := by decide +kernel
theorem dX11_tie_64 : decode cX11_tie 64 = .ok (.getfield 19, 3) := by decide +kernel
theorem dX11_tie_67 : decode cX11_tie 67 = .ok (.getfield 143, 3) := by decide +kernel
theorem dX11_tie_70 : decode cX11_tie 70 = .ok (.iload_n 2, 1) := by decide +kernel
theorem dX11_tie_71 : decode cX11_tie 71 = .ok (.iaload, 1) := by decide +kernel
theorem dX11_tie_72 : decode cX11_tie 72 = .ok (.istore_n 3, 1) := by decide +kernel
theorem dX11_tie_73 : decode cX11_tie 73 = .ok (.aload_n 0, 1) := by decide +kernel
theorem dX11_tie_74 : decode cX11_tie 74 = .ok (.getfield 42, 3) := by decide +kernel
theorem dX11_tie_77 : decode cX11_tie 77 = .ok (.iload_n 1, 1) := by decide +kernel
theorem dX11_tie_78 : decode cX11_tie 78 = .ok (.invokevirtual 179, 3) := by decide +kernel
theorem dX11_tie_81 : decode cX11_tie 81 = .ok (.invokestatic 182, 3) := by decide +kernel
theorem dX11_tie_84 : decode cX11_tie 84 = .ok (.iload_n 3, 1) := by decide +kernel
theorem dX11_tie_85 : decode cX11_tie 85 = .ok (.isub, 1) := by decide +kernel
theorem dX11_tie_86 : decode cX11_tie 86 = .ok (.invokestatic 273, 3) := by decide +kernel
theorem dX11_tie_89 : decode cX11_tie 89 = .ok (.iconst 1, 1) := by decide +kernel
theorem dX11_tie_90 : decode cX11_tie 90 = .ok (.if_icmp .le 6, 3) := by decide +kernel
theorem dX11_tie_96 : decode cX11_tie 96 = .ok (.aload_n 0, 1) := by decide +kernel
theorem dX11_tie_97 : decode cX11_tie 97 = .ok (.getfield 42, 3) := by decide +kernel
theorem dX11_tie_100 : decode cX11_tie 100 = .ok (.iload_n 2, 1) := by decide +kernel
theorem dX11_tie_101 : decode cX11_tie 101 = .ok (.invokevirtual 150, 3) := by decide +kernel
theorem dX11_tie_104 : decode cX11_tie 104 = .ok (.iconst (-1), 1) := by decide +kernel
theorem dX11_tie_105 : decode cX11_tie 105 = .ok (.if_icmp .eq 6, 3) := by decide +kernel
theorem dX11_tie_111 : decode cX11_tie 111 = .ok (.aload_n 0, 1) := by decide +kernel
theorem dX11_tie_112 : decode cX11_tie 112 = .ok (.getfield 42, 3) := by decide +kernel
theorem dX11_tie_115 : decode cX11_tie 115 = .ok (.getfield 185, 3) := by decide +kernel
theorem dX11_tie_118 : decode cX11_tie 118 = .ok (.iload_n 1, 1) := by decide +kernel
theorem dX11_tie_119 : decode cX11_tie 119 = .ok (.iconst 2, 1) := by decide +kernel
theorem dX11_tie_120 : decode cX11_tie 120 = .ok (.iastore, 1) := by decide +kernel
theorem dX11_tie_121 : decode cX11_tie 121 = .ok (.aload_n 0, 1) := by decide +kernel
theorem dX11_tie_122 : decode cX11_tie 122 = .ok (.getfield 42, 3) := by decide +kernel
theorem dX11_tie_125 : decode cX11_tie 125 = .ok (.getfield 276, 3) := by decide +kernel
theorem dX11_tie_128 : decode cX11_tie 128 = .ok (.iload_n 1, 1) := by decide +kernel
theorem dX11_tie_129 : decode cX11_tie 129 = .ok (.iload_n 2, 1) := by decide +kernel
theorem dX11_tie_130 : decode cX11_tie 130 = .ok (.iastore, 1) := by decide +kernel
theorem dX11_tie_131 : decode cX11_tie 131 = .ok (.iload_n 3, 1) := by decide +kernel
theorem dX11_tie_132 : decode cX11_tie 132 = .ok (.ireturn, 1) := by decide +kernel
theorem dX11_tie_108 : decode cX11_tie 108 = .ok (.bipush (-5), 2) := by decide +kernel
theorem dX11_tie_110 : decode cX11_tie 110 = .ok (.ireturn, 1) := by decide +kernel
theorem dX11_tie_93 : decode cX11_tie 93 = .ok (.bipush (-4), 2) := by decide +kernel
theorem dX11_tie_95 : decode cX11_tie 95 = .ok (.ireturn, 1) := by decide +kernel
theorem dX11_tie_60 : decode cX11_tie 60 = .ok (.bipush (-3), 2) := by decide +kernel
theorem dX11_tie_62 : decode cX11_tie 62 = .ok (.ireturn, 1) := by decide +kernel
theorem dX11_tie_37 : decode cX11_tie 37 = .ok (.bipush (-2), 2) := by decide +kernel
theorem dX11_tie_39 : decode cX11_tie 39 = .ok (.ireturn, 1) := by decide +kernel
theorem dX11_moor_0 : decode cX11_moor 0 = .ok (.aload_n 0, 1) := by decide +kernel
theorem dX11_moor_1 : decode cX11_moor 1 = .ok (.getfield 52, 3) := by decide +kernel
theorem dX11_moor_4 : decode cX11_moor 4 = .ok (.aload_n 0, 1) := by decide +kernel
theorem dX11_moor_5 : decode cX11_moor 5 = .ok (.getfield 42, 3) := by decide +kernel
theorem dX11_moor_8 : decode cX11_moor 8 = .ok (.invokevirtual 210, 3) := by decide +kernel
theorem dX11_moor_11 : decode cX11_moor 11 = .ok (.aload_n 0, 1) := by decide +kernel
theorem dX11_moor_12 : decode cX11_moor 12 = .ok (.aload_n 0, 1) := by decide +kernel
theorem dX11_moor_13 : decode cX11_moor 13 = .ok (.iload_n 1, 1) := by decide +kernel
theorem dX11_moor_14 : decode cX11_moor 14 = .ok (.iload_n 2, 1) := by decide +kernel
theorem dX11_moor_15 : decode cX11_moor 15 = .ok (.invokevirtual 221, 3) := by decide +kernel
theorem dX11_moor_18 : decode cX11_moor 18 = .ok (.invokevirtual 218, 3) := by decide +kernel
theorem dX11_moor_21 : decode cX11_moor 21 = .ok (.ireturn, 1) := by decide +kernel
theorem dX11_untie_0 : decode cX11_untie 0 = .ok (.aload_n 0, 1) := by decide +kernel
theorem dX11_untie_1 : decode cX11_untie 1 = .ok (.iload_n 1, 1) := by decide +kernel
theorem dX11_untie_2 : decode cX11_untie 2 = .ok (.invokevirtual 160, 3) := by decide +kernel
theorem dX11_untie_5 : decode cX11_untie 5 = .ok (.ifCond .ne 5, 3) := by decide +kernel
theorem dX11_untie_10 : decode cX11_untie 10 = .ok (.aload_n 0, 1) := by decide +kernel
theorem dX11_untie_11 : decode cX11_untie 11 = .ok (.getfield 185, 3) := by decide +kernel
theorem dX11_untie_14 : decode cX11_untie 14 = .ok (.iload_n 1, 1) := by decide +kernel
theorem dX11_untie_15 : decode cX11_untie 15 = .ok (.iaload, 1) := by decide +kernel
theorem dX11_untie_16 : decode cX11_untie 16 = .ok (.iconst 2, 1) := by decide +kernel
theorem dX11_untie_17 : decode cX11_untie 17 = .ok (.if_icmp .eq 6, 3) := by decide +kernel
theorem dX11_untie_23 : decode cX11_untie 23 = .ok (.aload_n 0, 1) := by decide +kernel
theorem dX11_untie_24 : decode cX11_untie 24 = .ok (.getfield 276, 3) := by decide +kernel
theorem dX11_untie_27 : decode cX11_untie 27 = .ok (.iload_n 1, 1) := by decide +kernel
theorem dX11_untie_28 : decode cX11_untie 28 = .ok (.iaload, 1) := by decide +kernel
theorem dX11_untie_29 : decode cX11_untie 29 = .ok (.istore_n 2, 1) := by decide +kernel
theorem dX11_untie_30 : decode cX11_untie 30 = .ok (.aload_n 0, 1) := by decide +kernel
theorem dX11_untie_31 : decode cX11_untie 31 = .ok (.iload_n 1, 1) := by decide +kernel
theorem dX11_untie_32 : decode cX11_untie 32 = .ok (.invokevirtual 267, 3) := by decide +kernel
theorem dX11_untie_35 : decode cX11_untie 35 = .ok (.iload_n 2, 1) := by decide +kernel
theorem dX11_untie_36 : decode cX11_untie 36 = .ok (.ireturn, 1) := by decide +kernel
theorem dX11_untie_20 : decode cX11_untie 20 = .ok (.bipush (-2), 2) := by decide +kernel
theorem dX11_untie_22 : decode cX11_untie 22 = .ok (.ireturn, 1) := by decide +kernel
theorem dX11_untie_8 : decode cX11_untie 8 = .ok (.iconst (-1), 1) := by decide +kernel
theorem dX11_untie_9 : decode cX11_untie 9 = .ok (.ireturn, 1) := by decide +kernel
theorem dX11_cast_0 : decode cX11_cast 0 = .ok (.aload_n 0, 1) := by decide +kernel
theorem dX11_cast_1 : decode cX11_cast 1 = .ok (.getfield 52, 3) := by decide +kernel
theorem dX11_cast_4 : decode cX11_cast 4 = .ok (.aload_n 0, 1) := by decide +kernel
theorem dX11_cast_5 : decode cX11_cast 5 = .ok (.getfield 42, 3) := by decide +kernel
theorem dX11_cast_8 : decode cX11_cast 8 = .ok (.invokevirtual 210, 3) := by decide +kernel
theorem dX11_cast_11 : decode cX11_cast 11 = .ok (.aload_n 0, 1) := by decide +kernel
theorem dX11_cast_12 : decode cX11_cast 12 = .ok (.aload_n 0, 1) := by decide +kernel
theorem dX11_cast_13 : decode cX11_cast 13 = .ok (.getfield 42, 3) := by decide +kernel
theorem dX11_cast_16 : decode cX11_cast 16 = .ok (.iload_n 1, 1) := by decide +kernel
theorem dX11_cast_17 : decode cX11_cast 17 = .ok (.invokestatic 224, 3) := by decide +kernel
theorem dX11_cast_20 : decode cX11_cast 20 = .ok (.invokevirtual 218, 3) := by decide +kernel
theorem dX11_cast_23 : decode cX11_cast 23 = .ok (.ireturn, 1) := by decide +kernel
theorem dX11_load_0 : decode cX11_load 0 = .ok (.aload_n 0, 1) := by decide +kernel
theorem dX11_load_1 : decode cX11_load 1 = .ok (.getfield 42, 3) := by decide +kernel
theorem dX11_load_4 : decode cX11_load 4 = .ok (.iload_n 1, 1) := by decide +kernel
theorem dX11_load_5 : decode cX11_load 5 = .ok (.invokevirtual 160, 3) := by decide +kernel
theorem dX11_load_8 : decode cX11_load 8 = .ok (.ifCond .eq 7, 3) := by decide +kernel
theorem dX11_load_15 : decode cX11_load 15 = .ok (.iconst (-1), 1) := by decide +kernel
theorem dX11_load_16 : decode cX11_load 16 = .ok (.ireturn, 1) := by decide +kernel
theorem dX11_load_11 : decode cX11_load 11 = .ok (.iload_n 2, 1) := by decide +kernel
theorem dX11_load_12 : decode cX11_load 12 = .ok (.ifCond .ne 5, 3) := by decide +kernel
theorem dX11_load_17 : decode cX11_load 17 = .ok (.iload_n 2, 1) := by decide +kernel
theorem dX11_load_32 : decode cX11_load 32 = .ok (.aload_n 0, 1) := by decide +kernel
theorem dX11_load_33 : decode cX11_load 33 = .ok (.getfield 42, 3) := by decide +kernel
theorem dX11_load_36 : decode cX11_load 36 = .ok (.getfield 185, 3) := by decide +kernel
theorem dX11_load_39 : decode cX11_load 39 = .ok (.iload_n 1, 1) := by decide +kernel
theorem dX11_load_40 : decode cX11_load 40 = .ok (.iaload, 1) := by decide +kernel
theorem dX11_load_41 : decode cX11_load 41 = .ok (.iconst 3, 1) := by decide +kernel
theorem dX11_load_42 : decode cX11_load 42 = .ok (.if_icmp .ne 6, 3) := by decide +kernel
theorem dX11_load_48 : decode cX11_load 48 = .ok (.aload_n 0, 1) := by decide +kernel
theorem dX11_load_49 : decode cX11_load 49 = .ok (.getfield 42, 3) := by decide +kernel
theorem dX11_load_52 : decode cX11_load 52 = .ok (.getfield 164, 3) := by decide +kernel
theorem dX11_load_55 : decode cX11_load 55 = .ok (.iload_n 1, 1) := by decide +kernel
theorem dX11_load_56 : decode cX11_load 56 = .ok (.iaload, 1) := by decide +kernel
theorem dX11_load_57 : decode cX11_load 57 = .ok (.istore_n 3, 1) := by decide +kernel
theorem dX11_load_58 : decode cX11_load 58 = .ok (.iload_n 2, 1) := by decide +kernel
theorem dX11_load_59 : decode cX11_load 59 = .ok (.bipush 9, 2) := by decide +kernel
theorem dX11_load_61 : decode cX11_load 61 = .ok (.iload_n 3, 1) := by decide +kernel
theorem dX11_load_62 : decode cX11_load 62 = .ok (.isub, 1) := by decide +kernel
theorem dX11_load_63 : decode cX11_load 63 = .ok (.if_icmp .gt 9, 3) := by decide +kernel
theorem dX11_load_72 : decode cX11_load 72 = .ok (.bipush (-3), 2) := by decide +kernel
theorem dX11_load_74 : decode cX11_load 74 = .ok (.ireturn, 1) := by decide +kernel
theorem dX11_load_66 : decode cX11_load 66 = .ok (.iload_n 2, 1) := by decide +kernel
theorem dX11_load_67 : decode cX11_load 67 = .ok (.iload_n 3, 1) := by decide +kernel
theorem dX11_load_68 : decode cX11_load 68 = .ok (.ineg, 1) := by decide +kernel
theorem dX11_load_69 : decode cX11_load 69 = .ok (.if_icmp .ge 6, 3) := by decide +kernel
theorem dX11_load_75 : decode cX11_load 75 = .ok (.aload_n 0, 1) := by decide +kernel
theorem dX11_load_76 : decode cX11_load 76 = .ok (.getfield 42, 3) := by decide +kernel
theorem dX11_load_79 : decode cX11_load 79 = .ok (.getfield 164, 3) := by decide +kernel
theorem dX11_load_82 : decode cX11_load 82 = .ok (.iload_n 1, 1) := by decide +kernel
theorem dX11_load_83 : decode cX11_load 83 = .ok (.iload_n 3, 1) := by decide +kernel
theorem dX11_load_84 : decode cX11_load 84 = .ok (.iload_n 2, 1) := by decide +kernel
theorem dX11_load_85 : decode cX11_load 85 = .ok (.iadd, 1) := by decide +kernel
theorem dX11_load_86 : decode cX11_load 86 = .ok (.iastore, 1) := by decide +kernel
theorem dX11_load_87 : decode cX11_load 87 = .ok (.iload_n 3, 1) := by decide +kernel
theorem dX11_load_88 : decode cX11_load 88 = .ok (.iload_n 2, 1) := by decide +kernel
theorem dX11_load_89 : decode cX11_load 89 = .ok (.iadd, 1) := by decide +kernel
theorem dX11_load_90 : decode cX11_load 90 = .ok (.ireturn, 1) := by decide +kernel
theorem dX11_load_45 : decode cX11_load 45 = .ok (.bipush (-2), 2) := by decide +kernel
theorem dX11_load_47 : decode cX11_load 47 = .ok (.ireturn, 1) := by decide +kernel
theorem dX11_load_18 : decode cX11_load 18 = .ok (.ifCond .le 14, 3) := by decide +kernel
theorem dX11_load_21 : decode cX11_load 21 = .ok (.aload_n 0, 1) := by decide +kernel
theorem dX11_load_22 : decode cX11_load 22 = .ok (.getfield 42, 3) := by decide +kernel
theorem dX11_load_25 : decode cX11_load 25 = .ok (.iload_n 1, 1) := by decide +kernel
theorem dX11_load_26 : decode cX11_load 26 = .ok (.invokevirtual 230, 3) := by decide +kernel
theorem dX11_load_29 : decode cX11_load 29 = .ok (.ifCond .eq 16, 3) := by decide +kernel
theorem dX11_sacks_0 : decode cX11_sacks 0 = .ok (.aload_n 0, 1) := by decide +kernel
theorem dX11_sacks_1 : decode cX11_sacks 1 = .ok (.getfield 52, 3) := by decide +kernel
theorem dX11_sacks_4 : decode cX11_sacks 4 = .ok (.aload_n 0, 1) := by decide +kernel
theorem dX11_sacks_5 : decode cX11_sacks 5 = .ok (.getfield 42, 3) := by decide +kernel
theorem dX11_sacks_8 : decode cX11_sacks 8 = .ok (.invokevirtual 210, 3) := by decide +kernel
theorem dX11_sacks_11 : decode cX11_sacks 11 = .ok (.aload_n 0, 1) := by decide +kernel
theorem dX11_sacks_12 : decode cX11_sacks 12 = .ok (.aload_n 0, 1) := by decide +kernel
theorem dX11_sacks_13 : decode cX11_sacks 13 = .ok (.iload_n 1, 1) := by decide +kernel
theorem dX11_sacks_14 : decode cX11_sacks 14 = .ok (.iload_n 2, 1) := by decide +kernel
theorem dX11_sacks_15 : decode cX11_sacks 15 = .ok (.invokevirtual 227, 3) := by decide +kernel
theorem dX11_sacks_18 : decode cX11_sacks 18 = .ok (.invokevirtual 218, 3) := by decide +kernel
theorem dX11_sacks_21 : decode cX11_sacks 21 = .ok (.ireturn, 1) := by decide +kernel
theorem dX11_cargo_0 : decode cX11_cargo 0 = .ok (.aload_n 0, 1) := by decide +kernel
theorem dX11_cargo_1 : decode cX11_cargo 1 = .ok (.getfield 42, 3) := by decide +kernel
theorem dX11_cargo_4 : decode cX11_cargo 4 = .ok (.iload_n 1, 1) := by decide +kernel
theorem dX11_cargo_5 : decode cX11_cargo 5 = .ok (.invokevirtual 160, 3) := by decide +kernel
theorem dX11_cargo_8 : decode cX11_cargo 8 = .ok (.ifCond .eq 13, 3) := by decide +kernel
theorem dX11_cargo_21 : decode cX11_cargo 21 = .ok (.iconst (-1), 1) := by decide +kernel
theorem dX11_cargo_22 : decode cX11_cargo 22 = .ok (.ireturn, 1) := by decide +kernel
theorem dX11_cargo_11 : decode cX11_cargo 11 = .ok (.iload_n 2, 1) := by decide +kernel
theorem dX11_cargo_12 : decode cX11_cargo 12 = .ok (.ifCond .lt 9, 3) := by decide +kernel
theorem dX11_cargo_15 : decode cX11_cargo 15 = .ok (.iload_n 2, 1) := by decide +kernel
theorem dX11_cargo_16 : decode cX11_cargo 16 = .ok (.bipush 9, 2) := by decide +kernel
theorem dX11_cargo_18 : decode cX11_cargo 18 = .ok (.if_icmp .le 5, 3) := by decide +kernel
theorem dX11_cargo_23 : decode cX11_cargo 23 = .ok (.aload_n 0, 1) := by decide +kernel
theorem dX11_cargo_24 : decode cX11_cargo 24 = .ok (.getfield 42, 3) := by decide +kernel
theorem dX11_cargo_27 : decode cX11_cargo 27 = .ok (.iload_n 1, 1) := by decide +kernel
theorem dX11_cargo_28 : decode cX11_cargo 28 = .ok (.invokevirtual 230, 3) := by decide +kernel
theorem dX11_cargo_31 : decode cX11_cargo 31 = .ok (.ifCond .ne 6, 3) := by decide +kernel
theorem dX11_cargo_37 : decode cX11_cargo 37 = .ok (.aload_n 0, 1) := by decide +kernel
theorem dX11_cargo_38 : decode cX11_cargo 38 = .ok (.getfield 52, 3) := by decide +kernel
theorem dX11_cargo_41 : decode cX11_cargo 41 = .ok (.aload_n 0, 1) := by decide +kernel
theorem dX11_cargo_42 : decode cX11_cargo 42 = .ok (.getfield 42, 3) := by decide +kernel
theorem dX11_cargo_45 : decode cX11_cargo 45 = .ok (.invokevirtual 210, 3) := by decide +kernel
theorem dX11_cargo_48 : decode cX11_cargo 48 = .ok (.aload_n 0, 1) := by decide +kernel
theorem dX11_cargo_49 : decode cX11_cargo 49 = .ok (.getfield 42, 3) := by decide +kernel
theorem dX11_cargo_52 : decode cX11_cargo 52 = .ok (.getfield 167, 3) := by decide +kernel
theorem dX11_cargo_55 : decode cX11_cargo 55 = .ok (.iload_n 1, 1) := by decide +kernel
theorem dX11_cargo_56 : decode cX11_cargo 56 = .ok (.iaload, 1) := by decide +kernel
theorem dX11_cargo_57 : decode cX11_cargo 57 = .ok (.istore_n 3, 1) := by decide +kernel
theorem dX11_cargo_58 : decode cX11_cargo 58 = .ok (.aload_n 0, 1) := by decide +kernel
theorem dX11_cargo_59 : decode cX11_cargo 59 = .ok (.getfield 42, 3) := by decide +kernel
theorem dX11_cargo_62 : decode cX11_cargo 62 = .ok (.getfield 167, 3) := by decide +kernel
theorem dX11_cargo_65 : decode cX11_cargo 65 = .ok (.iload_n 1, 1) := by decide +kernel
theorem dX11_cargo_66 : decode cX11_cargo 66 = .ok (.iload_n 2, 1) := by decide +kernel
theorem dX11_cargo_67 : decode cX11_cargo 67 = .ok (.iastore, 1) := by decide +kernel
theorem dX11_cargo_68 : decode cX11_cargo 68 = .ok (.aload_n 0, 1) := by decide +kernel
theorem dX11_cargo_69 : decode cX11_cargo 69 = .ok (.iload_n 3, 1) := by decide +kernel
theorem dX11_cargo_70 : decode cX11_cargo 70 = .ok (.invokevirtual 218, 3) := by decide +kernel
theorem dX11_cargo_73 : decode cX11_cargo 73 = .ok (.ireturn, 1) := by decide +kernel
theorem dX11_cargo_34 : decode cX11_cargo 34 = .ok (.bipush (-2), 2) := by decide +kernel
theorem dX11_cargo_36 : decode cX11_cargo 36 = .ok (.ireturn, 1) := by decide +kernel
theorem dX11_fill_0 : decode cX11_fill 0 = .ok (.aload_n 0, 1) := by decide +kernel
theorem dX11_fill_1 : decode cX11_fill 1 = .ok (.getfield 42, 3) := by decide +kernel
theorem dX11_fill_4 : decode cX11_fill 4 = .ok (.iload_n 1, 1) := by decide +kernel
theorem dX11_fill_5 : decode cX11_fill 5 = .ok (.invokevirtual 160, 3) := by decide +kernel
theorem dX11_fill_8 : decode cX11_fill 8 = .ok (.ifCond .eq 13, 3) := by decide +kernel
theorem dX11_fill_21 : decode cX11_fill 21 = .ok (.iconst (-1), 1) := by decide +kernel
theorem dX11_fill_22 : decode cX11_fill 22 = .ok (.ireturn, 1) := by decide +kernel
theorem dX11_fill_11 : decode cX11_fill 11 = .ok (.iload_n 2, 1) := by decide +kernel
theorem dX11_fill_12 : decode cX11_fill 12 = .ok (.ifCond .lt 9, 3) := by decide +kernel
theorem dX11_fill_15 : decode cX11_fill 15 = .ok (.iload_n 2, 1) := by decide +kernel
theorem dX11_fill_16 : decode cX11_fill 16 = .ok (.bipush 99, 2) := by decide +kernel
theorem dX11_fill_18 : decode cX11_fill 18 = .ok (.if_icmp .le 5, 3) := by decide +kernel
theorem dX11_fill_23 : decode cX11_fill 23 = .ok (.aload_n 0, 1) := by decide +kernel
theorem dX11_fill_24 : decode cX11_fill 24 = .ok (.getfield 42, 3) := by decide +kernel
theorem dX11_fill_27 : decode cX11_fill 27 = .ok (.getfield 185, 3) := by decide +kernel
theorem dX11_fill_30 : decode cX11_fill 30 = .ok (.iload_n 1, 1) := by decide +kernel
theorem dX11_fill_31 : decode cX11_fill 31 = .ok (.iaload, 1) := by decide +kernel
theorem dX11_fill_32 : decode cX11_fill 32 = .ok (.ifCond .eq 6, 3) := by decide +kernel
theorem dX11_fill_38 : decode cX11_fill 38 = .ok (.aload_n 0, 1) := by decide +kernel
theorem dX11_fill_39 : decode cX11_fill 39 = .ok (.getfield 52, 3) := by decide +kernel
theorem dX11_fill_42 : decode cX11_fill 42 = .ok (.aload_n 0, 1) := by decide +kernel
theorem dX11_fill_43 : decode cX11_fill 43 = .ok (.getfield 42, 3) := by decide +kernel
theorem dX11_fill_46 : decode cX11_fill 46 = .ok (.invokevirtual 210, 3) := by decide +kernel
theorem dX11_fill_49 : decode cX11_fill 49 = .ok (.aload_n 0, 1) := by decide +kernel
theorem dX11_fill_50 : decode cX11_fill 50 = .ok (.getfield 42, 3) := by decide +kernel
theorem dX11_fill_53 : decode cX11_fill 53 = .ok (.getfield 161, 3) := by decide +kernel
theorem dX11_fill_56 : decode cX11_fill 56 = .ok (.iload_n 1, 1) := by decide +kernel
theorem dX11_fill_57 : decode cX11_fill 57 = .ok (.iaload, 1) := by decide +kernel
theorem dX11_fill_58 : decode cX11_fill 58 = .ok (.istore_n 3, 1) := by decide +kernel
theorem dX11_fill_59 : decode cX11_fill 59 = .ok (.aload_n 0, 1) := by decide +kernel
theorem dX11_fill_60 : decode cX11_fill 60 = .ok (.getfield 42, 3) := by decide +kernel
theorem dX11_fill_63 : decode cX11_fill 63 = .ok (.getfield 161, 3) := by decide +kernel
theorem dX11_fill_66 : decode cX11_fill 66 = .ok (.iload_n 1, 1) := by decide +kernel
theorem dX11_fill_67 : decode cX11_fill 67 = .ok (.iload_n 2, 1) := by decide +kernel
theorem dX11_fill_68 : decode cX11_fill 68 = .ok (.iastore, 1) := by decide +kernel
theorem dX11_fill_69 : decode cX11_fill 69 = .ok (.aload_n 0, 1) := by decide +kernel
theorem dX11_fill_70 : decode cX11_fill 70 = .ok (.iload_n 3, 1) := by decide +kernel
theorem dX11_fill_71 : decode cX11_fill 71 = .ok (.invokevirtual 218, 3) := by decide +kernel
theorem dX11_fill_74 : decode cX11_fill 74 = .ok (.ireturn, 1) := by decide +kernel
theorem dX11_fill_35 : decode cX11_fill 35 = .ok (.bipush (-2), 2) := by decide +kernel
theorem dX11_fill_37 : decode cX11_fill 37 = .ok (.ireturn, 1) := by decide +kernel
theorem dX11_tell_0 : decode cX11_tell 0 = .ok (.aload_n 0, 1) := by decide +kernel
theorem dX11_tell_1 : decode cX11_tell 1 = .ok (.getfield 59, 3) := by decide +kernel
theorem dX11_tell_4 : decode cX11_tell 4 = .ok (.iconst 0, 1) := by decide +kernel
theorem dX11_tell_5 : decode cX11_tell 5 = .ok (.putfield 288, 3) := by decide +kernel
theorem dX11_tell_8 : decode cX11_tell 8 = .ok (.aload_n 0, 1) := by decide +kernel
theorem dX11_tell_9 : decode cX11_tell 9 = .ok (.getfield 59, 3) := by decide +kernel
theorem dX11_tell_12 : decode cX11_tell 12 = .ok (.lload_n 1, 1) := by decide +kernel
theorem dX11_tell_13 : decode cX11_tell 13 = .ok (.invokevirtual 306, 3) := by decide +kernel
theorem dX11_tell_16 : decode cX11_tell 16 = .ok (.aload_n 0, 1) := by decide +kernel
theorem dX11_tell_17 : decode cX11_tell 17 = .ok (.getfield 59, 3) := by decide +kernel
theorem dX11_tell_20 : decode cX11_tell 20 = .ok (.lload_n 3, 1) := by decide +kernel
theorem dX11_tell_21 : decode cX11_tell 21 = .ok (.invokevirtual 306, 3) := by decide +kernel
theorem dX11_tell_24 : decode cX11_tell 24 = .ok (.return_, 1) := by decide +kernel
theorem dX11_hours_0 : decode cX11_hours 0 = .ok (.iload_n 1, 1) := by decide +kernel
theorem dX11_hours_1 : decode cX11_hours 1 = .ok (.ifCond .lt 9, 3) := by decide +kernel
theorem dX11_hours_10 : decode cX11_hours 10 = .ok (.iconst (-1), 1) := by decide +kernel
theorem dX11_hours_11 : decode cX11_hours 11 = .ok (.ireturn, 1) := by decide +kernel
theorem dX11_hours_4 : decode cX11_hours 4 = .ok (.iload_n 1, 1) := by decide +kernel
theorem dX11_hours_5 : decode cX11_hours 5 = .ok (.bipush 48, 2) := by decide +kernel
theorem dX11_hours_7 : decode cX11_hours 7 = .ok (.if_icmp .le 5, 3) := by decide +kernel
theorem dX11_hours_12 : decode cX11_hours 12 = .ok (.aload_n 0, 1) := by decide +kernel
theorem dX11_hours_13 : decode cX11_hours 13 = .ok (.getfield 52, 3) := by decide +kernel
theorem dX11_hours_16 : decode cX11_hours 16 = .ok (.aload_n 0, 1) := by decide +kernel
theorem dX11_hours_17 : decode cX11_hours 17 = .ok (.getfield 42, 3) := by decide +kernel
theorem dX11_hours_20 : decode cX11_hours 20 = .ok (.invokevirtual 210, 3) := by decide +kernel
theorem dX11_hours_23 : decode cX11_hours 23 = .ok (.aload_n 0, 1) := by decide +kernel
theorem dX11_hours_24 : decode cX11_hours 24 = .ok (.aload_n 0, 1) := by decide +kernel
theorem dX11_hours_25 : decode cX11_hours 25 = .ok (.getfield 42, 3) := by decide +kernel
theorem dX11_hours_28 : decode cX11_hours 28 = .ok (.iload_n 1, 1) := by decide +kernel
theorem dX11_hours_29 : decode cX11_hours 29 = .ok (.invokevirtual 233, 3) := by decide +kernel
theorem dX11_hours_32 : decode cX11_hours 32 = .ok (.invokevirtual 218, 3) := by decide +kernel
theorem dX11_hours_35 : decode cX11_hours 35 = .ok (.istore_n 2, 1) := by decide +kernel
theorem dX11_hours_36 : decode cX11_hours 36 = .ok (.aload_n 0, 1) := by decide +kernel
theorem dX11_hours_37 : decode cX11_hours 37 = .ok (.aload_n 0, 1) := by decide +kernel
theorem dX11_hours_38 : decode cX11_hours 38 = .ok (.getfield 42, 3) := by decide +kernel
theorem dX11_hours_41 : decode cX11_hours 41 = .ok (.getfield 236, 3) := by decide +kernel
theorem dX11_hours_44 : decode cX11_hours 44 = .ok (.i2l, 1) := by decide +kernel
theorem dX11_hours_45 : decode cX11_hours 45 = .ok (.aload_n 0, 1) := by decide +kernel
theorem dX11_hours_46 : decode cX11_hours 46 = .ok (.getfield 42, 3) := by decide +kernel
theorem dX11_hours_49 : decode cX11_hours 49 = .ok (.getfield 239, 3) := by decide +kernel
theorem dX11_hours_52 : decode cX11_hours 52 = .ok (.i2l, 1) := by decide +kernel
theorem dX11_hours_53 : decode cX11_hours 53 = .ok (.invokevirtual 242, 3) := by decide +kernel
theorem dX11_hours_56 : decode cX11_hours 56 = .ok (.iload_n 2, 1) := by decide +kernel
theorem dX11_hours_57 : decode cX11_hours 57 = .ok (.ireturn, 1) := by decide +kernel
theorem dX11_carryOut_0 : decode cX11_carryOut 0 = .ok (.iload_n 1, 1) := by decide +kernel
theorem dX11_carryOut_1 : decode cX11_carryOut 1 = .ok (.ifCond .lt 14, 3) := by decide +kernel
theorem dX11_carryOut_15 : decode cX11_carryOut 15 = .ok (.iconst (-1), 1) := by decide +kernel
theorem dX11_carryOut_16 : decode cX11_carryOut 16 = .ok (.ireturn, 1) := by decide +kernel
theorem dX11_carryOut_4 : decode cX11_carryOut 4 = .ok (.iload_n 1, 1) := by decide +kernel
theorem dX11_carryOut_5 : decode cX11_carryOut 5 = .ok (.aload_n 0, 1) := by decide +kernel
theorem dX11_carryOut_6 : decode cX11_carryOut 6 = .ok (.getfield 73, 3) := by decide +kernel
theorem dX11_carryOut_9 : decode cX11_carryOut 9 = .ok (.getfield 255, 3) := by decide +kernel
theorem dX11_carryOut_12 : decode cX11_carryOut 12 = .ok (.if_icmp .lt 5, 3) := by decide +kernel
theorem dX11_carryOut_17 : decode cX11_carryOut 17 = .ok (.aload_n 0, 1) := by decide +kernel
theorem dX11_carryOut_18 : decode cX11_carryOut 18 = .ok (.getfield 73, 3) := by decide +kernel
theorem dX11_carryOut_21 : decode cX11_carryOut 21 = .ok (.getfield 279, 3) := by decide +kernel
theorem dX11_carryOut_24 : decode cX11_carryOut 24 = .ok (.iload_n 1, 1) := by decide +kernel
theorem dX11_carryOut_25 : decode cX11_carryOut 25 = .ok (.iaload, 1) := by decide +kernel
theorem dX11_carryOut_26 : decode cX11_carryOut 26 = .ok (.istore_n 2, 1) := by decide +kernel
theorem dX11_carryOut_27 : decode cX11_carryOut 27 = .ok (.aload_n 0, 1) := by decide +kernel
theorem dX11_carryOut_28 : decode cX11_carryOut 28 = .ok (.getfield 73, 3) := by decide +kernel
theorem dX11_carryOut_31 : decode cX11_carryOut 31 = .ok (.getfield 282, 3) := by decide +kernel
theorem dX11_carryOut_34 : decode cX11_carryOut 34 = .ok (.iload_n 1, 1) := by decide +kernel
theorem dX11_carryOut_35 : decode cX11_carryOut 35 = .ok (.iaload, 1) := by decide +kernel
theorem dX11_carryOut_36 : decode cX11_carryOut 36 = .ok (.istore_n 3, 1) := by decide +kernel
theorem dX11_carryOut_37 : decode cX11_carryOut 37 = .ok (.aload_n 0, 1) := by decide +kernel
theorem dX11_carryOut_38 : decode cX11_carryOut 38 = .ok (.getfield 73, 3) := by decide +kernel
theorem dX11_carryOut_41 : decode cX11_carryOut 41 = .ok (.getfield 285, 3) := by decide +kernel
theorem dX11_carryOut_44 : decode cX11_carryOut 44 = .ok (.iload_n 1, 1) := by decide +kernel
theorem dX11_carryOut_45 : decode cX11_carryOut 45 = .ok (.iaload, 1) := by decide +kernel
theorem dX11_carryOut_46 : decode cX11_carryOut 46 = .ok (.lookupswitch 101 #[(99, 66), (104, 82), (108, 50), (109, 59), (115, 75)], 50) := by decide +kernel
theorem dX11_carryOut_112 : decode cX11_carryOut 112 = .ok (.aload_n 0, 1) := by decide +kernel
theorem dX11_carryOut_113 : decode cX11_carryOut 113 = .ok (.getfield 42, 3) := by decide +kernel
theorem dX11_carryOut_116 : decode cX11_carryOut 116 = .ok (.iload_n 2, 1) := by decide +kernel
theorem dX11_carryOut_117 : decode cX11_carryOut 117 = .ok (.invokestatic 224, 3) := by decide +kernel
theorem dX11_carryOut_120 : decode cX11_carryOut 120 = .ok (.ireturn, 1) := by decide +kernel
theorem dX11_carryOut_128 : decode cX11_carryOut 128 = .ok (.iload_n 2, 1) := by decide +kernel
theorem dX11_carryOut_129 : decode cX11_carryOut 129 = .ok (.bipush 48, 2) := by decide +kernel
theorem dX11_carryOut_131 : decode cX11_carryOut 131 = .ok (.if_icmp .le 7, 3) := by decide +kernel
theorem dX11_carryOut_138 : decode cX11_carryOut 138 = .ok (.aload_n 0, 1) := by decide +kernel
theorem dX11_carryOut_139 : decode cX11_carryOut 139 = .ok (.getfield 42, 3) := by decide +kernel
theorem dX11_carryOut_142 : decode cX11_carryOut 142 = .ok (.iload_n 2, 1) := by decide +kernel
theorem dX11_carryOut_143 : decode cX11_carryOut 143 = .ok (.invokevirtual 233, 3) := by decide +kernel
theorem dX11_carryOut_146 : decode cX11_carryOut 146 = .ok (.ireturn, 1) := by decide +kernel
theorem dX11_carryOut_134 : decode cX11_carryOut 134 = .ok (.iconst (-1), 1) := by decide +kernel
theorem dX11_carryOut_135 : decode cX11_carryOut 135 = .ok (.goto 11, 3) := by decide +kernel
theorem dX11_carryOut_96 : decode cX11_carryOut 96 = .ok (.aload_n 0, 1) := by decide +kernel
theorem dX11_carryOut_97 : decode cX11_carryOut 97 = .ok (.getfield 42, 3) := by decide +kernel
theorem dX11_carryOut_100 : decode cX11_carryOut 100 = .ok (.iload_n 2, 1) := by decide +kernel
theorem dX11_carryOut_101 : decode cX11_carryOut 101 = .ok (.invokestatic 214, 3) := by decide +kernel
theorem dX11_carryOut_104 : decode cX11_carryOut 104 = .ok (.ireturn, 1) := by decide +kernel
theorem dX11_carryOut_105 : decode cX11_carryOut 105 = .ok (.aload_n 0, 1) := by decide +kernel
theorem dX11_carryOut_106 : decode cX11_carryOut 106 = .ok (.iload_n 2, 1) := by decide +kernel
theorem dX11_carryOut_107 : decode cX11_carryOut 107 = .ok (.iload_n 3, 1) := by decide +kernel
theorem dX11_carryOut_108 : decode cX11_carryOut 108 = .ok (.invokevirtual 221, 3) := by decide +kernel
theorem dX11_carryOut_111 : decode cX11_carryOut 111 = .ok (.ireturn, 1) := by decide +kernel
theorem dX11_carryOut_121 : decode cX11_carryOut 121 = .ok (.aload_n 0, 1) := by decide +kernel
theorem dX11_carryOut_122 : decode cX11_carryOut 122 = .ok (.iload_n 2, 1) := by decide +kernel
theorem dX11_carryOut_123 : decode cX11_carryOut 123 = .ok (.iload_n 3, 1) := by decide +kernel
theorem dX11_carryOut_124 : decode cX11_carryOut 124 = .ok (.invokevirtual 227, 3) := by decide +kernel
theorem dX11_carryOut_127 : decode cX11_carryOut 127 = .ok (.ireturn, 1) := by decide +kernel
theorem dX11_carryOut_147 : decode cX11_carryOut 147 = .ok (.iconst (-1), 1) := by decide +kernel
theorem dX11_carryOut_148 : decode cX11_carryOut 148 = .ok (.ireturn, 1) := by decide +kernel
theorem dX11_day_0 : decode cX11_day 0 = .ok (.aload_n 0, 1) := by decide +kernel
theorem dX11_day_1 : decode cX11_day 1 = .ok (.getfield 10, 3) := by decide +kernel
theorem dX11_day_4 : decode cX11_day 4 = .ok (.bipush 60, 2) := by decide +kernel
theorem dX11_day_6 : decode cX11_day 6 = .ok (.invokevirtual 103, 3) := by decide +kernel
theorem dX11_day_9 : decode cX11_day 9 = .ok (.aload_n 0, 1) := by decide +kernel
theorem dX11_day_10 : decode cX11_day 10 = .ok (.getfield 73, 3) := by decide +kernel
theorem dX11_day_13 : decode cX11_day 13 = .ok (.aload_n 0, 1) := by decide +kernel
theorem dX11_day_14 : decode cX11_day 14 = .ok (.getfield 10, 3) := by decide +kernel
theorem dX11_day_17 : decode cX11_day 17 = .ok (.invokevirtual 246, 3) := by decide +kernel
theorem dX11_day_20 : decode cX11_day 20 = .ok (.istore_n 1, 1) := by decide +kernel
theorem dX11_day_21 : decode cX11_day 21 = .ok (.aload_n 0, 1) := by decide +kernel
theorem dX11_day_22 : decode cX11_day 22 = .ok (.getfield 10, 3) := by decide +kernel
theorem dX11_day_25 : decode cX11_day 25 = .ok (.invokevirtual 111, 3) := by decide +kernel
theorem dX11_day_28 : decode cX11_day 28 = .ok (.iload_n 1, 1) := by decide +kernel
theorem dX11_day_29 : decode cX11_day 29 = .ok (.ifCond .ne 11, 3) := by decide +kernel
theorem dX11_day_40 : decode cX11_day 40 = .ok (.aload_n 0, 1) := by decide +kernel
theorem dX11_day_41 : decode cX11_day 41 = .ok (.getfield 52, 3) := by decide +kernel
theorem dX11_day_44 : decode cX11_day 44 = .ok (.aload_n 0, 1) := by decide +kernel
theorem dX11_day_45 : decode cX11_day 45 = .ok (.getfield 42, 3) := by decide +kernel
theorem dX11_day_48 : decode cX11_day 48 = .ok (.invokevirtual 210, 3) := by decide +kernel
theorem dX11_day_51 : decode cX11_day 51 = .ok (.aload_n 0, 1) := by decide +kernel
theorem dX11_day_52 : decode cX11_day 52 = .ok (.getfield 42, 3) := by decide +kernel
theorem dX11_day_55 : decode cX11_day 55 = .ok (.iconst 3, 1) := by decide +kernel
theorem dX11_day_56 : decode cX11_day 56 = .ok (.invokevirtual 247, 3) := by decide +kernel
theorem dX11_day_59 : decode cX11_day 59 = .ok (.invokestatic 250, 3) := by decide +kernel
theorem dX11_day_62 : decode cX11_day 62 = .ok (.istore_n 2, 1) := by decide +kernel
theorem dX11_day_63 : decode cX11_day 63 = .ok (.iconst 0, 1) := by decide +kernel
theorem dX11_day_64 : decode cX11_day 64 = .ok (.istore_n 3, 1) := by decide +kernel
theorem dX11_day_65 : decode cX11_day 65 = .ok (.iload_n 3, 1) := by decide +kernel
theorem dX11_day_66 : decode cX11_day 66 = .ok (.aload_n 0, 1) := by decide +kernel
theorem dX11_day_67 : decode cX11_day 67 = .ok (.getfield 73, 3) := by decide +kernel
theorem dX11_day_70 : decode cX11_day 70 = .ok (.getfield 255, 3) := by decide +kernel
theorem dX11_day_73 : decode cX11_day 73 = .ok (.if_icmp .ge 17, 3) := by decide +kernel
theorem dX11_day_76 : decode cX11_day 76 = .ok (.aload_n 0, 1) := by decide +kernel
theorem dX11_day_77 : decode cX11_day 77 = .ok (.iload_n 3, 1) := by decide +kernel
theorem dX11_day_78 : decode cX11_day 78 = .ok (.invokevirtual 256, 3) := by decide +kernel
theorem dX11_day_81 : decode cX11_day 81 = .ok (.ifCond .lt 9, 3) := by decide +kernel
theorem dX11_day_84 : decode cX11_day 84 = .ok (.iinc 3 1, 3) := by decide +kernel
theorem dX11_day_87 : decode cX11_day 87 = .ok (.goto (-22), 3) := by decide +kernel
theorem dX11_day_90 : decode cX11_day 90 = .ok (.iload_n 3, 1) := by decide +kernel
theorem dX11_day_101 : decode cX11_day 101 = .ok (.aload_n 0, 1) := by decide +kernel
theorem dX11_day_102 : decode cX11_day 102 = .ok (.iload_n 3, 1) := by decide +kernel
theorem dX11_day_103 : decode cX11_day 103 = .ok (.aload_n 0, 1) := by decide +kernel
theorem dX11_day_104 : decode cX11_day 104 = .ok (.getfield 73, 3) := by decide +kernel
theorem dX11_day_107 : decode cX11_day 107 = .ok (.getfield 255, 3) := by decide +kernel
theorem dX11_day_118 : decode cX11_day 118 = .ok (.aload_n 0, 1) := by decide +kernel
theorem dX11_day_119 : decode cX11_day 119 = .ok (.getfield 42, 3) := by decide +kernel
theorem dX11_day_122 : decode cX11_day 122 = .ok (.iconst 3, 1) := by decide +kernel
theorem dX11_day_123 : decode cX11_day 123 = .ok (.invokevirtual 247, 3) := by decide +kernel
theorem dX11_day_126 : decode cX11_day 126 = .ok (.invokestatic 250, 3) := by decide +kernel
theorem dX11_day_129 : decode cX11_day 129 = .ok (.iload_n 2, 1) := by decide +kernel
theorem dX11_day_130 : decode cX11_day 130 = .ok (.isub, 1) := by decide +kernel
theorem dX11_day_131 : decode cX11_day 131 = .ok (.i2l, 1) := by decide +kernel
theorem dX11_day_132 : decode cX11_day 132 = .ok (.invokevirtual 242, 3) := by decide +kernel
theorem dX11_day_135 : decode cX11_day 135 = .ok (.iload_n 3, 1) := by decide +kernel
theorem dX11_day_136 : decode cX11_day 136 = .ok (.ireturn, 1) := by decide +kernel
theorem dX11_day_110 : decode cX11_day 110 = .ok (.if_icmp .ge 7, 3) := by decide +kernel
theorem dX11_day_117 : decode cX11_day 117 = .ok (.lconst 0, 1) := by decide +kernel
theorem dX11_day_113 : decode cX11_day 113 = .ok (.lconst 1, 1) := by decide +kernel
theorem dX11_day_114 : decode cX11_day 114 = .ok (.goto 4, 3) := by decide +kernel
theorem dX11_day_91 : decode cX11_day 91 = .ok (.ifCond .le 10, 3) := by decide +kernel
theorem dX11_day_94 : decode cX11_day 94 = .ok (.aload_n 0, 1) := by decide +kernel
theorem dX11_day_95 : decode cX11_day 95 = .ok (.getfield 52, 3) := by decide +kernel
theorem dX11_day_98 : decode cX11_day 98 = .ok (.invokevirtual 259, 3) := by decide +kernel
theorem dX11_day_32 : decode cX11_day 32 = .ok (.aload_n 0, 1) := by decide +kernel
theorem dX11_day_33 : decode cX11_day 33 = .ok (.getfield 10, 3) := by decide +kernel
theorem dX11_day_36 : decode cX11_day 36 = .ok (.invokevirtual 114, 3) := by decide +kernel
theorem dX11_day_39 : decode cX11_day 39 = .ok (.ireturn, 1) := by decide +kernel
theorem dX11_undo_0 : decode cX11_undo 0 = .ok (.aload_n 0, 1) := by decide +kernel
theorem dX11_undo_1 : decode cX11_undo 1 = .ok (.getfield 52, 3) := by decide +kernel
theorem dX11_undo_4 : decode cX11_undo 4 = .ok (.aload_n 0, 1) := by decide +kernel
theorem dX11_undo_5 : decode cX11_undo 5 = .ok (.getfield 42, 3) := by decide +kernel
theorem dX11_undo_8 : decode cX11_undo 8 = .ok (.invokevirtual 262, 3) := by decide +kernel
theorem dX11_undo_11 : decode cX11_undo 11 = .ok (.ifCond .eq 13, 3) := by decide +kernel
theorem dX11_undo_24 : decode cX11_undo 24 = .ok (.iconst (-1), 1) := by decide +kernel
theorem dX11_undo_25 : decode cX11_undo 25 = .ok (.ireturn, 1) := by decide +kernel
theorem dX11_undo_14 : decode cX11_undo 14 = .ok (.aload_n 0, 1) := by decide +kernel
theorem dX11_undo_15 : decode cX11_undo 15 = .ok (.getfield 52, 3) := by decide +kernel
theorem dX11_undo_18 : decode cX11_undo 18 = .ok (.getfield 266, 3) := by decide +kernel
theorem dX11_undo_21 : decode cX11_undo 21 = .ok (.goto 4, 3) := by decide +kernel
theorem dX11_tellFirst_0 : decode cX11_tellFirst 0 = .ok (.iload_n 1, 1) := by decide +kernel
theorem dX11_tellFirst_1 : decode cX11_tellFirst 1 = .ok (.iconst 1, 1) := by decide +kernel
theorem dX11_tellFirst_2 : decode cX11_tellFirst 2 = .ok (.if_icmp .ne 11, 3) := by decide +kernel
theorem dX11_tellFirst_13 : decode cX11_tellFirst 13 = .ok (.return_, 1) := by decide +kernel
theorem dX11_tellFirst_5 : decode cX11_tellFirst 5 = .ok (.aload_n 0, 1) := by decide +kernel
theorem dX11_tellFirst_6 : decode cX11_tellFirst 6 = .ok (.iload_n 2, 1) := by decide +kernel
theorem dX11_tellFirst_7 : decode cX11_tellFirst 7 = .ok (.i2l, 1) := by decide +kernel
theorem dX11_tellFirst_8 : decode cX11_tellFirst 8 = .ok (.iload_n 3, 1) := by decide +kernel
theorem dX11_tellFirst_9 : decode cX11_tellFirst 9 = .ok (.i2l, 1) := by decide +kernel
theorem dX11_tellFirst_10 : decode cX11_tellFirst 10 = .ok (.invokevirtual 242, 3) := by decide +kernel
theorem dX11_touches_0 : decode cX11_touches 0 = .ok (.aload_n 0, 1) := by decide +kernel
theorem dX11_touches_1 : decode cX11_touches 1 = .ok (.getfield 59, 3) := by decide +kernel
theorem dX11_touches_4 : decode cX11_touches 4 = .ok (.iconst 0, 1) := by decide +kernel
theorem dX11_touches_5 : decode cX11_touches 5 = .ok (.putfield 288, 3) := by decide +kernel
theorem dX11_touches_8 : decode cX11_touches 8 = .ok (.iconst 0, 1) := by decide +kernel
theorem dX11_touches_9 : decode cX11_touches 9 = .ok (.istore_n 1, 1) := by decide +kernel
theorem dX11_touches_10 : decode cX11_touches 10 = .ok (.iconst 0, 1) := by decide +kernel
theorem dX11_touches_11 : decode cX11_touches 11 = .ok (.istore_n 2, 1) := by decide +kernel
theorem dX11_touches_12 : decode cX11_touches 12 = .ok (.iload_n 2, 1) := by decide +kernel
theorem dX11_touches_13 : decode cX11_touches 13 = .ok (.aload_n 0, 1) := by decide +kernel
theorem dX11_touches_14 : decode cX11_touches 14 = .ok (.getfield 42, 3) := by decide +kernel
theorem dX11_touches_17 : decode cX11_touches 17 = .ok (.getfield 197, 3) := by decide +kernel
theorem dX11_touches_20 : decode cX11_touches 20 = .ok (.if_icmp .ge 52, 3) := by decide +kernel
theorem dX11_touches_23 : decode cX11_touches 23 = .ok (.iload_n 2, 1) := by decide +kernel
theorem dX11_touches_24 : decode cX11_touches 24 = .ok (.iconst 1, 1) := by decide +kernel
theorem dX11_touches_25 : decode cX11_touches 25 = .ok (.iadd, 1) := by decide +kernel
theorem dX11_touches_26 : decode cX11_touches 26 = .ok (.istore_n 3, 1) := by decide +kernel
theorem dX11_touches_27 : decode cX11_touches 27 = .ok (.iload_n 3, 1) := by decide +kernel
theorem dX11_touches_28 : decode cX11_touches 28 = .ok (.aload_n 0, 1) := by decide +kernel
theorem dX11_touches_29 : decode cX11_touches 29 = .ok (.getfield 42, 3) := by decide +kernel
theorem dX11_touches_32 : decode cX11_touches 32 = .ok (.getfield 197, 3) := by decide +kernel
theorem dX11_touches_35 : decode cX11_touches 35 = .ok (.if_icmp .ge 31, 3) := by decide +kernel
theorem dX11_touches_38 : decode cX11_touches 38 = .ok (.aload_n 0, 1) := by decide +kernel
theorem dX11_touches_39 : decode cX11_touches 39 = .ok (.getfield 42, 3) := by decide +kernel
theorem dX11_touches_42 : decode cX11_touches 42 = .ok (.iload_n 2, 1) := by decide +kernel
theorem dX11_touches_43 : decode cX11_touches 43 = .ok (.iload_n 3, 1) := by decide +kernel
theorem dX11_touches_44 : decode cX11_touches 44 = .ok (.invokevirtual 289, 3) := by decide +kernel
theorem dX11_touches_60 : decode cX11_touches 60 = .ok (.iinc 3 1, 3) := by decide +kernel
theorem dX11_touches_63 : decode cX11_touches 63 = .ok (.goto (-36), 3) := by decide +kernel
theorem dX11_touches_47 : decode cX11_touches 47 = .ok (.ifCond .eq 13, 3) := by decide +kernel
theorem dX11_touches_50 : decode cX11_touches 50 = .ok (.iinc 1 1, 3) := by decide +kernel
theorem dX11_touches_53 : decode cX11_touches 53 = .ok (.aload_n 0, 1) := by decide +kernel
theorem dX11_touches_54 : decode cX11_touches 54 = .ok (.iload_n 1, 1) := by decide +kernel
theorem dX11_touches_55 : decode cX11_touches 55 = .ok (.iload_n 2, 1) := by decide +kernel
theorem dX11_touches_56 : decode cX11_touches 56 = .ok (.iload_n 3, 1) := by decide +kernel
theorem dX11_touches_57 : decode cX11_touches 57 = .ok (.invokevirtual 293, 3) := by decide +kernel
theorem dX11_touches_66 : decode cX11_touches 66 = .ok (.iinc 2 1, 3) := by decide +kernel
theorem dX11_touches_69 : decode cX11_touches 69 = .ok (.goto (-57), 3) := by decide +kernel
theorem dX11_touches_72 : decode cX11_touches 72 = .ok (.iload_n 1, 1) := by decide +kernel
theorem dX11_touches_73 : decode cX11_touches 73 = .ok (.ireturn, 1) := by decide +kernel
theorem dX11_breaches_0 : decode cX11_breaches 0 = .ok (.aload_n 0, 1) := by decide +kernel
theorem dX11_breaches_1 : decode cX11_breaches 1 = .ok (.getfield 59, 3) := by decide +kernel
theorem dX11_breaches_4 : decode cX11_breaches 4 = .ok (.iconst 0, 1) := by decide +kernel
theorem dX11_breaches_5 : decode cX11_breaches 5 = .ok (.putfield 288, 3) := by decide +kernel
theorem dX11_breaches_8 : decode cX11_breaches 8 = .ok (.iconst 0, 1) := by decide +kernel
theorem dX11_breaches_9 : decode cX11_breaches 9 = .ok (.istore_n 1, 1) := by decide +kernel
theorem dX11_breaches_10 : decode cX11_breaches 10 = .ok (.iconst 0, 1) := by decide +kernel
theorem dX11_breaches_11 : decode cX11_breaches 11 = .ok (.istore_n 2, 1) := by decide +kernel
theorem dX11_breaches_12 : decode cX11_breaches 12 = .ok (.iload_n 2, 1) := by decide +kernel
theorem dX11_breaches_13 : decode cX11_breaches 13 = .ok (.aload_n 0, 1) := by decide +kernel
theorem dX11_breaches_14 : decode cX11_breaches 14 = .ok (.getfield 42, 3) := by decide +kernel
theorem dX11_breaches_17 : decode cX11_breaches 17 = .ok (.getfield 197, 3) := by decide +kernel
theorem dX11_breaches_20 : decode cX11_breaches 20 = .ok (.if_icmp .ge 50, 3) := by decide +kernel
theorem dX11_breaches_23 : decode cX11_breaches 23 = .ok (.iconst 0, 1) := by decide +kernel
theorem dX11_breaches_24 : decode cX11_breaches 24 = .ok (.istore_n 3, 1) := by decide +kernel
theorem dX11_breaches_25 : decode cX11_breaches 25 = .ok (.iload_n 3, 1) := by decide +kernel
theorem dX11_breaches_26 : decode cX11_breaches 26 = .ok (.aload_n 0, 1) := by decide +kernel
theorem dX11_breaches_27 : decode cX11_breaches 27 = .ok (.getfield 42, 3) := by decide +kernel
theorem dX11_breaches_30 : decode cX11_breaches 30 = .ok (.getfield 197, 3) := by decide +kernel
theorem dX11_breaches_33 : decode cX11_breaches 33 = .ok (.if_icmp .ge 31, 3) := by decide +kernel
theorem dX11_breaches_36 : decode cX11_breaches 36 = .ok (.aload_n 0, 1) := by decide +kernel
theorem dX11_breaches_37 : decode cX11_breaches 37 = .ok (.getfield 42, 3) := by decide +kernel
theorem dX11_breaches_40 : decode cX11_breaches 40 = .ok (.iload_n 2, 1) := by decide +kernel
theorem dX11_breaches_41 : decode cX11_breaches 41 = .ok (.iload_n 3, 1) := by decide +kernel
theorem dX11_breaches_42 : decode cX11_breaches 42 = .ok (.invokevirtual 297, 3) := by decide +kernel
theorem dX11_breaches_58 : decode cX11_breaches 58 = .ok (.iinc 3 1, 3) := by decide +kernel
theorem dX11_breaches_61 : decode cX11_breaches 61 = .ok (.goto (-36), 3) := by decide +kernel
theorem dX11_breaches_45 : decode cX11_breaches 45 = .ok (.ifCond .eq 13, 3) := by decide +kernel
theorem dX11_breaches_48 : decode cX11_breaches 48 = .ok (.iinc 1 1, 3) := by decide +kernel
theorem dX11_breaches_51 : decode cX11_breaches 51 = .ok (.aload_n 0, 1) := by decide +kernel
theorem dX11_breaches_52 : decode cX11_breaches 52 = .ok (.iload_n 1, 1) := by decide +kernel
theorem dX11_breaches_53 : decode cX11_breaches 53 = .ok (.iload_n 2, 1) := by decide +kernel
theorem dX11_breaches_54 : decode cX11_breaches 54 = .ok (.iload_n 3, 1) := by decide +kernel
theorem dX11_breaches_55 : decode cX11_breaches 55 = .ok (.invokevirtual 293, 3) := by decide +kernel
theorem dX11_breaches_64 : decode cX11_breaches 64 = .ok (.iinc 2 1, 3) := by decide +kernel
theorem dX11_breaches_67 : decode cX11_breaches 67 = .ok (.goto (-55), 3) := by decide +kernel
theorem dX11_breaches_70 : decode cX11_breaches 70 = .ok (.iload_n 1, 1) := by decide +kernel
theorem dX11_breaches_71 : decode cX11_breaches 71 = .ok (.ireturn, 1) := by decide +kernel
theorem dX11_drifts_0 : decode cX11_drifts 0 = .ok (.aload_n 0, 1) := by decide +kernel
theorem dX11_drifts_1 : decode cX11_drifts 1 = .ok (.getfield 42, 3) := by decide +kernel
theorem dX11_drifts_4 : decode cX11_drifts 4 = .ok (.iload_n 1, 1) := by decide +kernel
theorem dX11_drifts_5 : decode cX11_drifts 5 = .ok (.invokevirtual 160, 3) := by decide +kernel
theorem dX11_drifts_8 : decode cX11_drifts 8 = .ok (.ifCond .eq 13, 3) := by decide +kernel
theorem dX11_drifts_21 : decode cX11_drifts 21 = .ok (.iconst (-1), 1) := by decide +kernel
theorem dX11_drifts_22 : decode cX11_drifts 22 = .ok (.ireturn, 1) := by decide +kernel
theorem dX11_drifts_11 : decode cX11_drifts 11 = .ok (.iload_n 2, 1) := by decide +kernel
theorem dX11_drifts_12 : decode cX11_drifts 12 = .ok (.ifCond .lt 9, 3) := by decide +kernel
theorem dX11_drifts_15 : decode cX11_drifts 15 = .ok (.iload_n 2, 1) := by decide +kernel
theorem dX11_drifts_16 : decode cX11_drifts 16 = .ok (.bipush 60, 2) := by decide +kernel
theorem dX11_drifts_18 : decode cX11_drifts 18 = .ok (.if_icmp .le 5, 3) := by decide +kernel
theorem dX11_drifts_23 : decode cX11_drifts 23 = .ok (.aload_n 0, 1) := by decide +kernel
theorem dX11_drifts_24 : decode cX11_drifts 24 = .ok (.getfield 46, 3) := by decide +kernel
theorem dX11_drifts_27 : decode cX11_drifts 27 = .ok (.aload_n 0, 1) := by decide +kernel
theorem dX11_drifts_28 : decode cX11_drifts 28 = .ok (.getfield 42, 3) := by decide +kernel
theorem dX11_drifts_31 : decode cX11_drifts 31 = .ok (.invokevirtual 300, 3) := by decide +kernel
theorem dX11_drifts_34 : decode cX11_drifts 34 = .ok (.aload_n 0, 1) := by decide +kernel
theorem dX11_drifts_35 : decode cX11_drifts 35 = .ok (.getfield 46, 3) := by decide +kernel
theorem dX11_drifts_38 : decode cX11_drifts 38 = .ok (.iload_n 2, 1) := by decide +kernel
theorem dX11_drifts_39 : decode cX11_drifts 39 = .ok (.invokevirtual 233, 3) := by decide +kernel
theorem dX11_drifts_42 : decode cX11_drifts 42 = .ok (.pop, 1) := by decide +kernel
theorem dX11_drifts_43 : decode cX11_drifts 43 = .ok (.aload_n 0, 1) := by decide +kernel
theorem dX11_drifts_44 : decode cX11_drifts 44 = .ok (.getfield 46, 3) := by decide +kernel
theorem dX11_drifts_47 : decode cX11_drifts 47 = .ok (.getfield 185, 3) := by decide +kernel
theorem dX11_drifts_50 : decode cX11_drifts 50 = .ok (.iload_n 1, 1) := by decide +kernel
theorem dX11_drifts_51 : decode cX11_drifts 51 = .ok (.iaload, 1) := by decide +kernel
theorem dX11_drifts_52 : decode cX11_drifts 52 = .ok (.istore_n 3, 1) := by decide +kernel
theorem dX11_drifts_53 : decode cX11_drifts 53 = .ok (.aload_n 0, 1) := by decide +kernel
theorem dX11_drifts_54 : decode cX11_drifts 54 = .ok (.aload_n 0, 1) := by decide +kernel
theorem dX11_drifts_55 : decode cX11_drifts 55 = .ok (.getfield 46, 3) := by decide +kernel
theorem dX11_drifts_58 : decode cX11_drifts 58 = .ok (.getfield 161, 3) := by decide +kernel
theorem dX11_drifts_61 : decode cX11_drifts 61 = .ok (.iload_n 1, 1) := by decide +kernel
theorem dX11_drifts_62 : decode cX11_drifts 62 = .ok (.iaload, 1) := by decide +kernel
theorem dX11_drifts_63 : decode cX11_drifts 63 = .ok (.i2l, 1) := by decide +kernel
theorem dX11_drifts_64 : decode cX11_drifts 64 = .ok (.iload_n 3, 1) := by decide +kernel
theorem dX11_drifts_65 : decode cX11_drifts 65 = .ok (.iconst 2, 1) := by decide +kernel
theorem dX11_drifts_90 : decode cX11_drifts 90 = .ok (.invokevirtual 242, 3) := by decide +kernel
theorem dX11_drifts_93 : decode cX11_drifts 93 = .ok (.iload_n 3, 1) := by decide +kernel
theorem dX11_drifts_94 : decode cX11_drifts 94 = .ok (.ireturn, 1) := by decide +kernel
theorem dX11_drifts_66 : decode cX11_drifts 66 = .ok (.if_icmp .ne 15, 3) := by decide +kernel
theorem dX11_drifts_81 : decode cX11_drifts 81 = .ok (.aload_n 0, 1) := by decide +kernel
theorem dX11_drifts_82 : decode cX11_drifts 82 = .ok (.getfield 46, 3) := by decide +kernel
theorem dX11_drifts_85 : decode cX11_drifts 85 = .ok (.iload_n 1, 1) := by decide +kernel
theorem dX11_drifts_86 : decode cX11_drifts 86 = .ok (.invokevirtual 191, 3) := by decide +kernel
theorem dX11_drifts_89 : decode cX11_drifts 89 = .ok (.i2l, 1) := by decide +kernel
theorem dX11_drifts_69 : decode cX11_drifts 69 = .ok (.aload_n 0, 1) := by decide +kernel
theorem dX11_drifts_70 : decode cX11_drifts 70 = .ok (.getfield 46, 3) := by decide +kernel
theorem dX11_drifts_73 : decode cX11_drifts 73 = .ok (.iload_n 1, 1) := by decide +kernel
theorem dX11_drifts_74 : decode cX11_drifts 74 = .ok (.invokevirtual 188, 3) := by decide +kernel
theorem dX11_drifts_77 : decode cX11_drifts 77 = .ok (.i2l, 1) := by decide +kernel
theorem dX11_drifts_78 : decode cX11_drifts 78 = .ok (.goto 12, 3) := by decide +kernel
theorem dX11_sinks_0 : decode cX11_sinks 0 = .ok (.aload_n 0, 1) := by decide +kernel
theorem dX11_sinks_1 : decode cX11_sinks 1 = .ok (.getfield 42, 3) := by decide +kernel
theorem dX11_sinks_4 : decode cX11_sinks 4 = .ok (.iload_n 1, 1) := by decide +kernel
theorem dX11_sinks_5 : decode cX11_sinks 5 = .ok (.invokevirtual 160, 3) := by decide +kernel
theorem dX11_sinks_8 : decode cX11_sinks 8 = .ok (.ifCond .ne 5, 3) := by decide +kernel
theorem dX11_sinks_13 : decode cX11_sinks 13 = .ok (.aload_n 0, 1) := by decide +kernel
theorem dX11_sinks_14 : decode cX11_sinks 14 = .ok (.getfield 42, 3) := by decide +kernel
theorem dX11_sinks_17 : decode cX11_sinks 17 = .ok (.iload_n 1, 1) := by decide +kernel
theorem dX11_sinks_18 : decode cX11_sinks 18 = .ok (.invokevirtual 303, 3) := by decide +kernel
theorem dX11_sinks_21 : decode cX11_sinks 21 = .ok (.ifCond .ne 6, 3) := by decide +kernel
theorem dX11_sinks_27 : decode cX11_sinks 27 = .ok (.aload_n 0, 1) := by decide +kernel
theorem dX11_sinks_28 : decode cX11_sinks 28 = .ok (.getfield 46, 3) := by decide +kernel
theorem dX11_sinks_31 : decode cX11_sinks 31 = .ok (.aload_n 0, 1) := by decide +kernel
theorem dX11_sinks_32 : decode cX11_sinks 32 = .ok (.getfield 42, 3) := by decide +kernel
theorem dX11_sinks_35 : decode cX11_sinks 35 = .ok (.invokevirtual 300, 3) := by decide +kernel
theorem dX11_sinks_38 : decode cX11_sinks 38 = .ok (.iconst 1, 1) := by decide +kernel
theorem dX11_sinks_39 : decode cX11_sinks 39 = .ok (.istore_n 2, 1) := by decide +kernel
theorem dX11_sinks_40 : decode cX11_sinks 40 = .ok (.iload_n 2, 1) := by decide +kernel
theorem dX11_sinks_41 : decode cX11_sinks 41 = .ok (.bipush 99, 2) := by decide +kernel
theorem dX11_sinks_43 : decode cX11_sinks 43 = .ok (.if_icmp .gt 56, 3) := by decide +kernel
theorem dX11_sinks_99 : decode cX11_sinks 99 = .ok (.bipush (-2), 2) := by decide +kernel
theorem dX11_sinks_101 : decode cX11_sinks 101 = .ok (.ireturn, 1) := by decide +kernel
theorem dX11_sinks_46 : decode cX11_sinks 46 = .ok (.aload_n 0, 1) := by decide +kernel
theorem dX11_sinks_47 : decode cX11_sinks 47 = .ok (.getfield 46, 3) := by decide +kernel
theorem dX11_sinks_50 : decode cX11_sinks 50 = .ok (.iconst 1, 1) := by decide +kernel
theorem dX11_sinks_51 : decode cX11_sinks 51 = .ok (.invokevirtual 233, 3) := by decide +kernel
theorem dX11_sinks_54 : decode cX11_sinks 54 = .ok (.pop, 1) := by decide +kernel
theorem dX11_sinks_55 : decode cX11_sinks 55 = .ok (.aload_n 0, 1) := by decide +kernel
theorem dX11_sinks_56 : decode cX11_sinks 56 = .ok (.getfield 46, 3) := by decide +kernel
theorem dX11_sinks_59 : decode cX11_sinks 59 = .ok (.iload_n 1, 1) := by decide +kernel
theorem dX11_sinks_60 : decode cX11_sinks 60 = .ok (.invokevirtual 303, 3) := by decide +kernel
theorem dX11_sinks_63 : decode cX11_sinks 63 = .ok (.ifCond .ne 30, 3) := by decide +kernel
theorem dX11_sinks_93 : decode cX11_sinks 93 = .ok (.iinc 2 1, 3) := by decide +kernel
theorem dX11_sinks_96 : decode cX11_sinks 96 = .ok (.goto (-56), 3) := by decide +kernel
theorem dX11_sinks_66 : decode cX11_sinks 66 = .ok (.aload_n 0, 1) := by decide +kernel
theorem dX11_sinks_67 : decode cX11_sinks 67 = .ok (.getfield 59, 3) := by decide +kernel
theorem dX11_sinks_70 : decode cX11_sinks 70 = .ok (.iconst 0, 1) := by decide +kernel
theorem dX11_sinks_71 : decode cX11_sinks 71 = .ok (.putfield 288, 3) := by decide +kernel
theorem dX11_sinks_74 : decode cX11_sinks 74 = .ok (.aload_n 0, 1) := by decide +kernel
theorem dX11_sinks_75 : decode cX11_sinks 75 = .ok (.getfield 59, 3) := by decide +kernel
theorem dX11_sinks_78 : decode cX11_sinks 78 = .ok (.aload_n 0, 1) := by decide +kernel
theorem dX11_sinks_79 : decode cX11_sinks 79 = .ok (.getfield 46, 3) := by decide +kernel
theorem dX11_sinks_82 : decode cX11_sinks 82 = .ok (.getfield 185, 3) := by decide +kernel
theorem dX11_sinks_85 : decode cX11_sinks 85 = .ok (.iload_n 1, 1) := by decide +kernel
theorem dX11_sinks_86 : decode cX11_sinks 86 = .ok (.iaload, 1) := by decide +kernel
theorem dX11_sinks_87 : decode cX11_sinks 87 = .ok (.i2l, 1) := by decide +kernel
theorem dX11_sinks_88 : decode cX11_sinks 88 = .ok (.invokevirtual 306, 3) := by decide +kernel
theorem dX11_sinks_91 : decode cX11_sinks 91 = .ok (.iload_n 2, 1) := by decide +kernel
theorem dX11_sinks_92 : decode cX11_sinks 92 = .ok (.ireturn, 1) := by decide +kernel
theorem dX11_sinks_24 : decode cX11_sinks 24 = .ok (.bipush (-3), 2) := by decide +kernel
theorem dX11_sinks_26 : decode cX11_sinks 26 = .ok (.ireturn, 1) := by decide +kernel
theorem dX11_sinks_11 : decode cX11_sinks 11 = .ok (.iconst (-1), 1) := by decide +kernel
theorem dX11_sinks_12 : decode cX11_sinks 12 = .ok (.ireturn, 1) := by decide +kernel
theorem dX11_rises_0 : decode cX11_rises 0 = .ok (.aload_n 0, 1) := by decide +kernel
theorem dX11_rises_1 : decode cX11_rises 1 = .ok (.getfield 42, 3) := by decide +kernel
theorem dX11_rises_4 : decode cX11_rises 4 = .ok (.iload_n 1, 1) := by decide +kernel
theorem dX11_rises_5 : decode cX11_rises 5 = .ok (.invokevirtual 160, 3) := by decide +kernel
theorem dX11_rises_8 : decode cX11_rises 8 = .ok (.ifCond .eq 13, 3) := by decide +kernel
theorem dX11_rises_21 : decode cX11_rises 21 = .ok (.iconst (-1), 1) := by decide +kernel
theorem dX11_rises_22 : decode cX11_rises 22 = .ok (.ireturn, 1) := by decide +kernel
theorem dX11_rises_11 : decode cX11_rises 11 = .ok (.iload_n 2, 1) := by decide +kernel
theorem dX11_rises_12 : decode cX11_rises 12 = .ok (.ifCond .lt 9, 3) := by decide +kernel
theorem dX11_rises_15 : decode cX11_rises 15 = .ok (.iload_n 2, 1) := by decide +kernel
theorem dX11_rises_16 : decode cX11_rises 16 = .ok (.bipush 10, 2) := by decide +kernel
theorem dX11_rises_18 : decode cX11_rises 18 = .ok (.if_icmp .lt 5, 3) := by decide +kernel
theorem dX11_rises_23 : decode cX11_rises 23 = .ok (.aload_n 0, 1) := by decide +kernel
theorem dX11_rises_24 : decode cX11_rises 24 = .ok (.getfield 42, 3) := by decide +kernel
theorem dX11_rises_27 : decode cX11_rises 27 = .ok (.getfield 185, 3) := by decide +kernel
theorem dX11_rises_30 : decode cX11_rises 30 = .ok (.iload_n 1, 1) := by decide +kernel
theorem dX11_rises_31 : decode cX11_rises 31 = .ok (.iaload, 1) := by decide +kernel
theorem dX11_rises_32 : decode cX11_rises 32 = .ok (.iconst 3, 1) := by decide +kernel
theorem dX11_rises_33 : decode cX11_rises 33 = .ok (.if_icmp .ne 6, 3) := by decide +kernel
theorem dX11_rises_39 : decode cX11_rises 39 = .ok (.aload_n 0, 1) := by decide +kernel
theorem dX11_rises_40 : decode cX11_rises 40 = .ok (.getfield 42, 3) := by decide +kernel
theorem dX11_rises_43 : decode cX11_rises 43 = .ok (.getfield 164, 3) := by decide +kernel
theorem dX11_rises_46 : decode cX11_rises 46 = .ok (.iload_n 1, 1) := by decide +kernel
theorem dX11_rises_47 : decode cX11_rises 47 = .ok (.iaload, 1) := by decide +kernel
theorem dX11_rises_48 : decode cX11_rises 48 = .ok (.istore_n 3, 1) := by decide +kernel
theorem dX11_rises_49 : decode cX11_rises 49 = .ok (.iconst 0, 1) := by decide +kernel
theorem dX11_rises_50 : decode cX11_rises 50 = .ok (.istore 4, 2) := by decide +kernel
theorem dX11_rises_52 : decode cX11_rises 52 = .ok (.iload 4, 2) := by decide +kernel
theorem dX11_rises_54 : decode cX11_rises 54 = .ok (.iload_n 3, 1) := by decide +kernel
theorem dX11_rises_55 : decode cX11_rises 55 = .ok (.if_icmp .gt 63, 3) := by decide +kernel
theorem dX11_rises_118 : decode cX11_rises 118 = .ok (.bipush (-2), 2) := by decide +kernel
theorem dX11_rises_120 : decode cX11_rises 120 = .ok (.ireturn, 1) := by decide +kernel
theorem dX11_rises_58 : decode cX11_rises 58 = .ok (.aload_n 0, 1) := by decide +kernel
theorem dX11_rises_59 : decode cX11_rises 59 = .ok (.getfield 42, 3) := by decide +kernel
theorem dX11_rises_62 : decode cX11_rises 62 = .ok (.iload_n 1, 1) := by decide +kernel
theorem dX11_rises_63 : decode cX11_rises 63 = .ok (.aload_n 0, 1) := by decide +kernel
theorem dX11_rises_64 : decode cX11_rises 64 = .ok (.getfield 42, 3) := by decide +kernel
theorem dX11_rises_67 : decode cX11_rises 67 = .ok (.getfield 161, 3) := by decide +kernel
theorem dX11_rises_70 : decode cX11_rises 70 = .ok (.iload_n 1, 1) := by decide +kernel
theorem dX11_rises_71 : decode cX11_rises 71 = .ok (.iaload, 1) := by decide +kernel
theorem dX11_rises_72 : decode cX11_rises 72 = .ok (.iload_n 3, 1) := by decide +kernel
theorem dX11_rises_73 : decode cX11_rises 73 = .ok (.iload 4, 2) := by decide +kernel
theorem dX11_rises_75 : decode cX11_rises 75 = .ok (.isub, 1) := by decide +kernel
theorem dX11_rises_76 : decode cX11_rises 76 = .ok (.iconst 0, 1) := by decide +kernel
theorem dX11_rises_77 : decode cX11_rises 77 = .ok (.invokevirtual 310, 3) := by decide +kernel
theorem dX11_rises_80 : decode cX11_rises 80 = .ok (.invokestatic 182, 3) := by decide +kernel
theorem dX11_rises_83 : decode cX11_rises 83 = .ok (.istore 5, 2) := by decide +kernel
theorem dX11_rises_85 : decode cX11_rises 85 = .ok (.iload 5, 2) := by decide +kernel
theorem dX11_rises_87 : decode cX11_rises 87 = .ok (.iload_n 2, 1) := by decide +kernel
theorem dX11_rises_88 : decode cX11_rises 88 = .ok (.if_icmp .lt 24, 3) := by decide +kernel
theorem dX11_rises_112 : decode cX11_rises 112 = .ok (.iinc 4 1, 3) := by decide +kernel
theorem dX11_rises_115 : decode cX11_rises 115 = .ok (.goto (-63), 3) := by decide +kernel
theorem dX11_rises_91 : decode cX11_rises 91 = .ok (.aload_n 0, 1) := by decide +kernel
theorem dX11_rises_92 : decode cX11_rises 92 = .ok (.getfield 59, 3) := by decide +kernel
theorem dX11_rises_95 : decode cX11_rises 95 = .ok (.iconst 0, 1) := by decide +kernel
theorem dX11_rises_96 : decode cX11_rises 96 = .ok (.putfield 288, 3) := by decide +kernel
theorem dX11_rises_99 : decode cX11_rises 99 = .ok (.aload_n 0, 1) := by decide +kernel
theorem dX11_rises_100 : decode cX11_rises 100 = .ok (.getfield 59, 3) := by decide +kernel
theorem dX11_rises_103 : decode cX11_rises 103 = .ok (.iload 5, 2) := by decide +kernel
theorem dX11_rises_105 : decode cX11_rises 105 = .ok (.i2l, 1) := by decide +kernel
theorem dX11_rises_106 : decode cX11_rises 106 = .ok (.invokevirtual 306, 3) := by decide +kernel
theorem dX11_rises_109 : decode cX11_rises 109 = .ok (.iload 4, 2) := by decide +kernel
theorem dX11_rises_111 : decode cX11_rises 111 = .ok (.ireturn, 1) := by decide +kernel
theorem dX11_rises_36 : decode cX11_rises 36 = .ok (.bipush (-3), 2) := by decide +kernel
theorem dX11_rises_38 : decode cX11_rises 38 = .ok (.ireturn, 1) := by decide +kernel
theorem dX11_berths_0 : decode cX11_berths 0 = .ok (.aload_n 0, 1) := by decide +kernel
theorem dX11_berths_1 : decode cX11_berths 1 = .ok (.getfield 42, 3) := by decide +kernel
theorem dX11_berths_4 : decode cX11_berths 4 = .ok (.iload_n 1, 1) := by decide +kernel
theorem dX11_berths_5 : decode cX11_berths 5 = .ok (.invokevirtual 314, 3) := by decide +kernel
theorem dX11_berths_8 : decode cX11_berths 8 = .ok (.ifCond .ne 5, 3) := by decide +kernel
theorem dX11_berths_13 : decode cX11_berths 13 = .ok (.aload_n 0, 1) := by decide +kernel
theorem dX11_berths_14 : decode cX11_berths 14 = .ok (.getfield 82, 3) := by decide +kernel
theorem dX11_berths_17 : decode cX11_berths 17 = .ok (.iload_n 1, 1) := by decide +kernel
theorem dX11_berths_18 : decode cX11_berths 18 = .ok (.invokevirtual 317, 3) := by decide +kernel
theorem dX11_berths_21 : decode cX11_berths 21 = .ok (.aload_n 0, 1) := by decide +kernel
theorem dX11_berths_22 : decode cX11_berths 22 = .ok (.getfield 82, 3) := by decide +kernel
theorem dX11_berths_25 : decode cX11_berths 25 = .ok (.invokevirtual 320, 3) := by decide +kernel
theorem dX11_berths_28 : decode cX11_berths 28 = .ok (.istore_n 2, 1) := by decide +kernel
theorem dX11_berths_29 : decode cX11_berths 29 = .ok (.aload_n 0, 1) := by decide +kernel
theorem dX11_berths_30 : decode cX11_berths 30 = .ok (.getfield 59, 3) := by decide +kernel
theorem dX11_berths_33 : decode cX11_berths 33 = .ok (.iconst 0, 1) := by decide +kernel
theorem dX11_berths_34 : decode cX11_berths 34 = .ok (.putfield 288, 3) := by decide +kernel
theorem dX11_berths_37 : decode cX11_berths 37 = .ok (.iconst 0, 1) := by decide +kernel
theorem dX11_berths_38 : decode cX11_berths 38 = .ok (.istore_n 3, 1) := by decide +kernel
theorem dX11_berths_39 : decode cX11_berths 39 = .ok (.iload_n 2, 1) := by decide +kernel
theorem dX11_berths_40 : decode cX11_berths 40 = .ok (.ifCond .le 37, 3) := by decide +kernel
theorem dX11_berths_43 : decode cX11_berths 43 = .ok (.iload_n 3, 1) := by decide +kernel
theorem dX11_berths_44 : decode cX11_berths 44 = .ok (.aload_n 0, 1) := by decide +kernel
theorem dX11_berths_45 : decode cX11_berths 45 = .ok (.getfield 82, 3) := by decide +kernel
theorem dX11_berths_48 : decode cX11_berths 48 = .ok (.getfield 323, 3) := by decide +kernel
theorem dX11_berths_51 : decode cX11_berths 51 = .ok (.if_icmp .ge 26, 3) := by decide +kernel
theorem dX11_berths_54 : decode cX11_berths 54 = .ok (.aload_n 0, 1) := by decide +kernel
theorem dX11_berths_55 : decode cX11_berths 55 = .ok (.getfield 59, 3) := by decide +kernel
theorem dX11_berths_58 : decode cX11_berths 58 = .ok (.aload_n 0, 1) := by decide +kernel
theorem dX11_berths_59 : decode cX11_berths 59 = .ok (.getfield 82, 3) := by decide +kernel
theorem dX11_berths_62 : decode cX11_berths 62 = .ok (.getfield 324, 3) := by decide +kernel
theorem dX11_berths_65 : decode cX11_berths 65 = .ok (.iload_n 3, 1) := by decide +kernel
theorem dX11_berths_66 : decode cX11_berths 66 = .ok (.iaload, 1) := by decide +kernel
theorem dX11_berths_67 : decode cX11_berths 67 = .ok (.i2l, 1) := by decide +kernel
theorem dX11_berths_68 : decode cX11_berths 68 = .ok (.invokevirtual 306, 3) := by decide +kernel
theorem dX11_berths_71 : decode cX11_berths 71 = .ok (.iinc 3 1, 3) := by decide +kernel
theorem dX11_berths_74 : decode cX11_berths 74 = .ok (.goto (-35), 3) := by decide +kernel
theorem dX11_berths_77 : decode cX11_berths 77 = .ok (.iload_n 2, 1) := by decide +kernel
theorem dX11_berths_78 : decode cX11_berths 78 = .ok (.ireturn, 1) := by decide +kernel
theorem dX11_berths_11 : decode cX11_berths 11 = .ok (.iconst (-1), 1) := by decide +kernel
theorem dX11_berths_12 : decode cX11_berths 12 = .ok (.ireturn, 1) := by decide +kernel
theorem dX11_served_0 : decode cX11_served 0 = .ok (.aload_n 0, 1) := by decide +kernel
theorem dX11_served_1 : decode cX11_served 1 = .ok (.getfield 42, 3) := by decide +kernel
theorem dX11_served_4 : decode cX11_served 4 = .ok (.iload_n 1, 1) := by decide +kernel
theorem dX11_served_5 : decode cX11_served 5 = .ok (.invokevirtual 314, 3) := by decide +kernel
theorem dX11_served_8 : decode cX11_served 8 = .ok (.ifCond .ne 5, 3) := by decide +kernel
theorem dX11_served_13 : decode cX11_served 13 = .ok (.iconst 0, 1) := by decide +kernel
theorem dX11_served_14 : decode cX11_served 14 = .ok (.istore_n 2, 1) := by decide +kernel
theorem dX11_served_15 : decode cX11_served 15 = .ok (.iconst 0, 1) := by decide +kernel
theorem dX11_served_16 : decode cX11_served 16 = .ok (.istore_n 3, 1) := by decide +kernel
theorem dX11_served_17 : decode cX11_served 17 = .ok (.iconst 1, 1) := by decide +kernel
theorem dX11_served_18 : decode cX11_served 18 = .ok (.istore 4, 2) := by decide +kernel
theorem dX11_served_20 : decode cX11_served 20 = .ok (.iload 4, 2) := by decide +kernel
theorem dX11_served_22 : decode cX11_served 22 = .ok (.iload_n 1, 1) := by decide +kernel
theorem dX11_served_23 : decode cX11_served 23 = .ok (.if_icmp .gt 55, 3) := by decide +kernel
theorem dX11_served_26 : decode cX11_served 26 = .ok (.iload 4, 2) := by decide +kernel
theorem dX11_served_28 : decode cX11_served 28 = .ok (.iload_n 1, 1) := by decide +kernel
theorem dX11_served_29 : decode cX11_served 29 = .ok (.iconst (-1), 1) := by decide +kernel
theorem dX11_served_30 : decode cX11_served 30 = .ok (.ixor, 1) := by decide +kernel
theorem dX11_served_31 : decode cX11_served 31 = .ok (.iand, 1) := by decide +kernel
theorem dX11_served_72 : decode cX11_served 72 = .ok (.iinc 4 1, 3) := by decide +kernel
theorem dX11_served_75 : decode cX11_served 75 = .ok (.goto (-55), 3) := by decide +kernel
theorem dX11_served_32 : decode cX11_served 32 = .ok (.ifCond .ne 40, 3) := by decide +kernel
theorem dX11_served_35 : decode cX11_served 35 = .ok (.iload 4, 2) := by decide +kernel
theorem dX11_served_37 : decode cX11_served 37 = .ok (.invokestatic 250, 3) := by decide +kernel
theorem dX11_served_40 : decode cX11_served 40 = .ok (.iload_n 2, 1) := by decide +kernel
theorem dX11_served_41 : decode cX11_served 41 = .ok (.if_icmp .le 31, 3) := by decide +kernel
theorem dX11_served_44 : decode cX11_served 44 = .ok (.aload_n 0, 1) := by decide +kernel
theorem dX11_served_45 : decode cX11_served 45 = .ok (.getfield 82, 3) := by decide +kernel
theorem dX11_served_48 : decode cX11_served 48 = .ok (.iload 4, 2) := by decide +kernel
theorem dX11_served_50 : decode cX11_served 50 = .ok (.invokevirtual 317, 3) := by decide +kernel
theorem dX11_served_53 : decode cX11_served 53 = .ok (.aload_n 0, 1) := by decide +kernel
theorem dX11_served_54 : decode cX11_served 54 = .ok (.getfield 82, 3) := by decide +kernel
theorem dX11_served_57 : decode cX11_served 57 = .ok (.invokevirtual 327, 3) := by decide +kernel
theorem dX11_served_60 : decode cX11_served 60 = .ok (.ifCond .eq 12, 3) := by decide +kernel
theorem dX11_served_63 : decode cX11_served 63 = .ok (.iload 4, 2) := by decide +kernel
theorem dX11_served_65 : decode cX11_served 65 = .ok (.invokestatic 250, 3) := by decide +kernel
theorem dX11_served_68 : decode cX11_served 68 = .ok (.istore_n 2, 1) := by decide +kernel
theorem dX11_served_69 : decode cX11_served 69 = .ok (.iload 4, 2) := by decide +kernel
theorem dX11_served_71 : decode cX11_served 71 = .ok (.istore_n 3, 1) := by decide +kernel
theorem dX11_served_78 : decode cX11_served 78 = .ok (.aload_n 0, 1) := by decide +kernel
theorem dX11_served_79 : decode cX11_served 79 = .ok (.getfield 59, 3) := by decide +kernel
theorem dX11_served_82 : decode cX11_served 82 = .ok (.iconst 0, 1) := by decide +kernel
theorem dX11_served_83 : decode cX11_served 83 = .ok (.putfield 288, 3) := by decide +kernel
theorem dX11_served_86 : decode cX11_served 86 = .ok (.aload_n 0, 1) := by decide +kernel
theorem dX11_served_87 : decode cX11_served 87 = .ok (.getfield 59, 3) := by decide +kernel
theorem dX11_served_90 : decode cX11_served 90 = .ok (.iload_n 3, 1) := by decide +kernel
theorem dX11_served_91 : decode cX11_served 91 = .ok (.i2l, 1) := by decide +kernel
theorem dX11_served_92 : decode cX11_served 92 = .ok (.invokevirtual 306, 3) := by decide +kernel
theorem dX11_served_95 : decode cX11_served 95 = .ok (.iload_n 2, 1) := by decide +kernel
theorem dX11_served_96 : decode cX11_served 96 = .ok (.ireturn, 1) := by decide +kernel
theorem dX11_served_11 : decode cX11_served 11 = .ok (.iconst (-1), 1) := by decide +kernel
theorem dX11_served_12 : decode cX11_served 12 = .ok (.ireturn, 1) := by decide +kernel
theorem dX11_yields_0 : decode cX11_yields 0 = .ok (.aload_n 0, 1) := by decide +kernel
theorem dX11_yields_1 : decode cX11_yields 1 = .ok (.getfield 42, 3) := by decide +kernel
theorem dX11_yields_4 : decode cX11_yields 4 = .ok (.iload_n 1, 1) := by decide +kernel
theorem dX11_yields_5 : decode cX11_yields 5 = .ok (.invokevirtual 160, 3) := by decide +kernel
theorem dX11_yields_8 : decode cX11_yields 8 = .ok (.ifCond .ne 5, 3) := by decide +kernel
theorem dX11_yields_13 : decode cX11_yields 13 = .ok (.iconst 1, 1) := by decide +kernel
theorem dX11_yields_14 : decode cX11_yields 14 = .ok (.aload_n 0, 1) := by decide +kernel
theorem dX11_yields_15 : decode cX11_yields 15 = .ok (.getfield 19, 3) := by decide +kernel
theorem dX11_yields_18 : decode cX11_yields 18 = .ok (.getfield 331, 3) := by decide +kernel
theorem dX11_yields_21 : decode cX11_yields 21 = .ok (.ishl, 1) := by decide +kernel
theorem dX11_yields_22 : decode cX11_yields 22 = .ok (.iconst 1, 1) := by decide +kernel
theorem dX11_yields_23 : decode cX11_yields 23 = .ok (.isub, 1) := by decide +kernel
theorem dX11_yields_24 : decode cX11_yields 24 = .ok (.istore_n 2, 1) := by decide +kernel
theorem dX11_yields_25 : decode cX11_yields 25 = .ok (.aload_n 0, 1) := by decide +kernel
theorem dX11_yields_26 : decode cX11_yields 26 = .ok (.getfield 42, 3) := by decide +kernel
theorem dX11_yields_29 : decode cX11_yields 29 = .ok (.iload_n 1, 1) := by decide +kernel
theorem dX11_yields_30 : decode cX11_yields 30 = .ok (.invokevirtual 176, 3) := by decide +kernel
theorem dX11_yields_33 : decode cX11_yields 33 = .ok (.istore_n 3, 1) := by decide +kernel
theorem dX11_yields_34 : decode cX11_yields 34 = .ok (.iconst 0, 1) := by decide +kernel
theorem dX11_yields_35 : decode cX11_yields 35 = .ok (.istore 4, 2) := by decide +kernel
theorem dX11_yields_37 : decode cX11_yields 37 = .ok (.iload 4, 2) := by decide +kernel
theorem dX11_yields_39 : decode cX11_yields 39 = .ok (.aload_n 0, 1) := by decide +kernel
theorem dX11_yields_40 : decode cX11_yields 40 = .ok (.getfield 42, 3) := by decide +kernel
theorem dX11_yields_43 : decode cX11_yields 43 = .ok (.getfield 197, 3) := by decide +kernel
theorem dX11_yields_46 : decode cX11_yields 46 = .ok (.if_icmp .ge 78, 3) := by decide +kernel
theorem dX11_yields_49 : decode cX11_yields 49 = .ok (.aload_n 0, 1) := by decide +kernel
theorem dX11_yields_50 : decode cX11_yields 50 = .ok (.getfield 42, 3) := by decide +kernel
theorem dX11_yields_53 : decode cX11_yields 53 = .ok (.getfield 185, 3) := by decide +kernel
theorem dX11_yields_56 : decode cX11_yields 56 = .ok (.iload 4, 2) := by decide +kernel
theorem dX11_yields_58 : decode cX11_yields 58 = .ok (.iaload, 1) := by decide +kernel
theorem dX11_yields_59 : decode cX11_yields 59 = .ok (.iconst 2, 1) := by decide +kernel
theorem dX11_yields_118 : decode cX11_yields 118 = .ok (.iinc 4 1, 3) := by decide +kernel
theorem dX11_yields_121 : decode cX11_yields 121 = .ok (.goto (-84), 3) := by decide +kernel
theorem dX11_yields_60 : decode cX11_yields 60 = .ok (.if_icmp .ne 58, 3) := by decide +kernel
theorem dX11_yields_63 : decode cX11_yields 63 = .ok (.iload_n 2, 1) := by decide +kernel
theorem dX11_yields_64 : decode cX11_yields 64 = .ok (.iconst 1, 1) := by decide +kernel
theorem dX11_yields_65 : decode cX11_yields 65 = .ok (.aload_n 0, 1) := by decide +kernel
theorem dX11_yields_66 : decode cX11_yields 66 = .ok (.getfield 42, 3) := by decide +kernel
theorem dX11_yields_69 : decode cX11_yields 69 = .ok (.getfield 276, 3) := by decide +kernel
theorem dX11_yields_72 : decode cX11_yields 72 = .ok (.iload 4, 2) := by decide +kernel
theorem dX11_yields_74 : decode cX11_yields 74 = .ok (.iaload, 1) := by decide +kernel
theorem dX11_yields_75 : decode cX11_yields 75 = .ok (.ishl, 1) := by decide +kernel
theorem dX11_yields_76 : decode cX11_yields 76 = .ok (.iconst (-1), 1) := by decide +kernel
theorem dX11_yields_77 : decode cX11_yields 77 = .ok (.ixor, 1) := by decide +kernel
theorem dX11_yields_78 : decode cX11_yields 78 = .ok (.iand, 1) := by decide +kernel
theorem dX11_yields_79 : decode cX11_yields 79 = .ok (.istore_n 2, 1) := by decide +kernel
theorem dX11_yields_80 : decode cX11_yields 80 = .ok (.iload 4, 2) := by decide +kernel
theorem dX11_yields_82 : decode cX11_yields 82 = .ok (.iload_n 1, 1) := by decide +kernel
theorem dX11_yields_83 : decode cX11_yields 83 = .ok (.if_icmp .eq 35, 3) := by decide +kernel
theorem dX11_yields_86 : decode cX11_yields 86 = .ok (.iload_n 2, 1) := by decide +kernel
theorem dX11_yields_87 : decode cX11_yields 87 = .ok (.aload_n 0, 1) := by decide +kernel
theorem dX11_yields_88 : decode cX11_yields 88 = .ok (.getfield 19, 3) := by decide +kernel
theorem dX11_yields_91 : decode cX11_yields 91 = .ok (.aload_n 0, 1) := by decide +kernel
theorem dX11_yields_92 : decode cX11_yields 92 = .ok (.getfield 42, 3) := by decide +kernel
theorem dX11_yields_95 : decode cX11_yields 95 = .ok (.getfield 276, 3) := by decide +kernel
theorem dX11_yields_98 : decode cX11_yields 98 = .ok (.iload 4, 2) := by decide +kernel
theorem dX11_yields_100 : decode cX11_yields 100 = .ok (.iaload, 1) := by decide +kernel
theorem dX11_yields_101 : decode cX11_yields 101 = .ok (.aload_n 0, 1) := by decide +kernel
theorem dX11_yields_102 : decode cX11_yields 102 = .ok (.getfield 42, 3) := by decide +kernel
theorem dX11_yields_105 : decode cX11_yields 105 = .ok (.iload 4, 2) := by decide +kernel
theorem dX11_yields_107 : decode cX11_yields 107 = .ok (.invokevirtual 176, 3) := by decide +kernel
theorem dX11_yields_110 : decode cX11_yields 110 = .ok (.iload_n 3, 1) := by decide +kernel
theorem dX11_yields_111 : decode cX11_yields 111 = .ok (.invokevirtual 332, 3) := by decide +kernel
theorem dX11_yields_114 : decode cX11_yields 114 = .ok (.iconst (-1), 1) := by decide +kernel
theorem dX11_yields_115 : decode cX11_yields 115 = .ok (.ixor, 1) := by decide +kernel
theorem dX11_yields_116 : decode cX11_yields 116 = .ok (.iand, 1) := by decide +kernel
theorem dX11_yields_117 : decode cX11_yields 117 = .ok (.istore_n 2, 1) := by decide +kernel
theorem dX11_yields_124 : decode cX11_yields 124 = .ok (.aload_n 0, 1) := by decide +kernel
theorem dX11_yields_125 : decode cX11_yields 125 = .ok (.getfield 59, 3) := by decide +kernel
theorem dX11_yields_128 : decode cX11_yields 128 = .ok (.iconst 0, 1) := by decide +kernel
theorem dX11_yields_129 : decode cX11_yields 129 = .ok (.putfield 288, 3) := by decide +kernel
theorem dX11_yields_132 : decode cX11_yields 132 = .ok (.aload_n 0, 1) := by decide +kernel
theorem dX11_yields_133 : decode cX11_yields 133 = .ok (.getfield 59, 3) := by decide +kernel
theorem dX11_yields_136 : decode cX11_yields 136 = .ok (.iload_n 2, 1) := by decide +kernel
theorem dX11_yields_137 : decode cX11_yields 137 = .ok (.invokestatic 250, 3) := by decide +kernel
theorem dX11_yields_140 : decode cX11_yields 140 = .ok (.i2l, 1) := by decide +kernel
theorem dX11_yields_141 : decode cX11_yields 141 = .ok (.invokevirtual 306, 3) := by decide +kernel
theorem dX11_yields_144 : decode cX11_yields 144 = .ok (.iload_n 2, 1) := by decide +kernel
theorem dX11_yields_145 : decode cX11_yields 145 = .ok (.ireturn, 1) := by decide +kernel
theorem dX11_yields_11 : decode cX11_yields 11 = .ok (.iconst (-1), 1) := by decide +kernel
theorem dX11_yields_12 : decode cX11_yields 12 = .ok (.ireturn, 1) := by decide +kernel
theorem dX11_lands_0 : decode cX11_lands 0 = .ok (.aload_n 0, 1) := by decide +kernel
theorem dX11_lands_1 : decode cX11_lands 1 = .ok (.getfield 42, 3) := by decide +kernel
theorem dX11_lands_4 : decode cX11_lands 4 = .ok (.iload_n 1, 1) := by decide +kernel
theorem dX11_lands_5 : decode cX11_lands 5 = .ok (.invokevirtual 160, 3) := by decide +kernel
theorem dX11_lands_8 : decode cX11_lands 8 = .ok (.ifCond .eq 24, 3) := by decide +kernel
theorem dX11_lands_32 : decode cX11_lands 32 = .ok (.iconst (-1), 1) := by decide +kernel
theorem dX11_lands_33 : decode cX11_lands 33 = .ok (.ireturn, 1) := by decide +kernel
theorem dX11_lands_11 : decode cX11_lands 11 = .ok (.aload_n 0, 1) := by decide +kernel
theorem dX11_lands_12 : decode cX11_lands 12 = .ok (.getfield 19, 3) := by decide +kernel
theorem dX11_lands_15 : decode cX11_lands 15 = .ok (.iload_n 2, 1) := by decide +kernel
theorem dX11_lands_16 : decode cX11_lands 16 = .ok (.invokevirtual 136, 3) := by decide +kernel
theorem dX11_lands_19 : decode cX11_lands 19 = .ok (.ifCond .eq 13, 3) := by decide +kernel
theorem dX11_lands_22 : decode cX11_lands 22 = .ok (.iload_n 3, 1) := by decide +kernel
theorem dX11_lands_23 : decode cX11_lands 23 = .ok (.ifCond .lt 9, 3) := by decide +kernel
theorem dX11_lands_26 : decode cX11_lands 26 = .ok (.iload_n 3, 1) := by decide +kernel
theorem dX11_lands_27 : decode cX11_lands 27 = .ok (.bipush 6, 2) := by decide +kernel
theorem dX11_lands_29 : decode cX11_lands 29 = .ok (.if_icmp .le 5, 3) := by decide +kernel
theorem dX11_lands_34 : decode cX11_lands 34 = .ok (.aload_n 0, 1) := by decide +kernel
theorem dX11_lands_35 : decode cX11_lands 35 = .ok (.getfield 42, 3) := by decide +kernel
theorem dX11_lands_38 : decode cX11_lands 38 = .ok (.getfield 185, 3) := by decide +kernel
theorem dX11_lands_41 : decode cX11_lands 41 = .ok (.iload_n 1, 1) := by decide +kernel
theorem dX11_lands_42 : decode cX11_lands 42 = .ok (.iaload, 1) := by decide +kernel
theorem dX11_lands_43 : decode cX11_lands 43 = .ok (.iconst 1, 1) := by decide +kernel
theorem dX11_lands_44 : decode cX11_lands 44 = .ok (.if_icmp .eq 6, 3) := by decide +kernel
theorem dX11_lands_50 : decode cX11_lands 50 = .ok (.aload_n 0, 1) := by decide +kernel
theorem dX11_lands_51 : decode cX11_lands 51 = .ok (.getfield 42, 3) := by decide +kernel
theorem dX11_lands_54 : decode cX11_lands 54 = .ok (.iload_n 2, 1) := by decide +kernel
theorem dX11_lands_55 : decode cX11_lands 55 = .ok (.invokevirtual 150, 3) := by decide +kernel
theorem dX11_lands_58 : decode cX11_lands 58 = .ok (.iconst (-1), 1) := by decide +kernel
theorem dX11_lands_59 : decode cX11_lands 59 = .ok (.if_icmp .eq 6, 3) := by decide +kernel
theorem dX11_lands_65 : decode cX11_lands 65 = .ok (.aload_n 0, 1) := by decide +kernel
theorem dX11_lands_66 : decode cX11_lands 66 = .ok (.getfield 91, 3) := by decide +kernel
theorem dX11_lands_69 : decode cX11_lands 69 = .ok (.iload_n 1, 1) := by decide +kernel
theorem dX11_lands_70 : decode cX11_lands 70 = .ok (.iload_n 3, 1) := by decide +kernel
theorem dX11_lands_71 : decode cX11_lands 71 = .ok (.invokevirtual 336, 3) := by decide +kernel
theorem dX11_lands_74 : decode cX11_lands 74 = .ok (.aload_n 0, 1) := by decide +kernel
theorem dX11_lands_75 : decode cX11_lands 75 = .ok (.getfield 91, 3) := by decide +kernel
theorem dX11_lands_78 : decode cX11_lands 78 = .ok (.aload_n 0, 1) := by decide +kernel
theorem dX11_lands_79 : decode cX11_lands 79 = .ok (.getfield 19, 3) := by decide +kernel
theorem dX11_lands_82 : decode cX11_lands 82 = .ok (.getfield 143, 3) := by decide +kernel
theorem dX11_lands_85 : decode cX11_lands 85 = .ok (.iload_n 2, 1) := by decide +kernel
theorem dX11_lands_86 : decode cX11_lands 86 = .ok (.iaload, 1) := by decide +kernel
theorem dX11_lands_87 : decode cX11_lands 87 = .ok (.invokevirtual 340, 3) := by decide +kernel
theorem dX11_lands_90 : decode cX11_lands 90 = .ok (.ifCond .eq 13, 3) := by decide +kernel
theorem dX11_lands_103 : decode cX11_lands 103 = .ok (.bipush (-2), 2) := by decide +kernel
theorem dX11_lands_105 : decode cX11_lands 105 = .ok (.ireturn, 1) := by decide +kernel
theorem dX11_lands_93 : decode cX11_lands 93 = .ok (.aload_n 0, 1) := by decide +kernel
theorem dX11_lands_94 : decode cX11_lands 94 = .ok (.getfield 91, 3) := by decide +kernel
theorem dX11_lands_97 : decode cX11_lands 97 = .ok (.invokevirtual 343, 3) := by decide +kernel
theorem dX11_lands_100 : decode cX11_lands 100 = .ok (.ifCond .ne 6, 3) := by decide +kernel
theorem dX11_lands_106 : decode cX11_lands 106 = .ok (.aload_n 0, 1) := by decide +kernel
theorem dX11_lands_107 : decode cX11_lands 107 = .ok (.aload_n 0, 1) := by decide +kernel
theorem dX11_lands_108 : decode cX11_lands 108 = .ok (.getfield 91, 3) := by decide +kernel
theorem dX11_lands_111 : decode cX11_lands 111 = .ok (.getfield 346, 3) := by decide +kernel
theorem dX11_lands_114 : decode cX11_lands 114 = .ok (.i2l, 1) := by decide +kernel
theorem dX11_lands_115 : decode cX11_lands 115 = .ok (.aload_n 0, 1) := by decide +kernel
theorem dX11_lands_116 : decode cX11_lands 116 = .ok (.getfield 91, 3) := by decide +kernel
theorem dX11_lands_119 : decode cX11_lands 119 = .ok (.getfield 349, 3) := by decide +kernel
theorem dX11_lands_122 : decode cX11_lands 122 = .ok (.iconst 0, 1) := by decide +kernel
theorem dX11_lands_123 : decode cX11_lands 123 = .ok (.iaload, 1) := by decide +kernel
theorem dX11_lands_124 : decode cX11_lands 124 = .ok (.i2l, 1) := by decide +kernel
theorem dX11_lands_125 : decode cX11_lands 125 = .ok (.invokevirtual 242, 3) := by decide +kernel
theorem dX11_lands_128 : decode cX11_lands 128 = .ok (.iconst 1, 1) := by decide +kernel
theorem dX11_lands_129 : decode cX11_lands 129 = .ok (.istore 4, 2) := by decide +kernel
theorem dX11_lands_131 : decode cX11_lands 131 = .ok (.iload 4, 2) := by decide +kernel
theorem dX11_lands_133 : decode cX11_lands 133 = .ok (.aload_n 0, 1) := by decide +kernel
theorem dX11_lands_134 : decode cX11_lands 134 = .ok (.getfield 91, 3) := by decide +kernel
theorem dX11_lands_137 : decode cX11_lands 137 = .ok (.getfield 346, 3) := by decide +kernel
theorem dX11_lands_140 : decode cX11_lands 140 = .ok (.if_icmp .gt 27, 3) := by decide +kernel
theorem dX11_lands_143 : decode cX11_lands 143 = .ok (.aload_n 0, 1) := by decide +kernel
theorem dX11_lands_144 : decode cX11_lands 144 = .ok (.getfield 59, 3) := by decide +kernel
theorem dX11_lands_147 : decode cX11_lands 147 = .ok (.aload_n 0, 1) := by decide +kernel
theorem dX11_lands_148 : decode cX11_lands 148 = .ok (.getfield 91, 3) := by decide +kernel
theorem dX11_lands_151 : decode cX11_lands 151 = .ok (.getfield 349, 3) := by decide +kernel
theorem dX11_lands_154 : decode cX11_lands 154 = .ok (.iload 4, 2) := by decide +kernel
theorem dX11_lands_156 : decode cX11_lands 156 = .ok (.iaload, 1) := by decide +kernel
theorem dX11_lands_157 : decode cX11_lands 157 = .ok (.i2l, 1) := by decide +kernel
theorem dX11_lands_158 : decode cX11_lands 158 = .ok (.invokevirtual 306, 3) := by decide +kernel
theorem dX11_lands_161 : decode cX11_lands 161 = .ok (.iinc 4 1, 3) := by decide +kernel
theorem dX11_lands_164 : decode cX11_lands 164 = .ok (.goto (-33), 3) := by decide +kernel
theorem dX11_lands_167 : decode cX11_lands 167 = .ok (.aload_n 0, 1) := by decide +kernel
theorem dX11_lands_168 : decode cX11_lands 168 = .ok (.getfield 91, 3) := by decide +kernel
theorem dX11_lands_171 : decode cX11_lands 171 = .ok (.getfield 352, 3) := by decide +kernel
theorem dX11_lands_174 : decode cX11_lands 174 = .ok (.ireturn, 1) := by decide +kernel
theorem dX11_lands_62 : decode cX11_lands 62 = .ok (.bipush (-4), 2) := by decide +kernel
theorem dX11_lands_64 : decode cX11_lands 64 = .ok (.ireturn, 1) := by decide +kernel
theorem dX11_lands_47 : decode cX11_lands 47 = .ok (.bipush (-3), 2) := by decide +kernel
theorem dX11_lands_49 : decode cX11_lands 49 = .ok (.ireturn, 1) := by decide +kernel
theorem dX11_nearest_0 : decode cX11_nearest 0 = .ok (.aload_n 0, 1) := by decide +kernel
theorem dX11_nearest_1 : decode cX11_nearest 1 = .ok (.getfield 42, 3) := by decide +kernel
theorem dX11_nearest_4 : decode cX11_nearest 4 = .ok (.iload_n 1, 1) := by decide +kernel
theorem dX11_nearest_5 : decode cX11_nearest 5 = .ok (.invokevirtual 160, 3) := by decide +kernel
theorem dX11_nearest_8 : decode cX11_nearest 8 = .ok (.ifCond .eq 13, 3) := by decide +kernel
theorem dX11_nearest_21 : decode cX11_nearest 21 = .ok (.iconst (-1), 1) := by decide +kernel
theorem dX11_nearest_22 : decode cX11_nearest 22 = .ok (.ireturn, 1) := by decide +kernel
theorem dX11_nearest_11 : decode cX11_nearest 11 = .ok (.iload_n 2, 1) := by decide +kernel
theorem dX11_nearest_12 : decode cX11_nearest 12 = .ok (.ifCond .lt 9, 3) := by decide +kernel
theorem dX11_nearest_15 : decode cX11_nearest 15 = .ok (.iload_n 2, 1) := by decide +kernel
theorem dX11_nearest_16 : decode cX11_nearest 16 = .ok (.bipush 6, 2) := by decide +kernel
theorem dX11_nearest_18 : decode cX11_nearest 18 = .ok (.if_icmp .le 5, 3) := by decide +kernel
theorem dX11_nearest_23 : decode cX11_nearest 23 = .ok (.aload_n 0, 1) := by decide +kernel
theorem dX11_nearest_24 : decode cX11_nearest 24 = .ok (.getfield 42, 3) := by decide +kernel
theorem dX11_nearest_27 : decode cX11_nearest 27 = .ok (.getfield 185, 3) := by decide +kernel
theorem dX11_nearest_30 : decode cX11_nearest 30 = .ok (.iload_n 1, 1) := by decide +kernel
theorem dX11_nearest_31 : decode cX11_nearest 31 = .ok (.iaload, 1) := by decide +kernel
theorem dX11_nearest_32 : decode cX11_nearest 32 = .ok (.iconst 1, 1) := by decide +kernel
theorem dX11_nearest_33 : decode cX11_nearest 33 = .ok (.if_icmp .eq 6, 3) := by decide +kernel
theorem dX11_nearest_39 : decode cX11_nearest 39 = .ok (.aload_n 0, 1) := by decide +kernel
theorem dX11_nearest_40 : decode cX11_nearest 40 = .ok (.getfield 91, 3) := by decide +kernel
theorem dX11_nearest_43 : decode cX11_nearest 43 = .ok (.iload_n 1, 1) := by decide +kernel
theorem dX11_nearest_44 : decode cX11_nearest 44 = .ok (.iload_n 2, 1) := by decide +kernel
theorem dX11_nearest_45 : decode cX11_nearest 45 = .ok (.invokevirtual 336, 3) := by decide +kernel
theorem dX11_nearest_48 : decode cX11_nearest 48 = .ok (.iconst (-1), 1) := by decide +kernel
theorem dX11_nearest_49 : decode cX11_nearest 49 = .ok (.istore_n 3, 1) := by decide +kernel
theorem dX11_nearest_50 : decode cX11_nearest 50 = .ok (.iconst 0, 1) := by decide +kernel
theorem dX11_nearest_51 : decode cX11_nearest 51 = .ok (.istore 4, 2) := by decide +kernel
theorem dX11_nearest_53 : decode cX11_nearest 53 = .ok (.iconst 0, 1) := by decide +kernel
theorem dX11_nearest_54 : decode cX11_nearest 54 = .ok (.istore 5, 2) := by decide +kernel
theorem dX11_nearest_56 : decode cX11_nearest 56 = .ok (.iconst 0, 1) := by decide +kernel
theorem dX11_nearest_57 : decode cX11_nearest 57 = .ok (.istore 6, 2) := by decide +kernel
theorem dX11_nearest_59 : decode cX11_nearest 59 = .ok (.iload 6, 2) := by decide +kernel
theorem dX11_nearest_61 : decode cX11_nearest 61 = .ok (.aload_n 0, 1) := by decide +kernel
theorem dX11_nearest_62 : decode cX11_nearest 62 = .ok (.getfield 19, 3) := by decide +kernel
theorem dX11_nearest_65 : decode cX11_nearest 65 = .ok (.getfield 331, 3) := by decide +kernel
theorem dX11_nearest_68 : decode cX11_nearest 68 = .ok (.if_icmp .ge 82, 3) := by decide +kernel
theorem dX11_nearest_71 : decode cX11_nearest 71 = .ok (.aload_n 0, 1) := by decide +kernel
theorem dX11_nearest_72 : decode cX11_nearest 72 = .ok (.getfield 42, 3) := by decide +kernel
theorem dX11_nearest_75 : decode cX11_nearest 75 = .ok (.iload 6, 2) := by decide +kernel
theorem dX11_nearest_77 : decode cX11_nearest 77 = .ok (.invokevirtual 150, 3) := by decide +kernel
theorem dX11_nearest_80 : decode cX11_nearest 80 = .ok (.iconst (-1), 1) := by decide +kernel
theorem dX11_nearest_144 : decode cX11_nearest 144 = .ok (.iinc 6 1, 3) := by decide +kernel
theorem dX11_nearest_147 : decode cX11_nearest 147 = .ok (.goto (-88), 3) := by decide +kernel
theorem dX11_nearest_81 : decode cX11_nearest 81 = .ok (.if_icmp .ne 63, 3) := by decide +kernel
theorem dX11_nearest_84 : decode cX11_nearest 84 = .ok (.aload_n 0, 1) := by decide +kernel
theorem dX11_nearest_85 : decode cX11_nearest 85 = .ok (.getfield 91, 3) := by decide +kernel
theorem dX11_nearest_88 : decode cX11_nearest 88 = .ok (.aload_n 0, 1) := by decide +kernel
theorem dX11_nearest_89 : decode cX11_nearest 89 = .ok (.getfield 19, 3) := by decide +kernel
theorem dX11_nearest_92 : decode cX11_nearest 92 = .ok (.getfield 143, 3) := by decide +kernel
theorem dX11_nearest_95 : decode cX11_nearest 95 = .ok (.iload 6, 2) := by decide +kernel
theorem dX11_nearest_97 : decode cX11_nearest 97 = .ok (.iaload, 1) := by decide +kernel
theorem dX11_nearest_98 : decode cX11_nearest 98 = .ok (.invokevirtual 340, 3) := by decide +kernel
theorem dX11_nearest_101 : decode cX11_nearest 101 = .ok (.ifCond .eq 43, 3) := by decide +kernel
theorem dX11_nearest_104 : decode cX11_nearest 104 = .ok (.iload_n 3, 1) := by decide +kernel
theorem dX11_nearest_105 : decode cX11_nearest 105 = .ok (.iconst (-1), 1) := by decide +kernel
theorem dX11_nearest_123 : decode cX11_nearest 123 = .ok (.iload 6, 2) := by decide +kernel
theorem dX11_nearest_125 : decode cX11_nearest 125 = .ok (.istore_n 3, 1) := by decide +kernel
theorem dX11_nearest_126 : decode cX11_nearest 126 = .ok (.aload_n 0, 1) := by decide +kernel
theorem dX11_nearest_127 : decode cX11_nearest 127 = .ok (.getfield 91, 3) := by decide +kernel
theorem dX11_nearest_130 : decode cX11_nearest 130 = .ok (.getfield 352, 3) := by decide +kernel
theorem dX11_nearest_133 : decode cX11_nearest 133 = .ok (.istore 4, 2) := by decide +kernel
theorem dX11_nearest_135 : decode cX11_nearest 135 = .ok (.aload_n 0, 1) := by decide +kernel
theorem dX11_nearest_136 : decode cX11_nearest 136 = .ok (.getfield 91, 3) := by decide +kernel
theorem dX11_nearest_139 : decode cX11_nearest 139 = .ok (.getfield 346, 3) := by decide +kernel
theorem dX11_nearest_142 : decode cX11_nearest 142 = .ok (.istore 5, 2) := by decide +kernel
theorem dX11_nearest_106 : decode cX11_nearest 106 = .ok (.if_icmp .eq 17, 3) := by decide +kernel
theorem dX11_nearest_109 : decode cX11_nearest 109 = .ok (.aload_n 0, 1) := by decide +kernel
theorem dX11_nearest_110 : decode cX11_nearest 110 = .ok (.getfield 91, 3) := by decide +kernel
theorem dX11_nearest_113 : decode cX11_nearest 113 = .ok (.iload 4, 2) := by decide +kernel
theorem dX11_nearest_115 : decode cX11_nearest 115 = .ok (.iload 5, 2) := by decide +kernel
theorem dX11_nearest_117 : decode cX11_nearest 117 = .ok (.invokevirtual 354, 3) := by decide +kernel
theorem dX11_nearest_120 : decode cX11_nearest 120 = .ok (.ifCond .eq 24, 3) := by decide +kernel
theorem dX11_nearest_150 : decode cX11_nearest 150 = .ok (.iload_n 3, 1) := by decide +kernel
theorem dX11_nearest_151 : decode cX11_nearest 151 = .ok (.iconst (-1), 1) := by decide +kernel
theorem dX11_nearest_152 : decode cX11_nearest 152 = .ok (.if_icmp .ne 6, 3) := by decide +kernel
theorem dX11_nearest_158 : decode cX11_nearest 158 = .ok (.aload_n 0, 1) := by decide +kernel
theorem dX11_nearest_159 : decode cX11_nearest 159 = .ok (.iload 4, 2) := by decide +kernel
theorem dX11_nearest_161 : decode cX11_nearest 161 = .ok (.i2l, 1) := by decide +kernel
theorem dX11_nearest_162 : decode cX11_nearest 162 = .ok (.iload 5, 2) := by decide +kernel
theorem dX11_nearest_164 : decode cX11_nearest 164 = .ok (.i2l, 1) := by decide +kernel
theorem dX11_nearest_165 : decode cX11_nearest 165 = .ok (.invokevirtual 242, 3) := by decide +kernel
theorem dX11_nearest_168 : decode cX11_nearest 168 = .ok (.iload_n 3, 1) := by decide +kernel
theorem dX11_nearest_169 : decode cX11_nearest 169 = .ok (.ireturn, 1) := by decide +kernel
theorem dX11_nearest_155 : decode cX11_nearest 155 = .ok (.bipush (-2), 2) := by decide +kernel
theorem dX11_nearest_157 : decode cX11_nearest 157 = .ok (.ireturn, 1) := by decide +kernel
theorem dX11_nearest_36 : decode cX11_nearest 36 = .ok (.bipush (-3), 2) := by decide +kernel
theorem dX11_nearest_38 : decode cX11_nearest 38 = .ok (.ireturn, 1) := by decide +kernel
theorem dX11_withRope_0 : decode cX11_withRope 0 = .ok (.iconst 0, 1) := by decide +kernel
theorem dX11_withRope_1 : decode cX11_withRope 1 = .ok (.istore_n 3, 1) := by decide +kernel
theorem dX11_withRope_2 : decode cX11_withRope 2 = .ok (.iconst 0, 1) := by decide +kernel
theorem dX11_withRope_3 : decode cX11_withRope 3 = .ok (.istore 4, 2) := by decide +kernel
theorem dX11_withRope_5 : decode cX11_withRope 5 = .ok (.iload 4, 2) := by decide +kernel
theorem dX11_withRope_7 : decode cX11_withRope 7 = .ok (.aload_n 0, 1) := by decide +kernel
theorem dX11_withRope_8 : decode cX11_withRope 8 = .ok (.getfield 42, 3) := by decide +kernel
theorem dX11_withRope_11 : decode cX11_withRope 11 = .ok (.getfield 197, 3) := by decide +kernel
theorem dX11_withRope_14 : decode cX11_withRope 14 = .ok (.if_icmp .ge 36, 3) := by decide +kernel
theorem dX11_withRope_17 : decode cX11_withRope 17 = .ok (.iload_n 1, 1) := by decide +kernel
theorem dX11_withRope_18 : decode cX11_withRope 18 = .ok (.iload 4, 2) := by decide +kernel
theorem dX11_withRope_20 : decode cX11_withRope 20 = .ok (.ishr, 1) := by decide +kernel
theorem dX11_withRope_21 : decode cX11_withRope 21 = .ok (.iconst 1, 1) := by decide +kernel
theorem dX11_withRope_22 : decode cX11_withRope 22 = .ok (.iand, 1) := by decide +kernel
theorem dX11_withRope_23 : decode cX11_withRope 23 = .ok (.iconst 1, 1) := by decide +kernel
theorem dX11_withRope_44 : decode cX11_withRope 44 = .ok (.iinc 4 1, 3) := by decide +kernel
theorem dX11_withRope_47 : decode cX11_withRope 47 = .ok (.goto (-42), 3) := by decide +kernel
theorem dX11_withRope_24 : decode cX11_withRope 24 = .ok (.if_icmp .ne 20, 3) := by decide +kernel
theorem dX11_withRope_27 : decode cX11_withRope 27 = .ok (.aload_n 0, 1) := by decide +kernel
theorem dX11_withRope_28 : decode cX11_withRope 28 = .ok (.getfield 42, 3) := by decide +kernel
theorem dX11_withRope_31 : decode cX11_withRope 31 = .ok (.getfield 170, 3) := by decide +kernel
theorem dX11_withRope_34 : decode cX11_withRope 34 = .ok (.iload 4, 2) := by decide +kernel
theorem dX11_withRope_36 : decode cX11_withRope 36 = .ok (.iaload, 1) := by decide +kernel
theorem dX11_withRope_37 : decode cX11_withRope 37 = .ok (.iload_n 2, 1) := by decide +kernel
theorem dX11_withRope_38 : decode cX11_withRope 38 = .ok (.if_icmp .ne 6, 3) := by decide +kernel
theorem dX11_withRope_41 : decode cX11_withRope 41 = .ok (.iinc 3 1, 3) := by decide +kernel
theorem dX11_withRope_50 : decode cX11_withRope 50 = .ok (.iload_n 3, 1) := by decide +kernel
theorem dX11_withRope_51 : decode cX11_withRope 51 = .ok (.ireturn, 1) := by decide +kernel
theorem dX11_savable_0 : decode cX11_savable 0 = .ok (.iconst 0, 1) := by decide +kernel
theorem dX11_savable_1 : decode cX11_savable 1 = .ok (.istore_n 3, 1) := by decide +kernel
theorem dX11_savable_2 : decode cX11_savable 2 = .ok (.iload_n 2, 1) := by decide +kernel
theorem dX11_savable_3 : decode cX11_savable 3 = .ok (.iconst 1, 1) := by decide +kernel
theorem dX11_savable_4 : decode cX11_savable 4 = .ok (.iadd, 1) := by decide +kernel
theorem dX11_savable_5 : decode cX11_savable 5 = .ok (.istore 4, 2) := by decide +kernel
theorem dX11_savable_7 : decode cX11_savable 7 = .ok (.iload 4, 2) := by decide +kernel
theorem dX11_savable_9 : decode cX11_savable 9 = .ok (.bipush 9, 2) := by decide +kernel
theorem dX11_savable_11 : decode cX11_savable 11 = .ok (.if_icmp .gt 26, 3) := by decide +kernel
theorem dX11_savable_14 : decode cX11_savable 14 = .ok (.iload_n 3, 1) := by decide +kernel
theorem dX11_savable_15 : decode cX11_savable 15 = .ok (.aload_n 0, 1) := by decide +kernel
theorem dX11_savable_16 : decode cX11_savable 16 = .ok (.iload_n 1, 1) := by decide +kernel
theorem dX11_savable_17 : decode cX11_savable 17 = .ok (.iload 4, 2) := by decide +kernel
theorem dX11_savable_19 : decode cX11_savable 19 = .ok (.invokevirtual 363, 3) := by decide +kernel
theorem dX11_savable_22 : decode cX11_savable 22 = .ok (.iadd, 1) := by decide +kernel
theorem dX11_savable_23 : decode cX11_savable 23 = .ok (.iload 4, 2) := by decide +kernel
theorem dX11_savable_25 : decode cX11_savable 25 = .ok (.iload_n 2, 1) := by decide +kernel
theorem dX11_savable_26 : decode cX11_savable 26 = .ok (.isub, 1) := by decide +kernel
theorem dX11_savable_27 : decode cX11_savable 27 = .ok (.invokestatic 202, 3) := by decide +kernel
theorem dX11_savable_30 : decode cX11_savable 30 = .ok (.istore_n 3, 1) := by decide +kernel
theorem dX11_savable_31 : decode cX11_savable 31 = .ok (.iinc 4 1, 3) := by decide +kernel
theorem dX11_savable_34 : decode cX11_savable 34 = .ok (.goto (-27), 3) := by decide +kernel
theorem dX11_savable_37 : decode cX11_savable 37 = .ok (.iload_n 3, 1) := by decide +kernel
theorem dX11_savable_38 : decode cX11_savable 38 = .ok (.ireturn, 1) := by decide +kernel
theorem dX11_firstDown_0 : decode cX11_firstDown 0 = .ok (.iconst 0, 1) := by decide +kernel
theorem dX11_firstDown_1 : decode cX11_firstDown 1 = .ok (.istore 4, 2) := by decide +kernel
theorem dX11_firstDown_3 : decode cX11_firstDown 3 = .ok (.iload 4, 2) := by decide +kernel
theorem dX11_firstDown_5 : decode cX11_firstDown 5 = .ok (.aload_n 0, 1) := by decide +kernel
theorem dX11_firstDown_6 : decode cX11_firstDown 6 = .ok (.getfield 42, 3) := by decide +kernel
theorem dX11_firstDown_9 : decode cX11_firstDown 9 = .ok (.getfield 197, 3) := by decide +kernel
theorem dX11_firstDown_12 : decode cX11_firstDown 12 = .ok (.if_icmp .ge 55, 3) := by decide +kernel
theorem dX11_firstDown_15 : decode cX11_firstDown 15 = .ok (.iload_n 1, 1) := by decide +kernel
theorem dX11_firstDown_16 : decode cX11_firstDown 16 = .ok (.iload 4, 2) := by decide +kernel
theorem dX11_firstDown_18 : decode cX11_firstDown 18 = .ok (.ishr, 1) := by decide +kernel
theorem dX11_firstDown_19 : decode cX11_firstDown 19 = .ok (.iconst 1, 1) := by decide +kernel
theorem dX11_firstDown_20 : decode cX11_firstDown 20 = .ok (.iand, 1) := by decide +kernel
theorem dX11_firstDown_21 : decode cX11_firstDown 21 = .ok (.iconst 1, 1) := by decide +kernel
theorem dX11_firstDown_61 : decode cX11_firstDown 61 = .ok (.iinc 4 1, 3) := by decide +kernel
theorem dX11_firstDown_64 : decode cX11_firstDown 64 = .ok (.goto (-61), 3) := by decide +kernel
theorem dX11_firstDown_22 : decode cX11_firstDown 22 = .ok (.if_icmp .ne 39, 3) := by decide +kernel
theorem dX11_firstDown_25 : decode cX11_firstDown 25 = .ok (.aload_n 0, 1) := by decide +kernel
theorem dX11_firstDown_26 : decode cX11_firstDown 26 = .ok (.getfield 42, 3) := by decide +kernel
theorem dX11_firstDown_29 : decode cX11_firstDown 29 = .ok (.getfield 170, 3) := by decide +kernel
theorem dX11_firstDown_32 : decode cX11_firstDown 32 = .ok (.iload 4, 2) := by decide +kernel
theorem dX11_firstDown_34 : decode cX11_firstDown 34 = .ok (.iaload, 1) := by decide +kernel
theorem dX11_firstDown_35 : decode cX11_firstDown 35 = .ok (.iload_n 2, 1) := by decide +kernel
theorem dX11_firstDown_36 : decode cX11_firstDown 36 = .ok (.if_icmp .lt 25, 3) := by decide +kernel
theorem dX11_firstDown_39 : decode cX11_firstDown 39 = .ok (.iload_n 2, 1) := by decide +kernel
theorem dX11_firstDown_40 : decode cX11_firstDown 40 = .ok (.aload_n 0, 1) := by decide +kernel
theorem dX11_firstDown_41 : decode cX11_firstDown 41 = .ok (.iload_n 1, 1) := by decide +kernel
theorem dX11_firstDown_42 : decode cX11_firstDown 42 = .ok (.iconst 1, 1) := by decide +kernel
theorem dX11_firstDown_43 : decode cX11_firstDown 43 = .ok (.iload 4, 2) := by decide +kernel
theorem dX11_firstDown_45 : decode cX11_firstDown 45 = .ok (.ishl, 1) := by decide +kernel
theorem dX11_firstDown_46 : decode cX11_firstDown 46 = .ok (.iconst (-1), 1) := by decide +kernel
theorem dX11_firstDown_47 : decode cX11_firstDown 47 = .ok (.ixor, 1) := by decide +kernel
theorem dX11_firstDown_48 : decode cX11_firstDown 48 = .ok (.iand, 1) := by decide +kernel
theorem dX11_firstDown_49 : decode cX11_firstDown 49 = .ok (.iload_n 2, 1) := by decide +kernel
theorem dX11_firstDown_50 : decode cX11_firstDown 50 = .ok (.invokevirtual 357, 3) := by decide +kernel
theorem dX11_firstDown_53 : decode cX11_firstDown 53 = .ok (.iadd, 1) := by decide +kernel
theorem dX11_firstDown_54 : decode cX11_firstDown 54 = .ok (.iload_n 3, 1) := by decide +kernel
theorem dX11_firstDown_55 : decode cX11_firstDown 55 = .ok (.if_icmp .ne 6, 3) := by decide +kernel
theorem dX11_firstDown_58 : decode cX11_firstDown 58 = .ok (.iload 4, 2) := by decide +kernel
theorem dX11_firstDown_60 : decode cX11_firstDown 60 = .ok (.ireturn, 1) := by decide +kernel
theorem dX11_firstDown_67 : decode cX11_firstDown 67 = .ok (.iconst (-1), 1) := by decide +kernel
theorem dX11_firstDown_68 : decode cX11_firstDown 68 = .ok (.ireturn, 1) := by decide +kernel
theorem dX11_storm_0 : decode cX11_storm 0 = .ok (.aload_n 0, 1) := by decide +kernel
theorem dX11_storm_1 : decode cX11_storm 1 = .ok (.getfield 42, 3) := by decide +kernel
theorem dX11_storm_4 : decode cX11_storm 4 = .ok (.iconst 2, 1) := by decide +kernel
theorem dX11_storm_5 : decode cX11_storm 5 = .ok (.invokevirtual 247, 3) := by decide +kernel
theorem dX11_storm_8 : decode cX11_storm 8 = .ok (.istore_n 1, 1) := by decide +kernel
theorem dX11_storm_9 : decode cX11_storm 9 = .ok (.aload_n 0, 1) := by decide +kernel
theorem dX11_storm_10 : decode cX11_storm 10 = .ok (.iload_n 1, 1) := by decide +kernel
theorem dX11_storm_11 : decode cX11_storm 11 = .ok (.iconst 0, 1) := by decide +kernel
theorem dX11_storm_12 : decode cX11_storm 12 = .ok (.invokevirtual 357, 3) := by decide +kernel
theorem dX11_storm_15 : decode cX11_storm 15 = .ok (.istore_n 2, 1) := by decide +kernel
theorem dX11_storm_16 : decode cX11_storm 16 = .ok (.aload_n 0, 1) := by decide +kernel
theorem dX11_storm_17 : decode cX11_storm 17 = .ok (.getfield 59, 3) := by decide +kernel
theorem dX11_storm_20 : decode cX11_storm 20 = .ok (.iconst 0, 1) := by decide +kernel
theorem dX11_storm_21 : decode cX11_storm 21 = .ok (.putfield 288, 3) := by decide +kernel
theorem dX11_storm_24 : decode cX11_storm 24 = .ok (.iconst 1, 1) := by decide +kernel
theorem dX11_storm_25 : decode cX11_storm 25 = .ok (.istore_n 3, 1) := by decide +kernel
theorem dX11_storm_26 : decode cX11_storm 26 = .ok (.iload_n 3, 1) := by decide +kernel
theorem dX11_storm_27 : decode cX11_storm 27 = .ok (.iload_n 2, 1) := by decide +kernel
theorem dX11_storm_28 : decode cX11_storm 28 = .ok (.if_icmp .gt 43, 3) := by decide +kernel
theorem dX11_storm_31 : decode cX11_storm 31 = .ok (.aload_n 0, 1) := by decide +kernel
theorem dX11_storm_32 : decode cX11_storm 32 = .ok (.iload_n 1, 1) := by decide +kernel
theorem dX11_storm_33 : decode cX11_storm 33 = .ok (.iload_n 3, 1) := by decide +kernel
theorem dX11_storm_34 : decode cX11_storm 34 = .ok (.iload_n 2, 1) := by decide +kernel
theorem dX11_storm_35 : decode cX11_storm 35 = .ok (.invokevirtual 360, 3) := by decide +kernel
theorem dX11_storm_38 : decode cX11_storm 38 = .ok (.istore 4, 2) := by decide +kernel
theorem dX11_storm_40 : decode cX11_storm 40 = .ok (.iload 4, 2) := by decide +kernel
theorem dX11_storm_42 : decode cX11_storm 42 = .ok (.iconst (-1), 1) := by decide +kernel
theorem dX11_storm_65 : decode cX11_storm 65 = .ok (.iinc 3 1, 3) := by decide +kernel
theorem dX11_storm_68 : decode cX11_storm 68 = .ok (.goto (-42), 3) := by decide +kernel
theorem dX11_storm_43 : decode cX11_storm 43 = .ok (.if_icmp .eq 22, 3) := by decide +kernel
theorem dX11_storm_46 : decode cX11_storm 46 = .ok (.aload_n 0, 1) := by decide +kernel
theorem dX11_storm_47 : decode cX11_storm 47 = .ok (.getfield 59, 3) := by decide +kernel
theorem dX11_storm_50 : decode cX11_storm 50 = .ok (.iload 4, 2) := by decide +kernel
theorem dX11_storm_52 : decode cX11_storm 52 = .ok (.i2l, 1) := by decide +kernel
theorem dX11_storm_53 : decode cX11_storm 53 = .ok (.invokevirtual 306, 3) := by decide +kernel
theorem dX11_storm_56 : decode cX11_storm 56 = .ok (.iload_n 1, 1) := by decide +kernel
theorem dX11_storm_57 : decode cX11_storm 57 = .ok (.iconst 1, 1) := by decide +kernel
theorem dX11_storm_58 : decode cX11_storm 58 = .ok (.iload 4, 2) := by decide +kernel
theorem dX11_storm_60 : decode cX11_storm 60 = .ok (.ishl, 1) := by decide +kernel
theorem dX11_storm_61 : decode cX11_storm 61 = .ok (.iconst (-1), 1) := by decide +kernel
theorem dX11_storm_62 : decode cX11_storm 62 = .ok (.ixor, 1) := by decide +kernel
theorem dX11_storm_63 : decode cX11_storm 63 = .ok (.iand, 1) := by decide +kernel
theorem dX11_storm_64 : decode cX11_storm 64 = .ok (.istore_n 1, 1) := by decide +kernel
theorem dX11_storm_71 : decode cX11_storm 71 = .ok (.iload_n 2, 1) := by decide +kernel
theorem dX11_storm_72 : decode cX11_storm 72 = .ok (.ireturn, 1) := by decide +kernel
theorem dX11_gain_0 : decode cX11_gain 0 = .ok (.iload_n 0, 1) := by decide +kernel
theorem dX11_gain_1 : decode cX11_gain 1 = .ok (.iload_n 1, 1) := by decide +kernel
theorem dX11_gain_20 : decode cX11_gain 20 = .ok (.istore_n 3, 1) := by decide +kernel
theorem dX11_gain_21 : decode cX11_gain 21 = .ok (.iload_n 0, 1) := by decide +kernel
theorem dX11_gain_22 : decode cX11_gain 22 = .ok (.iload_n 2, 1) := by decide +kernel
theorem dX11_gain_23 : decode cX11_gain 23 = .ok (.isub, 1) := by decide +kernel
theorem dX11_gain_24 : decode cX11_gain 24 = .ok (.iload_n 3, 1) := by decide +kernel
theorem dX11_gain_25 : decode cX11_gain 25 = .ok (.imul, 1) := by decide +kernel
theorem dX11_gain_26 : decode cX11_gain 26 = .ok (.ireturn, 1) := by decide +kernel
theorem dX11_gain_2 : decode cX11_gain 2 = .ok (.if_icmp .ge 8, 3) := by decide +kernel
theorem dX11_gain_10 : decode cX11_gain 10 = .ok (.iload_n 0, 1) := by decide +kernel
theorem dX11_gain_11 : decode cX11_gain 11 = .ok (.iload_n 1, 1) := by decide +kernel
theorem dX11_gain_12 : decode cX11_gain 12 = .ok (.if_icmp .ne 7, 3) := by decide +kernel
theorem dX11_gain_19 : decode cX11_gain 19 = .ok (.iconst 0, 1) := by decide +kernel
theorem dX11_gain_15 : decode cX11_gain 15 = .ok (.iconst 3, 1) := by decide +kernel
theorem dX11_gain_16 : decode cX11_gain 16 = .ok (.goto 4, 3) := by decide +kernel
theorem dX11_gain_5 : decode cX11_gain 5 = .ok (.bipush 6, 2) := by decide +kernel
theorem dX11_gain_7 : decode cX11_gain 7 = .ok (.goto 13, 3) := by decide +kernel
theorem dX11_isContent_0 : decode cX11_isContent 0 = .ok (.iconst 1, 1) := by decide +kernel
theorem dX11_isContent_1 : decode cX11_isContent 1 = .ok (.istore_n 3, 1) := by decide +kernel
theorem dX11_isContent_2 : decode cX11_isContent 2 = .ok (.iload_n 3, 1) := by decide +kernel
theorem dX11_isContent_3 : decode cX11_isContent 3 = .ok (.bipush 9, 2) := by decide +kernel
theorem dX11_isContent_5 : decode cX11_isContent 5 = .ok (.if_icmp .gt 26, 3) := by decide +kernel
theorem dX11_isContent_8 : decode cX11_isContent 8 = .ok (.iload_n 3, 1) := by decide +kernel
theorem dX11_isContent_9 : decode cX11_isContent 9 = .ok (.iload_n 1, 1) := by decide +kernel
theorem dX11_isContent_10 : decode cX11_isContent 10 = .ok (.iload_n 2, 1) := by decide +kernel
theorem dX11_isContent_11 : decode cX11_isContent 11 = .ok (.invokestatic 370, 3) := by decide +kernel
theorem dX11_isContent_14 : decode cX11_isContent 14 = .ok (.iload_n 0, 1) := by decide +kernel
theorem dX11_isContent_15 : decode cX11_isContent 15 = .ok (.iload_n 1, 1) := by decide +kernel
theorem dX11_isContent_16 : decode cX11_isContent 16 = .ok (.iload_n 2, 1) := by decide +kernel
theorem dX11_isContent_17 : decode cX11_isContent 17 = .ok (.invokestatic 370, 3) := by decide +kernel
theorem dX11_isContent_20 : decode cX11_isContent 20 = .ok (.if_icmp .le 5, 3) := by decide +kernel
theorem dX11_isContent_25 : decode cX11_isContent 25 = .ok (.iinc 3 1, 3) := by decide +kernel
theorem dX11_isContent_28 : decode cX11_isContent 28 = .ok (.goto (-26), 3) := by decide +kernel
theorem dX11_isContent_23 : decode cX11_isContent 23 = .ok (.iconst 0, 1) := by decide +kernel
theorem dX11_isContent_24 : decode cX11_isContent 24 = .ok (.ireturn, 1) := by decide +kernel
theorem dX11_isContent_31 : decode cX11_isContent 31 = .ok (.iconst 1, 1) := by decide +kernel
theorem dX11_isContent_32 : decode cX11_isContent 32 = .ok (.ireturn, 1) := by decide +kernel
theorem dX11_rests_0 : decode cX11_rests 0 = .ok (.iload_n 1, 1) := by decide +kernel
theorem dX11_rests_1 : decode cX11_rests 1 = .ok (.ifCond .lt 9, 3) := by decide +kernel
theorem dX11_rests_10 : decode cX11_rests 10 = .ok (.iconst (-1), 1) := by decide +kernel
theorem dX11_rests_11 : decode cX11_rests 11 = .ok (.ireturn, 1) := by decide +kernel
theorem dX11_rests_4 : decode cX11_rests 4 = .ok (.iload_n 1, 1) := by decide +kernel
theorem dX11_rests_5 : decode cX11_rests 5 = .ok (.bipush 9, 2) := by decide +kernel
theorem dX11_rests_7 : decode cX11_rests 7 = .ok (.if_icmp .le 5, 3) := by decide +kernel
theorem dX11_rests_12 : decode cX11_rests 12 = .ok (.aload_n 0, 1) := by decide +kernel
theorem dX11_rests_13 : decode cX11_rests 13 = .ok (.getfield 59, 3) := by decide +kernel
theorem dX11_rests_16 : decode cX11_rests 16 = .ok (.iconst 0, 1) := by decide +kernel
theorem dX11_rests_17 : decode cX11_rests 17 = .ok (.putfield 288, 3) := by decide +kernel
theorem dX11_rests_20 : decode cX11_rests 20 = .ok (.iconst 0, 1) := by decide +kernel
theorem dX11_rests_21 : decode cX11_rests 21 = .ok (.istore_n 2, 1) := by decide +kernel
theorem dX11_rests_22 : decode cX11_rests 22 = .ok (.iconst 1, 1) := by decide +kernel
theorem dX11_rests_23 : decode cX11_rests 23 = .ok (.istore_n 3, 1) := by decide +kernel
theorem dX11_rests_24 : decode cX11_rests 24 = .ok (.iload_n 3, 1) := by decide +kernel
theorem dX11_rests_25 : decode cX11_rests 25 = .ok (.bipush 9, 2) := by decide +kernel
theorem dX11_rests_27 : decode cX11_rests 27 = .ok (.if_icmp .gt 56, 3) := by decide +kernel
theorem dX11_rests_30 : decode cX11_rests 30 = .ok (.iconst 1, 1) := by decide +kernel
theorem dX11_rests_31 : decode cX11_rests 31 = .ok (.istore 4, 2) := by decide +kernel
theorem dX11_rests_33 : decode cX11_rests 33 = .ok (.iload 4, 2) := by decide +kernel
theorem dX11_rests_35 : decode cX11_rests 35 = .ok (.bipush 9, 2) := by decide +kernel
theorem dX11_rests_37 : decode cX11_rests 37 = .ok (.if_icmp .gt 40, 3) := by decide +kernel
theorem dX11_rests_40 : decode cX11_rests 40 = .ok (.iload_n 3, 1) := by decide +kernel
theorem dX11_rests_41 : decode cX11_rests 41 = .ok (.iload 4, 2) := by decide +kernel
theorem dX11_rests_43 : decode cX11_rests 43 = .ok (.iload_n 1, 1) := by decide +kernel
theorem dX11_rests_44 : decode cX11_rests 44 = .ok (.invokestatic 366, 3) := by decide +kernel
theorem dX11_rests_71 : decode cX11_rests 71 = .ok (.iinc 4 1, 3) := by decide +kernel
theorem dX11_rests_74 : decode cX11_rests 74 = .ok (.goto (-41), 3) := by decide +kernel
theorem dX11_rests_47 : decode cX11_rests 47 = .ok (.ifCond .eq 24, 3) := by decide +kernel
theorem dX11_rests_50 : decode cX11_rests 50 = .ok (.iload 4, 2) := by decide +kernel
theorem dX11_rests_52 : decode cX11_rests 52 = .ok (.iload_n 3, 1) := by decide +kernel
theorem dX11_rests_53 : decode cX11_rests 53 = .ok (.iload_n 1, 1) := by decide +kernel
theorem dX11_rests_54 : decode cX11_rests 54 = .ok (.invokestatic 366, 3) := by decide +kernel
theorem dX11_rests_57 : decode cX11_rests 57 = .ok (.ifCond .eq 14, 3) := by decide +kernel
theorem dX11_rests_60 : decode cX11_rests 60 = .ok (.iinc 2 1, 3) := by decide +kernel
theorem dX11_rests_63 : decode cX11_rests 63 = .ok (.aload_n 0, 1) := by decide +kernel
theorem dX11_rests_64 : decode cX11_rests 64 = .ok (.iload_n 2, 1) := by decide +kernel
theorem dX11_rests_65 : decode cX11_rests 65 = .ok (.iload_n 3, 1) := by decide +kernel
theorem dX11_rests_66 : decode cX11_rests 66 = .ok (.iload 4, 2) := by decide +kernel
theorem dX11_rests_68 : decode cX11_rests 68 = .ok (.invokevirtual 293, 3) := by decide +kernel
theorem dX11_rests_77 : decode cX11_rests 77 = .ok (.iinc 3 1, 3) := by decide +kernel
theorem dX11_rests_80 : decode cX11_rests 80 = .ok (.goto (-56), 3) := by decide +kernel
theorem dX11_rests_83 : decode cX11_rests 83 = .ok (.iload_n 2, 1) := by decide +kernel
theorem dX11_rests_84 : decode cX11_rests 84 = .ok (.ireturn, 1) := by decide +kernel
theorem dX11_mark_0 : decode cX11_mark 0 = .ok (.aload_n 0, 1) := by decide +kernel
theorem dX11_mark_1 : decode cX11_mark 1 = .ok (.getfield 19, 3) := by decide +kernel
theorem dX11_mark_4 : decode cX11_mark 4 = .ok (.iload_n 1, 1) := by decide +kernel
theorem dX11_mark_5 : decode cX11_mark 5 = .ok (.invokevirtual 136, 3) := by decide +kernel
theorem dX11_mark_8 : decode cX11_mark 8 = .ok (.ifCond .eq 34, 3) := by decide +kernel
theorem dX11_mark_42 : decode cX11_mark 42 = .ok (.iconst (-1), 1) := by decide +kernel
theorem dX11_mark_43 : decode cX11_mark 43 = .ok (.ireturn, 1) := by decide +kernel
theorem dX11_mark_11 : decode cX11_mark 11 = .ok (.iload_n 2, 1) := by decide +kernel
theorem dX11_mark_12 : decode cX11_mark 12 = .ok (.ifCond .lt 30, 3) := by decide +kernel
theorem dX11_mark_15 : decode cX11_mark 15 = .ok (.iload_n 2, 1) := by decide +kernel
theorem dX11_mark_16 : decode cX11_mark 16 = .ok (.iconst 2, 1) := by decide +kernel
theorem dX11_mark_17 : decode cX11_mark 17 = .ok (.if_icmp .gt 25, 3) := by decide +kernel
theorem dX11_mark_20 : decode cX11_mark 20 = .ok (.iload_n 3, 1) := by decide +kernel
theorem dX11_mark_21 : decode cX11_mark 21 = .ok (.ifCond .lt 21, 3) := by decide +kernel
theorem dX11_mark_24 : decode cX11_mark 24 = .ok (.iload_n 3, 1) := by decide +kernel
theorem dX11_mark_25 : decode cX11_mark 25 = .ok (.bipush 99, 2) := by decide +kernel
theorem dX11_mark_27 : decode cX11_mark 27 = .ok (.if_icmp .gt 15, 3) := by decide +kernel
theorem dX11_mark_30 : decode cX11_mark 30 = .ok (.aload_n 0, 1) := by decide +kernel
theorem dX11_mark_31 : decode cX11_mark 31 = .ok (.getfield 66, 3) := by decide +kernel
theorem dX11_mark_34 : decode cX11_mark 34 = .ok (.getfield 121, 3) := by decide +kernel
theorem dX11_mark_37 : decode cX11_mark 37 = .ok (.bipush 12, 2) := by decide +kernel
theorem dX11_mark_39 : decode cX11_mark 39 = .ok (.if_icmp .lt 5, 3) := by decide +kernel
theorem dX11_mark_44 : decode cX11_mark 44 = .ok (.aload_n 0, 1) := by decide +kernel
theorem dX11_mark_45 : decode cX11_mark 45 = .ok (.getfield 66, 3) := by decide +kernel
theorem dX11_mark_48 : decode cX11_mark 48 = .ok (.iload_n 1, 1) := by decide +kernel
theorem dX11_mark_49 : decode cX11_mark 49 = .ok (.iload_n 2, 1) := by decide +kernel
theorem dX11_mark_50 : decode cX11_mark 50 = .ok (.iload_n 3, 1) := by decide +kernel
theorem dX11_mark_51 : decode cX11_mark 51 = .ok (.invokevirtual 373, 3) := by decide +kernel
theorem dX11_mark_54 : decode cX11_mark 54 = .ok (.aload_n 0, 1) := by decide +kernel
theorem dX11_mark_55 : decode cX11_mark 55 = .ok (.getfield 66, 3) := by decide +kernel
theorem dX11_mark_58 : decode cX11_mark 58 = .ok (.getfield 121, 3) := by decide +kernel
theorem dX11_mark_61 : decode cX11_mark 61 = .ok (.ireturn, 1) := by decide +kernel
theorem dX11_wipe_0 : decode cX11_wipe 0 = .ok (.aload_n 0, 1) := by decide +kernel
theorem dX11_wipe_1 : decode cX11_wipe 1 = .ok (.getfield 66, 3) := by decide +kernel
theorem dX11_wipe_4 : decode cX11_wipe 4 = .ok (.getfield 121, 3) := by decide +kernel
theorem dX11_wipe_7 : decode cX11_wipe 7 = .ok (.istore_n 1, 1) := by decide +kernel
theorem dX11_wipe_8 : decode cX11_wipe 8 = .ok (.aload_n 0, 1) := by decide +kernel
theorem dX11_wipe_9 : decode cX11_wipe 9 = .ok (.getfield 66, 3) := by decide +kernel
theorem dX11_wipe_12 : decode cX11_wipe 12 = .ok (.iconst 0, 1) := by decide +kernel
theorem dX11_wipe_13 : decode cX11_wipe 13 = .ok (.putfield 121, 3) := by decide +kernel
theorem dX11_wipe_16 : decode cX11_wipe 16 = .ok (.iload_n 1, 1) := by decide +kernel
theorem dX11_wipe_17 : decode cX11_wipe 17 = .ok (.ireturn, 1) := by decide +kernel
theorem dX11_lay_0 : decode cX11_lay 0 = .ok (.aload_n 0, 1) := by decide +kernel
theorem dX11_lay_1 : decode cX11_lay 1 = .ok (.getfield 19, 3) := by decide +kernel
theorem dX11_lay_4 : decode cX11_lay 4 = .ok (.iload_n 1, 1) := by decide +kernel
theorem dX11_lay_5 : decode cX11_lay 5 = .ok (.invokevirtual 136, 3) := by decide +kernel
theorem dX11_lay_8 : decode cX11_lay 8 = .ok (.ifCond .ne 5, 3) := by decide +kernel
theorem dX11_lay_13 : decode cX11_lay 13 = .ok (.aload_n 0, 1) := by decide +kernel
theorem dX11_lay_14 : decode cX11_lay 14 = .ok (.getfield 66, 3) := by decide +kernel
theorem dX11_lay_17 : decode cX11_lay 17 = .ok (.aload_n 0, 1) := by decide +kernel
theorem dX11_lay_18 : decode cX11_lay 18 = .ok (.getfield 42, 3) := by decide +kernel
theorem dX11_lay_21 : decode cX11_lay 21 = .ok (.iload_n 1, 1) := by decide +kernel
theorem dX11_lay_22 : decode cX11_lay 22 = .ok (.invokevirtual 375, 3) := by decide +kernel
theorem dX11_lay_25 : decode cX11_lay 25 = .ok (.istore_n 2, 1) := by decide +kernel
theorem dX11_lay_26 : decode cX11_lay 26 = .ok (.aload_n 0, 1) := by decide +kernel
theorem dX11_lay_27 : decode cX11_lay 27 = .ok (.getfield 59, 3) := by decide +kernel
theorem dX11_lay_30 : decode cX11_lay 30 = .ok (.iconst 0, 1) := by decide +kernel
theorem dX11_lay_31 : decode cX11_lay 31 = .ok (.putfield 288, 3) := by decide +kernel
theorem dX11_lay_34 : decode cX11_lay 34 = .ok (.aload_n 0, 1) := by decide +kernel
theorem dX11_lay_35 : decode cX11_lay 35 = .ok (.getfield 59, 3) := by decide +kernel
theorem dX11_lay_38 : decode cX11_lay 38 = .ok (.iload_n 2, 1) := by decide +kernel
theorem dX11_lay_39 : decode cX11_lay 39 = .ok (.invokestatic 250, 3) := by decide +kernel
theorem dX11_lay_42 : decode cX11_lay 42 = .ok (.i2l, 1) := by decide +kernel
theorem dX11_lay_43 : decode cX11_lay 43 = .ok (.invokevirtual 306, 3) := by decide +kernel
theorem dX11_lay_46 : decode cX11_lay 46 = .ok (.iload_n 2, 1) := by decide +kernel
theorem dX11_lay_47 : decode cX11_lay 47 = .ok (.ireturn, 1) := by decide +kernel
theorem dX11_lay_11 : decode cX11_lay 11 = .ok (.iconst (-1), 1) := by decide +kernel
theorem dX11_lay_12 : decode cX11_lay 12 = .ok (.ireturn, 1) := by decide +kernel
theorem dX11_ways_0 : decode cX11_ways 0 = .ok (.aload_n 0, 1) := by decide +kernel
theorem dX11_ways_1 : decode cX11_ways 1 = .ok (.getfield 66, 3) := by decide +kernel
theorem dX11_ways_4 : decode cX11_ways 4 = .ok (.aload_n 0, 1) := by decide +kernel
theorem dX11_ways_5 : decode cX11_ways 5 = .ok (.getfield 42, 3) := by decide +kernel
theorem dX11_ways_8 : decode cX11_ways 8 = .ok (.invokevirtual 378, 3) := by decide +kernel
theorem dX11_ways_11 : decode cX11_ways 11 = .ok (.istore_n 1, 1) := by decide +kernel
theorem dX11_ways_12 : decode cX11_ways 12 = .ok (.aload_n 0, 1) := by decide +kernel
theorem dX11_ways_13 : decode cX11_ways 13 = .ok (.getfield 59, 3) := by decide +kernel
theorem dX11_ways_16 : decode cX11_ways 16 = .ok (.iconst 0, 1) := by decide +kernel
theorem dX11_ways_17 : decode cX11_ways 17 = .ok (.putfield 288, 3) := by decide +kernel
theorem dX11_ways_20 : decode cX11_ways 20 = .ok (.iconst 0, 1) := by decide +kernel
theorem dX11_ways_21 : decode cX11_ways 21 = .ok (.istore_n 2, 1) := by decide +kernel
theorem dX11_ways_22 : decode cX11_ways 22 = .ok (.iload_n 1, 1) := by decide +kernel
theorem dX11_ways_23 : decode cX11_ways 23 = .ok (.ifCond .le 37, 3) := by decide +kernel
theorem dX11_ways_26 : decode cX11_ways 26 = .ok (.iload_n 2, 1) := by decide +kernel
theorem dX11_ways_27 : decode cX11_ways 27 = .ok (.aload_n 0, 1) := by decide +kernel
theorem dX11_ways_28 : decode cX11_ways 28 = .ok (.getfield 66, 3) := by decide +kernel
theorem dX11_ways_31 : decode cX11_ways 31 = .ok (.getfield 382, 3) := by decide +kernel
theorem dX11_ways_34 : decode cX11_ways 34 = .ok (.if_icmp .ge 26, 3) := by decide +kernel
theorem dX11_ways_37 : decode cX11_ways 37 = .ok (.aload_n 0, 1) := by decide +kernel
theorem dX11_ways_38 : decode cX11_ways 38 = .ok (.getfield 59, 3) := by decide +kernel
theorem dX11_ways_41 : decode cX11_ways 41 = .ok (.aload_n 0, 1) := by decide +kernel
theorem dX11_ways_42 : decode cX11_ways 42 = .ok (.getfield 66, 3) := by decide +kernel
theorem dX11_ways_45 : decode cX11_ways 45 = .ok (.getfield 385, 3) := by decide +kernel
theorem dX11_ways_48 : decode cX11_ways 48 = .ok (.iload_n 2, 1) := by decide +kernel
theorem dX11_ways_49 : decode cX11_ways 49 = .ok (.iaload, 1) := by decide +kernel
theorem dX11_ways_50 : decode cX11_ways 50 = .ok (.i2l, 1) := by decide +kernel
theorem dX11_ways_51 : decode cX11_ways 51 = .ok (.invokevirtual 306, 3) := by decide +kernel
theorem dX11_ways_54 : decode cX11_ways 54 = .ok (.iinc 2 1, 3) := by decide +kernel
theorem dX11_ways_57 : decode cX11_ways 57 = .ok (.goto (-35), 3) := by decide +kernel
theorem dX11_ways_60 : decode cX11_ways 60 = .ok (.iload_n 1, 1) := by decide +kernel
theorem dX11_ways_61 : decode cX11_ways 61 = .ok (.ireturn, 1) := by decide +kernel
theorem dX11_sure_0 : decode cX11_sure 0 = .ok (.aload_n 0, 1) := by decide +kernel
theorem dX11_sure_1 : decode cX11_sure 1 = .ok (.getfield 66, 3) := by decide +kernel
theorem dX11_sure_4 : decode cX11_sure 4 = .ok (.aload_n 0, 1) := by decide +kernel
theorem dX11_sure_5 : decode cX11_sure 5 = .ok (.getfield 42, 3) := by decide +kernel
theorem dX11_sure_8 : decode cX11_sure 8 = .ok (.invokevirtual 378, 3) := by decide +kernel
theorem dX11_sure_11 : decode cX11_sure 11 = .ok (.istore_n 1, 1) := by decide +kernel
theorem dX11_sure_12 : decode cX11_sure 12 = .ok (.aload_n 0, 1) := by decide +kernel
theorem dX11_sure_13 : decode cX11_sure 13 = .ok (.getfield 59, 3) := by decide +kernel
theorem dX11_sure_16 : decode cX11_sure 16 = .ok (.iconst 0, 1) := by decide +kernel
theorem dX11_sure_17 : decode cX11_sure 17 = .ok (.putfield 288, 3) := by decide +kernel
theorem dX11_sure_20 : decode cX11_sure 20 = .ok (.iconst 0, 1) := by decide +kernel
theorem dX11_sure_21 : decode cX11_sure 21 = .ok (.istore_n 2, 1) := by decide +kernel
theorem dX11_sure_22 : decode cX11_sure 22 = .ok (.iconst 0, 1) := by decide +kernel
theorem dX11_sure_23 : decode cX11_sure 23 = .ok (.istore_n 3, 1) := by decide +kernel
theorem dX11_sure_24 : decode cX11_sure 24 = .ok (.iload_n 1, 1) := by decide +kernel
theorem dX11_sure_25 : decode cX11_sure 25 = .ok (.ifCond .le 66, 3) := by decide +kernel
theorem dX11_sure_28 : decode cX11_sure 28 = .ok (.iload_n 3, 1) := by decide +kernel
theorem dX11_sure_29 : decode cX11_sure 29 = .ok (.aload_n 0, 1) := by decide +kernel
theorem dX11_sure_30 : decode cX11_sure 30 = .ok (.getfield 66, 3) := by decide +kernel
theorem dX11_sure_33 : decode cX11_sure 33 = .ok (.getfield 382, 3) := by decide +kernel
theorem dX11_sure_36 : decode cX11_sure 36 = .ok (.if_icmp .ge 55, 3) := by decide +kernel
theorem dX11_sure_39 : decode cX11_sure 39 = .ok (.aload_n 0, 1) := by decide +kernel
theorem dX11_sure_40 : decode cX11_sure 40 = .ok (.getfield 66, 3) := by decide +kernel
theorem dX11_sure_43 : decode cX11_sure 43 = .ok (.getfield 386, 3) := by decide +kernel
theorem dX11_sure_46 : decode cX11_sure 46 = .ok (.iload_n 3, 1) := by decide +kernel
theorem dX11_sure_47 : decode cX11_sure 47 = .ok (.ishr, 1) := by decide +kernel
theorem dX11_sure_48 : decode cX11_sure 48 = .ok (.iconst 1, 1) := by decide +kernel
theorem dX11_sure_49 : decode cX11_sure 49 = .ok (.iand, 1) := by decide +kernel
theorem dX11_sure_50 : decode cX11_sure 50 = .ok (.iconst 1, 1) := by decide +kernel
theorem dX11_sure_85 : decode cX11_sure 85 = .ok (.iinc 3 1, 3) := by decide +kernel
theorem dX11_sure_88 : decode cX11_sure 88 = .ok (.goto (-64), 3) := by decide +kernel
theorem dX11_sure_51 : decode cX11_sure 51 = .ok (.if_icmp .ne 34, 3) := by decide +kernel
theorem dX11_sure_54 : decode cX11_sure 54 = .ok (.iload_n 2, 1) := by decide +kernel
theorem dX11_sure_55 : decode cX11_sure 55 = .ok (.iconst 1, 1) := by decide +kernel
theorem dX11_sure_56 : decode cX11_sure 56 = .ok (.aload_n 0, 1) := by decide +kernel
theorem dX11_sure_57 : decode cX11_sure 57 = .ok (.getfield 66, 3) := by decide +kernel
theorem dX11_sure_60 : decode cX11_sure 60 = .ok (.getfield 389, 3) := by decide +kernel
theorem dX11_sure_63 : decode cX11_sure 63 = .ok (.iload_n 3, 1) := by decide +kernel
theorem dX11_sure_64 : decode cX11_sure 64 = .ok (.iaload, 1) := by decide +kernel
theorem dX11_sure_65 : decode cX11_sure 65 = .ok (.ishl, 1) := by decide +kernel
theorem dX11_sure_66 : decode cX11_sure 66 = .ok (.ior, 1) := by decide +kernel
theorem dX11_sure_67 : decode cX11_sure 67 = .ok (.istore_n 2, 1) := by decide +kernel
theorem dX11_sure_68 : decode cX11_sure 68 = .ok (.aload_n 0, 1) := by decide +kernel
theorem dX11_sure_69 : decode cX11_sure 69 = .ok (.getfield 59, 3) := by decide +kernel
theorem dX11_sure_72 : decode cX11_sure 72 = .ok (.aload_n 0, 1) := by decide +kernel
theorem dX11_sure_73 : decode cX11_sure 73 = .ok (.getfield 66, 3) := by decide +kernel
theorem dX11_sure_76 : decode cX11_sure 76 = .ok (.getfield 385, 3) := by decide +kernel
theorem dX11_sure_79 : decode cX11_sure 79 = .ok (.iload_n 3, 1) := by decide +kernel
theorem dX11_sure_80 : decode cX11_sure 80 = .ok (.iaload, 1) := by decide +kernel
theorem dX11_sure_81 : decode cX11_sure 81 = .ok (.i2l, 1) := by decide +kernel
theorem dX11_sure_82 : decode cX11_sure 82 = .ok (.invokevirtual 306, 3) := by decide +kernel
theorem dX11_sure_91 : decode cX11_sure 91 = .ok (.iload_n 2, 1) := by decide +kernel
theorem dX11_sure_92 : decode cX11_sure 92 = .ok (.ireturn, 1) := by decide +kernel
theorem dX11_power_0 : decode cX11_power 0 = .ok (.lconst 1, 1) := by decide +kernel
theorem dX11_power_1 : decode cX11_power 1 = .ok (.lstore_n 2, 1) := by decide +kernel
theorem dX11_power_2 : decode cX11_power 2 = .ok (.iconst 0, 1) := by decide +kernel
theorem dX11_power_3 : decode cX11_power 3 = .ok (.istore 4, 2) := by decide +kernel
theorem dX11_power_5 : decode cX11_power 5 = .ok (.iload 4, 2) := by decide +kernel
theorem dX11_power_7 : decode cX11_power 7 = .ok (.iload_n 1, 1) := by decide +kernel
theorem dX11_power_8 : decode cX11_power 8 = .ok (.if_icmp .ge 14, 3) := by decide +kernel
theorem dX11_power_11 : decode cX11_power 11 = .ok (.lload_n 2, 1) := by decide +kernel
theorem dX11_power_12 : decode cX11_power 12 = .ok (.iload_n 0, 1) := by decide +kernel
theorem dX11_power_13 : decode cX11_power 13 = .ok (.i2l, 1) := by decide +kernel
theorem dX11_power_14 : decode cX11_power 14 = .ok (.lmul, 1) := by decide +kernel
theorem dX11_power_15 : decode cX11_power 15 = .ok (.lstore_n 2, 1) := by decide +kernel
theorem dX11_power_16 : decode cX11_power 16 = .ok (.iinc 4 1, 3) := by decide +kernel
theorem dX11_power_19 : decode cX11_power 19 = .ok (.goto (-14), 3) := by decide +kernel
theorem dX11_power_22 : decode cX11_power 22 = .ok (.lload_n 2, 1) := by decide +kernel
theorem dX11_power_23 : decode cX11_power 23 = .ok (.lreturn, 1) := by decide +kernel
theorem dX11_likely_0 : decode cX11_likely 0 = .ok (.lconst 0, 1) := by decide +kernel
theorem dX11_likely_1 : decode cX11_likely 1 = .ok (.lstore 5, 2) := by decide +kernel
theorem dX11_likely_3 : decode cX11_likely 3 = .ok (.iconst 0, 1) := by decide +kernel
theorem dX11_likely_4 : decode cX11_likely 4 = .ok (.istore 7, 2) := by decide +kernel
theorem dX11_likely_6 : decode cX11_likely 6 = .ok (.iload 7, 2) := by decide +kernel
theorem dX11_likely_8 : decode cX11_likely 8 = .ok (.iconst 1, 1) := by decide +kernel
theorem dX11_likely_9 : decode cX11_likely 9 = .ok (.iload_n 2, 1) := by decide +kernel
theorem dX11_likely_10 : decode cX11_likely 10 = .ok (.ishl, 1) := by decide +kernel
theorem dX11_likely_11 : decode cX11_likely 11 = .ok (.if_icmp .ge 55, 3) := by decide +kernel
theorem dX11_likely_14 : decode cX11_likely 14 = .ok (.aload_n 0, 1) := by decide +kernel
theorem dX11_likely_15 : decode cX11_likely 15 = .ok (.getfield 42, 3) := by decide +kernel
theorem dX11_likely_18 : decode cX11_likely 18 = .ok (.iload_n 1, 1) := by decide +kernel
theorem dX11_likely_19 : decode cX11_likely 19 = .ok (.iload_n 2, 1) := by decide +kernel
theorem dX11_likely_20 : decode cX11_likely 20 = .ok (.iload 7, 2) := by decide +kernel
theorem dX11_likely_22 : decode cX11_likely 22 = .ok (.iload 4, 2) := by decide +kernel
theorem dX11_likely_24 : decode cX11_likely 24 = .ok (.invokevirtual 408, 3) := by decide +kernel
theorem dX11_likely_60 : decode cX11_likely 60 = .ok (.iinc 7 1, 3) := by decide +kernel
theorem dX11_likely_63 : decode cX11_likely 63 = .ok (.goto (-57), 3) := by decide +kernel
theorem dX11_likely_27 : decode cX11_likely 27 = .ok (.ifCond .eq 33, 3) := by decide +kernel
theorem dX11_likely_30 : decode cX11_likely 30 = .ok (.iload 7, 2) := by decide +kernel
theorem dX11_likely_32 : decode cX11_likely 32 = .ok (.invokestatic 250, 3) := by decide +kernel
theorem dX11_likely_35 : decode cX11_likely 35 = .ok (.istore 8, 2) := by decide +kernel
theorem dX11_likely_37 : decode cX11_likely 37 = .ok (.lload 5, 2) := by decide +kernel
theorem dX11_likely_39 : decode cX11_likely 39 = .ok (.iload_n 3, 1) := by decide +kernel
theorem dX11_likely_40 : decode cX11_likely 40 = .ok (.iload 8, 2) := by decide +kernel
theorem dX11_likely_42 : decode cX11_likely 42 = .ok (.invokestatic 399, 3) := by decide +kernel
theorem dX11_likely_45 : decode cX11_likely 45 = .ok (.bipush 10, 2) := by decide +kernel
theorem dX11_likely_47 : decode cX11_likely 47 = .ok (.iload_n 3, 1) := by decide +kernel
theorem dX11_likely_48 : decode cX11_likely 48 = .ok (.isub, 1) := by decide +kernel
theorem dX11_likely_49 : decode cX11_likely 49 = .ok (.iload_n 2, 1) := by decide +kernel
theorem dX11_likely_50 : decode cX11_likely 50 = .ok (.iload 8, 2) := by decide +kernel
theorem dX11_likely_52 : decode cX11_likely 52 = .ok (.isub, 1) := by decide +kernel
theorem dX11_likely_53 : decode cX11_likely 53 = .ok (.invokestatic 399, 3) := by decide +kernel
theorem dX11_likely_56 : decode cX11_likely 56 = .ok (.lmul, 1) := by decide +kernel
theorem dX11_likely_57 : decode cX11_likely 57 = .ok (.ladd, 1) := by decide +kernel
theorem dX11_likely_58 : decode cX11_likely 58 = .ok (.lstore 5, 2) := by decide +kernel
theorem dX11_likely_66 : decode cX11_likely 66 = .ok (.lload 5, 2) := by decide +kernel
theorem dX11_likely_68 : decode cX11_likely 68 = .ok (.lreturn, 1) := by decide +kernel
theorem dX11_tellFraction_0 : decode cX11_tellFraction 0 = .ok (.lload_n 3, 1) := by decide +kernel
theorem dX11_tellFraction_1 : decode cX11_tellFraction 1 = .ok (.lstore 5, 2) := by decide +kernel
theorem dX11_tellFraction_3 : decode cX11_tellFraction 3 = .ok (.lload_n 1, 1) := by decide +kernel
theorem dX11_tellFraction_4 : decode cX11_tellFraction 4 = .ok (.lstore 7, 2) := by decide +kernel
theorem dX11_tellFraction_6 : decode cX11_tellFraction 6 = .ok (.iconst 0, 1) := by decide +kernel
theorem dX11_tellFraction_7 : decode cX11_tellFraction 7 = .ok (.istore 9, 2) := by decide +kernel
theorem dX11_tellFraction_9 : decode cX11_tellFraction 9 = .ok (.iload 9, 2) := by decide +kernel
theorem dX11_tellFraction_11 : decode cX11_tellFraction 11 = .ok (.sipush 128, 3) := by decide +kernel
theorem dX11_tellFraction_14 : decode cX11_tellFraction 14 = .ok (.if_icmp .ge 31, 3) := by decide +kernel
theorem dX11_tellFraction_17 : decode cX11_tellFraction 17 = .ok (.lload 7, 2) := by decide +kernel
theorem dX11_tellFraction_19 : decode cX11_tellFraction 19 = .ok (.lconst 0, 1) := by decide +kernel
theorem dX11_tellFraction_20 : decode cX11_tellFraction 20 = .ok (.lcmp, 1) := by decide +kernel
theorem dX11_tellFraction_21 : decode cX11_tellFraction 21 = .ok (.ifCond .eq 24, 3) := by decide +kernel
theorem dX11_tellFraction_24 : decode cX11_tellFraction 24 = .ok (.lload 5, 2) := by decide +kernel
theorem dX11_tellFraction_26 : decode cX11_tellFraction 26 = .ok (.lload 7, 2) := by decide +kernel
theorem dX11_tellFraction_28 : decode cX11_tellFraction 28 = .ok (.lrem, 1) := by decide +kernel
theorem dX11_tellFraction_29 : decode cX11_tellFraction 29 = .ok (.lstore 10, 2) := by decide +kernel
theorem dX11_tellFraction_31 : decode cX11_tellFraction 31 = .ok (.lload 7, 2) := by decide +kernel
theorem dX11_tellFraction_33 : decode cX11_tellFraction 33 = .ok (.lstore 5, 2) := by decide +kernel
theorem dX11_tellFraction_35 : decode cX11_tellFraction 35 = .ok (.lload 10, 2) := by decide +kernel
theorem dX11_tellFraction_37 : decode cX11_tellFraction 37 = .ok (.lstore 7, 2) := by decide +kernel
theorem dX11_tellFraction_39 : decode cX11_tellFraction 39 = .ok (.iinc 9 1, 3) := by decide +kernel
theorem dX11_tellFraction_42 : decode cX11_tellFraction 42 = .ok (.goto (-33), 3) := by decide +kernel
theorem dX11_tellFraction_45 : decode cX11_tellFraction 45 = .ok (.lload 5, 2) := by decide +kernel
theorem dX11_tellFraction_47 : decode cX11_tellFraction 47 = .ok (.lconst 0, 1) := by decide +kernel
theorem dX11_tellFraction_48 : decode cX11_tellFraction 48 = .ok (.lcmp, 1) := by decide +kernel
theorem dX11_tellFraction_49 : decode cX11_tellFraction 49 = .ok (.ifCond .eq 15, 3) := by decide +kernel
theorem dX11_tellFraction_64 : decode cX11_tellFraction 64 = .ok (.return_, 1) := by decide +kernel
theorem dX11_tellFraction_52 : decode cX11_tellFraction 52 = .ok (.aload_n 0, 1) := by decide +kernel
theorem dX11_tellFraction_53 : decode cX11_tellFraction 53 = .ok (.lload_n 1, 1) := by decide +kernel
theorem dX11_tellFraction_54 : decode cX11_tellFraction 54 = .ok (.lload 5, 2) := by decide +kernel
theorem dX11_tellFraction_56 : decode cX11_tellFraction 56 = .ok (.ldiv, 1) := by decide +kernel
theorem dX11_tellFraction_57 : decode cX11_tellFraction 57 = .ok (.lload_n 3, 1) := by decide +kernel
theorem dX11_tellFraction_58 : decode cX11_tellFraction 58 = .ok (.lload 5, 2) := by decide +kernel
theorem dX11_tellFraction_60 : decode cX11_tellFraction 60 = .ok (.ldiv, 1) := by decide +kernel
theorem dX11_tellFraction_61 : decode cX11_tellFraction 61 = .ok (.invokevirtual 242, 3) := by decide +kernel
theorem dX11_chance_0 : decode cX11_chance 0 = .ok (.aload_n 0, 1) := by decide +kernel
theorem dX11_chance_1 : decode cX11_chance 1 = .ok (.getfield 42, 3) := by decide +kernel
theorem dX11_chance_4 : decode cX11_chance 4 = .ok (.iload_n 1, 1) := by decide +kernel
theorem dX11_chance_5 : decode cX11_chance 5 = .ok (.invokevirtual 160, 3) := by decide +kernel
theorem dX11_chance_8 : decode cX11_chance 8 = .ok (.ifCond .eq 36, 3) := by decide +kernel
theorem dX11_chance_44 : decode cX11_chance 44 = .ok (.iconst (-1), 1) := by decide +kernel
theorem dX11_chance_45 : decode cX11_chance 45 = .ok (.ireturn, 1) := by decide +kernel
theorem dX11_chance_11 : decode cX11_chance 11 = .ok (.iload_n 2, 1) := by decide +kernel
theorem dX11_chance_12 : decode cX11_chance 12 = .ok (.iconst 1, 1) := by decide +kernel
theorem dX11_chance_13 : decode cX11_chance 13 = .ok (.if_icmp .lt 31, 3) := by decide +kernel
theorem dX11_chance_16 : decode cX11_chance 16 = .ok (.iload_n 2, 1) := by decide +kernel
theorem dX11_chance_17 : decode cX11_chance 17 = .ok (.bipush 8, 2) := by decide +kernel
theorem dX11_chance_19 : decode cX11_chance 19 = .ok (.if_icmp .gt 25, 3) := by decide +kernel
theorem dX11_chance_22 : decode cX11_chance 22 = .ok (.iload_n 3, 1) := by decide +kernel
theorem dX11_chance_23 : decode cX11_chance 23 = .ok (.ifCond .lt 21, 3) := by decide +kernel
theorem dX11_chance_26 : decode cX11_chance 26 = .ok (.iload_n 3, 1) := by decide +kernel
theorem dX11_chance_27 : decode cX11_chance 27 = .ok (.bipush 10, 2) := by decide +kernel
theorem dX11_chance_29 : decode cX11_chance 29 = .ok (.if_icmp .gt 15, 3) := by decide +kernel
theorem dX11_chance_32 : decode cX11_chance 32 = .ok (.iload 4, 2) := by decide +kernel
theorem dX11_chance_34 : decode cX11_chance 34 = .ok (.ifCond .lt 10, 3) := by decide +kernel
theorem dX11_chance_37 : decode cX11_chance 37 = .ok (.iload 4, 2) := by decide +kernel
theorem dX11_chance_39 : decode cX11_chance 39 = .ok (.bipush 18, 2) := by decide +kernel
theorem dX11_chance_41 : decode cX11_chance 41 = .ok (.if_icmp .le 5, 3) := by decide +kernel
theorem dX11_chance_46 : decode cX11_chance 46 = .ok (.aload_n 0, 1) := by decide +kernel
theorem dX11_chance_47 : decode cX11_chance 47 = .ok (.getfield 42, 3) := by decide +kernel
theorem dX11_chance_50 : decode cX11_chance 50 = .ok (.getfield 185, 3) := by decide +kernel
theorem dX11_chance_53 : decode cX11_chance 53 = .ok (.iload_n 1, 1) := by decide +kernel
theorem dX11_chance_54 : decode cX11_chance 54 = .ok (.iaload, 1) := by decide +kernel
theorem dX11_chance_55 : decode cX11_chance 55 = .ok (.iconst 1, 1) := by decide +kernel
theorem dX11_chance_56 : decode cX11_chance 56 = .ok (.if_icmp .eq 6, 3) := by decide +kernel
theorem dX11_chance_62 : decode cX11_chance 62 = .ok (.aload_n 0, 1) := by decide +kernel
theorem dX11_chance_63 : decode cX11_chance 63 = .ok (.getfield 42, 3) := by decide +kernel
theorem dX11_chance_66 : decode cX11_chance 66 = .ok (.iload_n 1, 1) := by decide +kernel
theorem dX11_chance_67 : decode cX11_chance 67 = .ok (.invokevirtual 392, 3) := by decide +kernel
theorem dX11_chance_70 : decode cX11_chance 70 = .ok (.aload_n 0, 1) := by decide +kernel
theorem dX11_chance_71 : decode cX11_chance 71 = .ok (.aload_n 0, 1) := by decide +kernel
theorem dX11_chance_72 : decode cX11_chance 72 = .ok (.iload_n 1, 1) := by decide +kernel
theorem dX11_chance_73 : decode cX11_chance 73 = .ok (.iload_n 2, 1) := by decide +kernel
theorem dX11_chance_74 : decode cX11_chance 74 = .ok (.iload_n 3, 1) := by decide +kernel
theorem dX11_chance_75 : decode cX11_chance 75 = .ok (.iload 4, 2) := by decide +kernel
theorem dX11_chance_77 : decode cX11_chance 77 = .ok (.invokevirtual 395, 3) := by decide +kernel
theorem dX11_chance_80 : decode cX11_chance 80 = .ok (.bipush 10, 2) := by decide +kernel
theorem dX11_chance_82 : decode cX11_chance 82 = .ok (.iload_n 2, 1) := by decide +kernel
theorem dX11_chance_83 : decode cX11_chance 83 = .ok (.invokestatic 399, 3) := by decide +kernel
theorem dX11_chance_86 : decode cX11_chance 86 = .ok (.invokevirtual 403, 3) := by decide +kernel
theorem dX11_chance_89 : decode cX11_chance 89 = .ok (.iconst 0, 1) := by decide +kernel
theorem dX11_chance_90 : decode cX11_chance 90 = .ok (.ireturn, 1) := by decide +kernel
theorem dX11_chance_59 : decode cX11_chance 59 = .ok (.bipush (-2), 2) := by decide +kernel
theorem dX11_chance_61 : decode cX11_chance 61 = .ok (.ireturn, 1) := by decide +kernel
theorem dX11_when_0 : decode cX11_when 0 = .ok (.aload_n 0, 1) := by decide +kernel
theorem dX11_when_1 : decode cX11_when 1 = .ok (.getfield 42, 3) := by decide +kernel
theorem dX11_when_4 : decode cX11_when 4 = .ok (.iload_n 1, 1) := by decide +kernel
theorem dX11_when_5 : decode cX11_when 5 = .ok (.invokevirtual 160, 3) := by decide +kernel
theorem dX11_when_8 : decode cX11_when 8 = .ok (.ifCond .eq 13, 3) := by decide +kernel
theorem dX11_when_21 : decode cX11_when 21 = .ok (.iconst (-1), 1) := by decide +kernel
theorem dX11_when_22 : decode cX11_when 22 = .ok (.ireturn, 1) := by decide +kernel
theorem dX11_when_11 : decode cX11_when 11 = .ok (.iload_n 2, 1) := by decide +kernel
theorem dX11_when_12 : decode cX11_when 12 = .ok (.ifCond .lt 9, 3) := by decide +kernel
theorem dX11_when_15 : decode cX11_when 15 = .ok (.iload_n 2, 1) := by decide +kernel
theorem dX11_when_16 : decode cX11_when 16 = .ok (.bipush 10, 2) := by decide +kernel
theorem dX11_when_18 : decode cX11_when 18 = .ok (.if_icmp .le 5, 3) := by decide +kernel
theorem dX11_when_23 : decode cX11_when 23 = .ok (.aload_n 0, 1) := by decide +kernel
theorem dX11_when_24 : decode cX11_when 24 = .ok (.getfield 42, 3) := by decide +kernel
theorem dX11_when_27 : decode cX11_when 27 = .ok (.getfield 185, 3) := by decide +kernel
theorem dX11_when_30 : decode cX11_when 30 = .ok (.iload_n 1, 1) := by decide +kernel
theorem dX11_when_31 : decode cX11_when 31 = .ok (.iaload, 1) := by decide +kernel
theorem dX11_when_32 : decode cX11_when 32 = .ok (.iconst 1, 1) := by decide +kernel
theorem dX11_when_33 : decode cX11_when 33 = .ok (.if_icmp .eq 6, 3) := by decide +kernel
theorem dX11_when_39 : decode cX11_when 39 = .ok (.aload_n 0, 1) := by decide +kernel
theorem dX11_when_40 : decode cX11_when 40 = .ok (.getfield 42, 3) := by decide +kernel
theorem dX11_when_43 : decode cX11_when 43 = .ok (.iload_n 1, 1) := by decide +kernel
theorem dX11_when_44 : decode cX11_when 44 = .ok (.invokevirtual 392, 3) := by decide +kernel
theorem dX11_when_47 : decode cX11_when 47 = .ok (.ldc2_w 406, 3) := by decide +kernel
theorem dX11_when_50 : decode cX11_when 50 = .ok (.lstore_n 3, 1) := by decide +kernel
theorem dX11_when_51 : decode cX11_when 51 = .ok (.iconst 1, 1) := by decide +kernel
theorem dX11_when_52 : decode cX11_when 52 = .ok (.istore 5, 2) := by decide +kernel
theorem dX11_when_54 : decode cX11_when 54 = .ok (.iconst 1, 1) := by decide +kernel
theorem dX11_when_55 : decode cX11_when 55 = .ok (.istore 6, 2) := by decide +kernel
theorem dX11_when_57 : decode cX11_when 57 = .ok (.iload 6, 2) := by decide +kernel
theorem dX11_when_59 : decode cX11_when 59 = .ok (.bipush 8, 2) := by decide +kernel
theorem dX11_when_61 : decode cX11_when 61 = .ok (.if_icmp .gt 53, 3) := by decide +kernel
theorem dX11_when_64 : decode cX11_when 64 = .ok (.aload_n 0, 1) := by decide +kernel
theorem dX11_when_65 : decode cX11_when 65 = .ok (.iload_n 1, 1) := by decide +kernel
theorem dX11_when_66 : decode cX11_when 66 = .ok (.iload 6, 2) := by decide +kernel
theorem dX11_when_68 : decode cX11_when 68 = .ok (.iload_n 2, 1) := by decide +kernel
theorem dX11_when_69 : decode cX11_when 69 = .ok (.aload_n 0, 1) := by decide +kernel
theorem dX11_when_70 : decode cX11_when 70 = .ok (.getfield 42, 3) := by decide +kernel
theorem dX11_when_73 : decode cX11_when 73 = .ok (.getfield 170, 3) := by decide +kernel
theorem dX11_when_76 : decode cX11_when 76 = .ok (.iload_n 1, 1) := by decide +kernel
theorem dX11_when_77 : decode cX11_when 77 = .ok (.iaload, 1) := by decide +kernel
theorem dX11_when_78 : decode cX11_when 78 = .ok (.invokevirtual 395, 3) := by decide +kernel
theorem dX11_when_81 : decode cX11_when 81 = .ok (.bipush 10, 2) := by decide +kernel
theorem dX11_when_83 : decode cX11_when 83 = .ok (.bipush 8, 2) := by decide +kernel
theorem dX11_when_85 : decode cX11_when 85 = .ok (.iload 6, 2) := by decide +kernel
theorem dX11_when_87 : decode cX11_when 87 = .ok (.isub, 1) := by decide +kernel
theorem dX11_when_88 : decode cX11_when 88 = .ok (.invokestatic 399, 3) := by decide +kernel
theorem dX11_when_91 : decode cX11_when 91 = .ok (.lmul, 1) := by decide +kernel
theorem dX11_when_92 : decode cX11_when 92 = .ok (.lstore 7, 2) := by decide +kernel
theorem dX11_when_94 : decode cX11_when 94 = .ok (.lload 7, 2) := by decide +kernel
theorem dX11_when_96 : decode cX11_when 96 = .ok (.lload_n 3, 1) := by decide +kernel
theorem dX11_when_97 : decode cX11_when 97 = .ok (.lcmp, 1) := by decide +kernel
theorem dX11_when_108 : decode cX11_when 108 = .ok (.iinc 6 1, 3) := by decide +kernel
theorem dX11_when_111 : decode cX11_when 111 = .ok (.goto (-54), 3) := by decide +kernel
theorem dX11_when_98 : decode cX11_when 98 = .ok (.ifCond .le 10, 3) := by decide +kernel
theorem dX11_when_101 : decode cX11_when 101 = .ok (.lload 7, 2) := by decide +kernel
theorem dX11_when_103 : decode cX11_when 103 = .ok (.lstore_n 3, 1) := by decide +kernel
theorem dX11_when_104 : decode cX11_when 104 = .ok (.iload 6, 2) := by decide +kernel
theorem dX11_when_106 : decode cX11_when 106 = .ok (.istore 5, 2) := by decide +kernel
theorem dX11_when_114 : decode cX11_when 114 = .ok (.aload_n 0, 1) := by decide +kernel
theorem dX11_when_115 : decode cX11_when 115 = .ok (.lload_n 3, 1) := by decide +kernel
theorem dX11_when_116 : decode cX11_when 116 = .ok (.bipush 10, 2) := by decide +kernel
theorem dX11_when_118 : decode cX11_when 118 = .ok (.bipush 8, 2) := by decide +kernel
theorem dX11_when_120 : decode cX11_when 120 = .ok (.invokestatic 399, 3) := by decide +kernel
theorem dX11_when_123 : decode cX11_when 123 = .ok (.invokevirtual 403, 3) := by decide +kernel
theorem dX11_when_126 : decode cX11_when 126 = .ok (.iload 5, 2) := by decide +kernel
theorem dX11_when_128 : decode cX11_when 128 = .ok (.ireturn, 1) := by decide +kernel
theorem dX11_when_36 : decode cX11_when 36 = .ok (.bipush (-2), 2) := by decide +kernel
theorem dX11_when_38 : decode cX11_when 38 = .ok (.ireturn, 1) := by decide +kernel
theorem dX11_stir_0 : decode cX11_stir 0 = .ok (.iload_n 0, 1) := by decide +kernel
theorem dX11_stir_1 : decode cX11_stir 1 = .ok (.ldc_w 418, 3) := by decide +kernel
theorem dX11_stir_4 : decode cX11_stir 4 = .ok (.imul, 1) := by decide +kernel
theorem dX11_stir_5 : decode cX11_stir 5 = .ok (.sipush 12345, 3) := by decide +kernel
theorem dX11_stir_8 : decode cX11_stir 8 = .ok (.iadd, 1) := by decide +kernel
theorem dX11_stir_9 : decode cX11_stir 9 = .ok (.ireturn, 1) := by decide +kernel
theorem dX11_drawn_0 : decode cX11_drawn 0 = .ok (.iload_n 1, 1) := by decide +kernel
theorem dX11_drawn_1 : decode cX11_drawn 1 = .ok (.ifCond .le 12, 3) := by decide +kernel
theorem dX11_drawn_13 : decode cX11_drawn 13 = .ok (.iconst 0, 1) := by decide +kernel
theorem dX11_drawn_14 : decode cX11_drawn 14 = .ok (.ireturn, 1) := by decide +kernel
theorem dX11_drawn_4 : decode cX11_drawn 4 = .ok (.iload_n 0, 1) := by decide +kernel
theorem dX11_drawn_5 : decode cX11_drawn 5 = .ok (.bipush 16, 2) := by decide +kernel
theorem dX11_drawn_7 : decode cX11_drawn 7 = .ok (.iushr, 1) := by decide +kernel
theorem dX11_drawn_8 : decode cX11_drawn 8 = .ok (.iload_n 1, 1) := by decide +kernel
theorem dX11_drawn_9 : decode cX11_drawn 9 = .ok (.irem, 1) := by decide +kernel
theorem dX11_drawn_10 : decode cX11_drawn 10 = .ok (.goto 4, 3) := by decide +kernel
theorem dX11_season_0 : decode cX11_season 0 = .ok (.iload_n 2, 1) := by decide +kernel
theorem dX11_season_1 : decode cX11_season 1 = .ok (.iconst 1, 1) := by decide +kernel
theorem dX11_season_2 : decode cX11_season 2 = .ok (.if_icmp .lt 19, 3) := by decide +kernel
theorem dX11_season_21 : decode cX11_season 21 = .ok (.iconst (-1), 1) := by decide +kernel
theorem dX11_season_22 : decode cX11_season 22 = .ok (.ireturn, 1) := by decide +kernel
theorem dX11_season_5 : decode cX11_season 5 = .ok (.iload_n 2, 1) := by decide +kernel
theorem dX11_season_6 : decode cX11_season 6 = .ok (.bipush 60, 2) := by decide +kernel
theorem dX11_season_8 : decode cX11_season 8 = .ok (.if_icmp .gt 13, 3) := by decide +kernel
theorem dX11_season_11 : decode cX11_season 11 = .ok (.aload_n 0, 1) := by decide +kernel
theorem dX11_season_12 : decode cX11_season 12 = .ok (.getfield 42, 3) := by decide +kernel
theorem dX11_season_15 : decode cX11_season 15 = .ok (.getfield 197, 3) := by decide +kernel
theorem dX11_season_18 : decode cX11_season 18 = .ok (.ifCond .ne 5, 3) := by decide +kernel
theorem dX11_season_23 : decode cX11_season 23 = .ok (.aload_n 0, 1) := by decide +kernel
theorem dX11_season_24 : decode cX11_season 24 = .ok (.getfield 46, 3) := by decide +kernel
theorem dX11_season_27 : decode cX11_season 27 = .ok (.aload_n 0, 1) := by decide +kernel
theorem dX11_season_28 : decode cX11_season 28 = .ok (.getfield 42, 3) := by decide +kernel
theorem dX11_season_31 : decode cX11_season 31 = .ok (.invokevirtual 300, 3) := by decide +kernel
theorem dX11_season_34 : decode cX11_season 34 = .ok (.iload_n 1, 1) := by decide +kernel
theorem dX11_season_35 : decode cX11_season 35 = .ok (.istore_n 3, 1) := by decide +kernel
theorem dX11_season_36 : decode cX11_season 36 = .ok (.iconst 0, 1) := by decide +kernel
theorem dX11_season_37 : decode cX11_season 37 = .ok (.istore 4, 2) := by decide +kernel
theorem dX11_season_39 : decode cX11_season 39 = .ok (.iconst 0, 1) := by decide +kernel
theorem dX11_season_40 : decode cX11_season 40 = .ok (.istore 5, 2) := by decide +kernel
theorem dX11_season_42 : decode cX11_season 42 = .ok (.iconst 0, 1) := by decide +kernel
theorem dX11_season_43 : decode cX11_season 43 = .ok (.istore 6, 2) := by decide +kernel
theorem dX11_season_45 : decode cX11_season 45 = .ok (.iload 6, 2) := by decide +kernel
theorem dX11_season_47 : decode cX11_season 47 = .ok (.iload_n 2, 1) := by decide +kernel
